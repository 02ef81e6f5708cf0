theorem i153_0 : mm_cd 153 0 = some (.iload_n 2, 1, 0, 0) := rfl
theorem i153_1 : mm_cd 153 1 = some (.iconst 3, 1, 0, 0) := rfl
theorem i153_2 : mm_cd 153 2 = some (.invokestatic 148, 3, 0, 184) := rfl
theorem i153_5 : mm_cd 153 5 = some (.aload_n 0, 1, 0, 0) := rfl
theorem i153_6 : mm_cd 153 6 = some (.getfield 40, 3, ((10 : Nat) : Int), 4) := rfl
theorem i153_9 : mm_cd 153 9 = some (.getfield 357, 3, ((9 : Nat) : Int), 4) := rfl
theorem i153_12 : mm_cd 153 12 = some (.iload_n 1, 1, 0, 0) := rfl
theorem i153_13 : mm_cd 153 13 = some (.iload_n 2, 1, 0, 0) := rfl
theorem i153_14 : mm_cd 153 14 = some (.invokevirtual 367, 3, 0, 44) := rfl
theorem i153_17 : mm_cd 153 17 = some (.ireturn, 1, 0, 0) := rfl
/-- SerialGate.log(II)I -/
def q153 (v1 : Int32) (v2 : Int32) (s : mS) : Option mQ := bU (q184 v2 (3 : Int32) s) fun s1 => bN (q44 (26 + 26) v1 v2 s1) fun x3 s2 => rv x3 s2
theorem c153 {L : Nat} {xs : Nat → Int32} {v1 : Int32} {v2 : Int32} {s : mS} {r : mQ} (h : q153 v1 v2 s = some r) : ∀ d, 1 ≤ d → Cl L xs d 153 [.ref 0, .int v1, .int v2] (hp s) (hr r) := by
  intro d hd
  show Ev L xs d 153 0 [(0, .ref 0), (1, .int v1), (2, .int v2)] [] (hp s) (hr r)
  unfold q153 at h
  refine Ev.iload_n H153 i153_0 rfl ?_
  refine Ev.iconst H153 i153_1 kI_3 ?_
  refine Rd.cS2uT H153 i153_2 cal184 (Nat.le_of_ble_eq_true rfl) (Nat.le_of_ble_eq_true rfl) rfl rfl (Nat.lt_of_lt_of_le (by decide) hd) (fun q hq => c184 hq) h (fun s1 h => ?_)
  refine Ev.aload_n H153 i153_5 rfl ?_
  refine Rd.getR H153 i153_6 ob10 rfl ?_
  refine Rd.getR H153 i153_9 (ob9 mA9_26) rfl ?_
  refine Ev.iload_n H153 i153_12 rfl ?_
  refine Ev.iload_n H153 i153_13 rfl ?_
  refine Rd.cV2vN H153 i153_14 cal44 (ob4 (m9_4_26 mA9_26)) (Nat.le_of_ble_eq_true rfl) (Nat.le_of_ble_eq_true rfl) (Nat.lt_of_lt_of_le (by decide) hd) (fun q hq => c44 (m9_4_26 mA9_26) hq) h (fun x3 s2 h => ?_)
  exact Rd.ireturn H153 i153_17 rfl h
theorem i182_0 : mm_cd 182 0 = some (.aload_n 0, 1, 0, 0) := rfl
theorem i182_1 : mm_cd 182 1 = some (.iload_n 1, 1, 0, 0) := rfl
theorem i182_2 : mm_cd 182 2 = some (.invokevirtual 233, 3, 0, 181) := rfl
theorem i182_5 : mm_cd 182 5 = some (.aload_n 0, 1, 0, 0) := rfl
theorem i182_6 : mm_cd 182 6 = some (.iload_n 2, 1, 0, 0) := rfl
theorem i182_7 : mm_cd 182 7 = some (.invokevirtual 233, 3, 0, 181) := rfl
theorem i182_10 : mm_cd 182 10 = some (.iload_n 1, 1, 0, 0) := rfl
theorem i182_11 : mm_cd 182 11 = some (.iload_n 2, 1, 0, 0) := rfl
theorem i182_12 : mm_cd 182 12 = some (.if_icmp .ne 14, 3, 0, 0) := rfl
theorem i182_15 : mm_cd 182 15 = some (.new 107, 3, 1, 12) := rfl
theorem i182_26 : mm_cd 182 26 = some (.return_, 1, 0, 0) := rfl
/-- SerialGate.needTwo(II)V -/
def q182 (v1 : Int32) (v2 : Int32) (s : mS) : Option mQ := bU (q181 v1 s) fun s1 => bU (q181 v2 s1) fun s2 => if ¬ v1 = v2 then (ru s2) else (rx 0 s2)
theorem c182 {L : Nat} {xs : Nat → Int32} {v1 : Int32} {v2 : Int32} {s : mS} {r : mQ} (h : q182 v1 v2 s = some r) : ∀ d, 1 ≤ d → Cl L xs d 182 [.ref 0, .int v1, .int v2] (hp s) (hr r) := by
  intro d hd
  show Ev L xs d 182 0 [(0, .ref 0), (1, .int v1), (2, .int v2)] [] (hp s) (hr r)
  unfold q182 at h
  refine Ev.aload_n H182 i182_0 rfl ?_
  refine Ev.iload_n H182 i182_1 rfl ?_
  refine Rd.cV1uT H182 i182_2 cal181 ob10 (Nat.le_of_ble_eq_true rfl) (Nat.le_of_ble_eq_true rfl) rfl rfl (Nat.lt_of_lt_of_le (by decide) hd) (fun q hq => c181 hq) h (fun s1 h => ?_)
  refine Ev.aload_n H182 i182_5 rfl ?_
  refine Ev.iload_n H182 i182_6 rfl ?_
  refine Rd.cV1uT H182 i182_7 cal181 ob10 (Nat.le_of_ble_eq_true rfl) (Nat.le_of_ble_eq_true rfl) rfl rfl (Nat.lt_of_lt_of_le (by decide) hd) (fun q hq => c181 hq) h (fun s2 h => ?_)
  refine Ev.iload_n H182 i182_10 rfl ?_
  refine Ev.iload_n H182 i182_11 rfl ?_
  refine Rd.ic_ne H182 i182_12 (t := 26) (by decide) h (fun hc h => ?_) (fun hc h => ?_)
  · exact Rd.return_ H182 i182_26 rfl h
  · exact Rd.throw H182 i182_15 (by decide +kernel) (Nat.le_of_ble_eq_true rfl) h
theorem i154_0 : mm_cd 154 0 = some (.aload_n 0, 1, 0, 0) := rfl
theorem i154_1 : mm_cd 154 1 = some (.iload_n 1, 1, 0, 0) := rfl
theorem i154_2 : mm_cd 154 2 = some (.iload_n 2, 1, 0, 0) := rfl
theorem i154_3 : mm_cd 154 3 = some (.invokevirtual 371, 3, 0, 182) := rfl
theorem i154_6 : mm_cd 154 6 = some (.aload_n 0, 1, 0, 0) := rfl
theorem i154_7 : mm_cd 154 7 = some (.getfield 40, 3, ((10 : Nat) : Int), 4) := rfl
theorem i154_10 : mm_cd 154 10 = some (.getfield 59, 3, ((9 : Nat) : Int), 1) := rfl
theorem i154_13 : mm_cd 154 13 = some (.iload_n 1, 1, 0, 0) := rfl
theorem i154_14 : mm_cd 154 14 = some (.iload_n 2, 1, 0, 0) := rfl
theorem i154_15 : mm_cd 154 15 = some (.invokevirtual 374, 3, 0, 5) := rfl
theorem i154_18 : mm_cd 154 18 = some (.ireturn, 1, 0, 0) := rfl
/-- SerialGate.clash(II)Z -/
def q154 (v1 : Int32) (v2 : Int32) (s : mS) : Option mQ := bU (q182 v1 v2 s) fun s1 => bN (q5 (26 + 1) v1 v2 s1) fun x3 s2 => gB x3 <| rv x3 s2
theorem c154 {L : Nat} {xs : Nat → Int32} {v1 : Int32} {v2 : Int32} {s : mS} {r : mQ} (h : q154 v1 v2 s = some r) : ∀ d, 2 ≤ d → Cl L xs d 154 [.ref 0, .int v1, .int v2] (hp s) (hr r) := by
  intro d hd
  show Ev L xs d 154 0 [(0, .ref 0), (1, .int v1), (2, .int v2)] [] (hp s) (hr r)
  unfold q154 at h
  refine Ev.aload_n H154 i154_0 rfl ?_
  refine Ev.iload_n H154 i154_1 rfl ?_
  refine Ev.iload_n H154 i154_2 rfl ?_
  refine Rd.cV2uT H154 i154_3 cal182 ob10 (Nat.le_of_ble_eq_true rfl) (Nat.le_of_ble_eq_true rfl) rfl rfl (Nat.lt_of_lt_of_le (by decide) hd) (fun q hq => c182 hq) h (fun s1 h => ?_)
  refine Ev.aload_n H154 i154_6 rfl ?_
  refine Rd.getR H154 i154_7 ob10 rfl ?_
  refine Rd.getR H154 i154_10 (ob9 mA9_26) rfl ?_
  refine Ev.iload_n H154 i154_13 rfl ?_
  refine Ev.iload_n H154 i154_14 rfl ?_
  refine Rd.cV2vN H154 i154_15 cal5 (ob0 (m9_0_1 mA9_26)) (Nat.le_of_ble_eq_true rfl) (Nat.le_of_ble_eq_true rfl) (Nat.lt_of_lt_of_le (by decide) hd) (fun q hq => c5 (m9_0_1 mA9_26) hq) h (fun x3 s2 h => ?_)
  exact Rd.ireturnZ H154 i154_18 rfl h
theorem i155_0 : mm_cd 155 0 = some (.aload_n 0, 1, 0, 0) := rfl
theorem i155_1 : mm_cd 155 1 = some (.getfield 66, 3, ((10 : Nat) : Int), 8) := rfl
theorem i155_4 : mm_cd 155 4 = some (.invokevirtual 377, 3, 0, 49) := rfl
theorem i155_7 : mm_cd 155 7 = some (.ireturn, 1, 0, 0) := rfl
/-- SerialGate.apart()I -/
def q155 (s : mS) : Option mQ := bN (q49 s) fun x2 s1 => rv x2 s1
theorem c155 {L : Nat} {xs : Nat → Int32} {s : mS} {r : mQ} (h : q155 s = some r) : ∀ d, 4 ≤ d → Cl L xs d 155 [.ref 0] (hp s) (hr r) := by
  intro d hd
  show Ev L xs d 155 0 [(0, .ref 0)] [] (hp s) (hr r)
  unfold q155 at h
  refine Ev.aload_n H155 i155_0 rfl ?_
  refine Rd.getR H155 i155_1 ob10 rfl ?_
  refine Rd.cV0vN H155 i155_4 cal49 ob5 (Nat.le_of_ble_eq_true rfl) (Nat.le_of_ble_eq_true rfl) (Nat.lt_of_lt_of_le (by decide) hd) (fun q hq => c49 hq) h (fun x2 s1 h => ?_)
  exact Rd.ireturn H155 i155_7 rfl h
theorem i156_0 : mm_cd 156 0 = some (.aload_n 0, 1, 0, 0) := rfl
theorem i156_1 : mm_cd 156 1 = some (.getfield 66, 3, ((10 : Nat) : Int), 8) := rfl
theorem i156_4 : mm_cd 156 4 = some (.invokevirtual 380, 3, 0, 51) := rfl
theorem i156_7 : mm_cd 156 7 = some (.ireturn, 1, 0, 0) := rfl
/-- SerialGate.rounds()I -/
def q156 (s : mS) : Option mQ := bN (q51 s) fun x2 s1 => rv x2 s1
theorem c156 {L : Nat} {xs : Nat → Int32} {s : mS} {r : mQ} (h : q156 s = some r) : ∀ d, 12 ≤ d → Cl L xs d 156 [.ref 0] (hp s) (hr r) := by
  intro d hd
  show Ev L xs d 156 0 [(0, .ref 0)] [] (hp s) (hr r)
  unfold q156 at h
  refine Ev.aload_n H156 i156_0 rfl ?_
  refine Rd.getR H156 i156_1 ob10 rfl ?_
  refine Rd.cV0vN H156 i156_4 cal51 ob5 (Nat.le_of_ble_eq_true rfl) (Nat.le_of_ble_eq_true rfl) (Nat.lt_of_lt_of_le (by decide) hd) (fun q hq => c51 hq) h (fun x2 s1 h => ?_)
  exact Rd.ireturn H156 i156_7 rfl h
theorem i157_0 : mm_cd 157 0 = some (.aload_n 0, 1, 0, 0) := rfl
theorem i157_1 : mm_cd 157 1 = some (.getfield 66, 3, ((10 : Nat) : Int), 8) := rfl
theorem i157_4 : mm_cd 157 4 = some (.invokevirtual 383, 3, 0, 55) := rfl
theorem i157_7 : mm_cd 157 7 = some (.ireturn, 1, 0, 0) := rfl
/-- SerialGate.cover()I -/
def q157 (s : mS) : Option mQ := bN (q55 s) fun x2 s1 => rv x2 s1
theorem c157 {L : Nat} {xs : Nat → Int32} {s : mS} {r : mQ} (h : q157 s = some r) : ∀ d, 3 ≤ d → Cl L xs d 157 [.ref 0] (hp s) (hr r) := by
  intro d hd
  show Ev L xs d 157 0 [(0, .ref 0)] [] (hp s) (hr r)
  unfold q157 at h
  refine Ev.aload_n H157 i157_0 rfl ?_
  refine Rd.getR H157 i157_1 ob10 rfl ?_
  refine Rd.cV0vN H157 i157_4 cal55 ob5 (Nat.le_of_ble_eq_true rfl) (Nat.le_of_ble_eq_true rfl) (Nat.lt_of_lt_of_le (by decide) hd) (fun q hq => c55 hq) h (fun x2 s1 h => ?_)
  exact Rd.ireturn H157 i157_7 rfl h
theorem i158_0 : mm_cd 158 0 = some (.iload_n 1, 1, 0, 0) := rfl
theorem i158_1 : mm_cd 158 1 = some (.iconst (-1), 1, 0, 0) := rfl
theorem i158_2 : mm_cd 158 2 = some (.if_icmp .eq 8, 3, 0, 0) := rfl
theorem i158_5 : mm_cd 158 5 = some (.aload_n 0, 1, 0, 0) := rfl
theorem i158_6 : mm_cd 158 6 = some (.iload_n 1, 1, 0, 0) := rfl
theorem i158_7 : mm_cd 158 7 = some (.invokevirtual 233, 3, 0, 181) := rfl
theorem i158_10 : mm_cd 158 10 = some (.aload_n 0, 1, 0, 0) := rfl
theorem i158_11 : mm_cd 158 11 = some (.getfield 66, 3, ((10 : Nat) : Int), 8) := rfl
theorem i158_14 : mm_cd 158 14 = some (.iload_n 1, 1, 0, 0) := rfl
theorem i158_15 : mm_cd 158 15 = some (.invokevirtual 386, 3, 0, 57) := rfl
theorem i158_18 : mm_cd 158 18 = some (.ireturn, 1, 0, 0) := rfl
def q158_10 (v1 : Int32) (s : mS) : Option mQ := bN (q57 v1 s) fun x2 s1 => rv x2 s1
theorem t158_10 {L : Nat} {xs : Nat → Int32} {d : Nat} (hd : 11 ≤ d) {v1 : Int32} {s : mS} {r : mQ} (h : q158_10 v1 s = some r) : Ev L xs d 158 10 [(0, .ref 0), (1, .int v1)] [] (hp s) (hr r) := by
  unfold q158_10 at h
  refine Ev.aload_n H158 i158_10 rfl ?_
  refine Rd.getR H158 i158_11 ob10 rfl ?_
  refine Ev.iload_n H158 i158_14 rfl ?_
  refine Rd.cV1vN H158 i158_15 cal57 ob5 (Nat.le_of_ble_eq_true rfl) (Nat.le_of_ble_eq_true rfl) (Nat.lt_of_lt_of_le (by decide) hd) (fun q hq => c57 hq) h (fun x2 s1 h => ?_)
  exact Rd.ireturn H158 i158_18 rfl h
/-- SerialGate.pairs(I)I -/
def q158 (v1 : Int32) (s : mS) : Option mQ := if v1 = (-1 : Int32) then (q158_10 v1 s) else (bU (q181 v1 s) fun s3 => q158_10 v1 s3)
theorem c158 {L : Nat} {xs : Nat → Int32} {v1 : Int32} {s : mS} {r : mQ} (h : q158 v1 s = some r) : ∀ d, 11 ≤ d → Cl L xs d 158 [.ref 0, .int v1] (hp s) (hr r) := by
  intro d hd
  show Ev L xs d 158 0 [(0, .ref 0), (1, .int v1)] [] (hp s) (hr r)
  unfold q158 at h
  refine Ev.iload_n H158 i158_0 rfl ?_
  refine Ev.iconst H158 i158_1 kI_m1 ?_
  refine Rd.ic_eq H158 i158_2 (t := 10) (by decide) h (fun hc h => ?_) (fun hc h => ?_)
  · exact Ev.sub (l := [(0, .ref 0), (1, .int v1)]) rfl rfl (mm_sub_c rfl (mm_sub_c rfl mm_sub_n)) (t158_10 hd h)
  · refine Ev.aload_n H158 i158_5 rfl ?_
    refine Ev.iload_n H158 i158_6 rfl ?_
    refine Rd.cV1uT H158 i158_7 cal181 ob10 (Nat.le_of_ble_eq_true rfl) (Nat.le_of_ble_eq_true rfl) rfl rfl (Nat.lt_of_lt_of_le (by decide) hd) (fun q hq => c181 hq) h (fun s3 h => ?_)
    exact Ev.sub (l := [(0, .ref 0), (1, .int v1)]) rfl rfl (mm_sub_c rfl (mm_sub_c rfl mm_sub_n)) (t158_10 hd h)
theorem i159_0 : mm_cd 159 0 = some (.aload_n 0, 1, 0, 0) := rfl
theorem i159_1 : mm_cd 159 1 = some (.iload_n 1, 1, 0, 0) := rfl
theorem i159_2 : mm_cd 159 2 = some (.iload_n 2, 1, 0, 0) := rfl
theorem i159_3 : mm_cd 159 3 = some (.invokevirtual 371, 3, 0, 182) := rfl
theorem i159_6 : mm_cd 159 6 = some (.aload_n 0, 1, 0, 0) := rfl
theorem i159_7 : mm_cd 159 7 = some (.getfield 66, 3, ((10 : Nat) : Int), 8) := rfl
theorem i159_10 : mm_cd 159 10 = some (.iload_n 1, 1, 0, 0) := rfl
theorem i159_11 : mm_cd 159 11 = some (.iload_n 2, 1, 0, 0) := rfl
theorem i159_12 : mm_cd 159 12 = some (.invokevirtual 389, 3, 0, 59) := rfl
theorem i159_15 : mm_cd 159 15 = some (.ireturn, 1, 0, 0) := rfl
/-- SerialGate.rests(II)I -/
def q159 (v1 : Int32) (v2 : Int32) (s : mS) : Option mQ := bU (q182 v1 v2 s) fun s1 => bN (q59 v1 v2 s1) fun x3 s2 => rv x3 s2
theorem c159 {L : Nat} {xs : Nat → Int32} {v1 : Int32} {v2 : Int32} {s : mS} {r : mQ} (h : q159 v1 v2 s = some r) : ∀ d, 3 ≤ d → Cl L xs d 159 [.ref 0, .int v1, .int v2] (hp s) (hr r) := by
  intro d hd
  show Ev L xs d 159 0 [(0, .ref 0), (1, .int v1), (2, .int v2)] [] (hp s) (hr r)
  unfold q159 at h
  refine Ev.aload_n H159 i159_0 rfl ?_
  refine Ev.iload_n H159 i159_1 rfl ?_
  refine Ev.iload_n H159 i159_2 rfl ?_
  refine Rd.cV2uT H159 i159_3 cal182 ob10 (Nat.le_of_ble_eq_true rfl) (Nat.le_of_ble_eq_true rfl) rfl rfl (Nat.lt_of_lt_of_le (by decide) hd) (fun q hq => c182 hq) h (fun s1 h => ?_)
  refine Ev.aload_n H159 i159_6 rfl ?_
  refine Rd.getR H159 i159_7 ob10 rfl ?_
  refine Ev.iload_n H159 i159_10 rfl ?_
  refine Ev.iload_n H159 i159_11 rfl ?_
  refine Rd.cV2vN H159 i159_12 cal59 ob5 (Nat.le_of_ble_eq_true rfl) (Nat.le_of_ble_eq_true rfl) (Nat.lt_of_lt_of_le (by decide) hd) (fun q hq => c59 hq) h (fun x3 s2 h => ?_)
  exact Rd.ireturn H159 i159_15 rfl h
theorem i160_0 : mm_cd 160 0 = some (.iload_n 1, 1, 0, 0) := rfl
theorem i160_1 : mm_cd 160 1 = some (.ifCond .lt 17, 3, 0, 0) := rfl
theorem i160_4 : mm_cd 160 4 = some (.iload_n 1, 1, 0, 0) := rfl
theorem i160_5 : mm_cd 160 5 = some (.iconst 5, 1, 0, 0) := rfl
theorem i160_6 : mm_cd 160 6 = some (.if_icmp .gt 12, 3, 0, 0) := rfl
theorem i160_9 : mm_cd 160 9 = some (.iload_n 2, 1, 0, 0) := rfl
theorem i160_10 : mm_cd 160 10 = some (.ifCond .lt 8, 3, 0, 0) := rfl
theorem i160_13 : mm_cd 160 13 = some (.iload_n 2, 1, 0, 0) := rfl
theorem i160_14 : mm_cd 160 14 = some (.iconst 5, 1, 0, 0) := rfl
theorem i160_15 : mm_cd 160 15 = some (.if_icmp .le 14, 3, 0, 0) := rfl
theorem i160_18 : mm_cd 160 18 = some (.new 107, 3, 1, 8) := rfl
theorem i160_29 : mm_cd 160 29 = some (.aload_n 0, 1, 0, 0) := rfl
theorem i160_30 : mm_cd 160 30 = some (.getfield 66, 3, ((10 : Nat) : Int), 8) := rfl
theorem i160_33 : mm_cd 160 33 = some (.iload_n 1, 1, 0, 0) := rfl
theorem i160_34 : mm_cd 160 34 = some (.iload_n 2, 1, 0, 0) := rfl
theorem i160_35 : mm_cd 160 35 = some (.invokevirtual 394, 3, 0, 61) := rfl
theorem i160_38 : mm_cd 160 38 = some (.ireturn, 1, 0, 0) := rfl
def q160_18 (s : mS) : Option mQ := rx 0 s
theorem t160_18 {L : Nat} {xs : Nat → Int32} {d : Nat} (hd : 1 ≤ d) {s : mS} {r : mQ} (h : q160_18 s = some r) : Ev L xs d 160 18 [] [] (hp s) (hr r) := by
  unfold q160_18 at h
  exact Rd.throw H160 i160_18 (by decide +kernel) (Nat.le_of_ble_eq_true rfl) h
/-- SerialGate.odds(II)I -/
def q160 (v1 : Int32) (v2 : Int32) (s : mS) : Option mQ := if v1 < 0 then (q160_18 s) else (if (5 : Int32) < v1 then (q160_18 s) else (if v2 < 0 then (q160_18 s) else (if v2 ≤ (5 : Int32) then (bN (q61 v1 v2 s) fun x2 s1 => rv x2 s1) else (q160_18 s))))
theorem c160 {L : Nat} {xs : Nat → Int32} {v1 : Int32} {v2 : Int32} {s : mS} {r : mQ} (h : q160 v1 v2 s = some r) : ∀ d, 1 ≤ d → Cl L xs d 160 [.ref 0, .int v1, .int v2] (hp s) (hr r) := by
  intro d hd
  show Ev L xs d 160 0 [(0, .ref 0), (1, .int v1), (2, .int v2)] [] (hp s) (hr r)
  unfold q160 at h
  refine Ev.iload_n H160 i160_0 rfl ?_
  refine Rd.if_lt H160 i160_1 (t := 18) (by decide) h (fun hc h => ?_) (fun hc h => ?_)
  · exact Ev.sub (l := []) rfl rfl mm_sub_n (t160_18 hd h)
  · refine Ev.iload_n H160 i160_4 rfl ?_
    refine Ev.iconst H160 i160_5 kI_5 ?_
    refine Rd.ic_gt H160 i160_6 (t := 18) (by decide) h (fun hc h => ?_) (fun hc h => ?_)
    · exact Ev.sub (l := []) rfl rfl mm_sub_n (t160_18 hd h)
    · refine Ev.iload_n H160 i160_9 rfl ?_
      refine Rd.if_lt H160 i160_10 (t := 18) (by decide) h (fun hc h => ?_) (fun hc h => ?_)
      · exact Ev.sub (l := []) rfl rfl mm_sub_n (t160_18 hd h)
      · refine Ev.iload_n H160 i160_13 rfl ?_
        refine Ev.iconst H160 i160_14 kI_5 ?_
        refine Rd.ic_le H160 i160_15 (t := 29) (by decide) h (fun hc h => ?_) (fun hc h => ?_)
        · refine Ev.aload_n H160 i160_29 rfl ?_
          refine Rd.getR H160 i160_30 ob10 rfl ?_
          refine Ev.iload_n H160 i160_33 rfl ?_
          refine Ev.iload_n H160 i160_34 rfl ?_
          refine Rd.cV2vN H160 i160_35 cal61 ob5 (Nat.le_of_ble_eq_true rfl) (Nat.le_of_ble_eq_true rfl) (Nat.lt_of_lt_of_le (by decide) hd) (fun q hq => c61 hq) h (fun x2 s1 h => ?_)
          exact Rd.ireturn H160 i160_38 rfl h
        · exact Ev.sub (l := []) rfl rfl mm_sub_n (t160_18 hd h)
theorem i161_0 : mm_cd 161 0 = some (.iload_n 1, 1, 0, 0) := rfl
theorem i161_1 : mm_cd 161 1 = some (.iconst 2, 1, 0, 0) := rfl
theorem i161_2 : mm_cd 161 2 = some (.invokestatic 148, 3, 0, 184) := rfl
theorem i161_5 : mm_cd 161 5 = some (.aload_n 0, 1, 0, 0) := rfl
theorem i161_6 : mm_cd 161 6 = some (.getfield 40, 3, ((10 : Nat) : Int), 4) := rfl
theorem i161_9 : mm_cd 161 9 = some (.getfield 59, 3, ((9 : Nat) : Int), 1) := rfl
theorem i161_12 : mm_cd 161 12 = some (.astore_n 2, 1, 0, 0) := rfl
theorem i161_13 : mm_cd 161 13 = some (.iconst (-1), 1, 0, 0) := rfl
theorem i161_14 : mm_cd 161 14 = some (.istore_n 3, 1, 0, 0) := rfl
theorem i161_15 : mm_cd 161 15 = some (.iconst (-1), 1, 0, 0) := rfl
theorem i161_16 : mm_cd 161 16 = some (.istore 4, 2, 0, 0) := rfl
theorem i161_18 : mm_cd 161 18 = some (.iconst 0, 1, 0, 0) := rfl
theorem i161_19 : mm_cd 161 19 = some (.istore 5, 2, 0, 0) := rfl
theorem i161_21 : mm_cd 161 21 = some (.iload 5, 2, 0, 0) := rfl
theorem i161_23 : mm_cd 161 23 = some (.aload_n 2, 1, 0, 0) := rfl
theorem i161_24 : mm_cd 161 24 = some (.getfield 397, 3, ((0 : Nat) : Int), 0) := rfl
theorem i161_27 : mm_cd 161 27 = some (.if_icmp .ge 63, 3, 0, 0) := rfl
theorem i161_30 : mm_cd 161 30 = some (.iload_n 1, 1, 0, 0) := rfl
theorem i161_31 : mm_cd 161 31 = some (.ifCond .ne 13, 3, 0, 0) := rfl
theorem i161_34 : mm_cd 161 34 = some (.aload_n 2, 1, 0, 0) := rfl
theorem i161_35 : mm_cd 161 35 = some (.getfield 250, 3, ((0 : Nat) : Int), 5) := rfl
theorem i161_38 : mm_cd 161 38 = some (.iload 5, 2, 0, 0) := rfl
theorem i161_40 : mm_cd 161 40 = some (.iaload, 1, 0, 0) := rfl
theorem i161_41 : mm_cd 161 41 = some (.goto 27, 3, 0, 0) := rfl
theorem i161_44 : mm_cd 161 44 = some (.iload_n 1, 1, 0, 0) := rfl
theorem i161_45 : mm_cd 161 45 = some (.iconst 1, 1, 0, 0) := rfl
theorem i161_46 : mm_cd 161 46 = some (.if_icmp .ne 13, 3, 0, 0) := rfl
theorem i161_49 : mm_cd 161 49 = some (.aload_n 2, 1, 0, 0) := rfl
theorem i161_50 : mm_cd 161 50 = some (.getfield 247, 3, ((0 : Nat) : Int), 4) := rfl
theorem i161_53 : mm_cd 161 53 = some (.iload 5, 2, 0, 0) := rfl
theorem i161_55 : mm_cd 161 55 = some (.iaload, 1, 0, 0) := rfl
theorem i161_56 : mm_cd 161 56 = some (.goto 12, 3, 0, 0) := rfl
theorem i161_59 : mm_cd 161 59 = some (.aload_n 2, 1, 0, 0) := rfl
theorem i161_60 : mm_cd 161 60 = some (.iload 5, 2, 0, 0) := rfl
theorem i161_62 : mm_cd 161 62 = some (.invokevirtual 400, 3, 0, 4) := rfl
theorem i161_65 : mm_cd 161 65 = some (.invokestatic 403, 3, 0, 343) := rfl
theorem i161_68 : mm_cd 161 68 = some (.istore 6, 2, 0, 0) := rfl
theorem i161_70 : mm_cd 161 70 = some (.iload 6, 2, 0, 0) := rfl
theorem i161_72 : mm_cd 161 72 = some (.iload 4, 2, 0, 0) := rfl
theorem i161_74 : mm_cd 161 74 = some (.if_icmp .le 10, 3, 0, 0) := rfl
theorem i161_77 : mm_cd 161 77 = some (.iload 5, 2, 0, 0) := rfl
theorem i161_79 : mm_cd 161 79 = some (.istore_n 3, 1, 0, 0) := rfl
theorem i161_80 : mm_cd 161 80 = some (.iload 6, 2, 0, 0) := rfl
theorem i161_82 : mm_cd 161 82 = some (.istore 4, 2, 0, 0) := rfl
theorem i161_84 : mm_cd 161 84 = some (.iinc 5 1, 3, 0, 0) := rfl
theorem i161_87 : mm_cd 161 87 = some (.goto (-66), 3, 0, 0) := rfl
theorem i161_90 : mm_cd 161 90 = some (.iload_n 3, 1, 0, 0) := rfl
theorem i161_91 : mm_cd 161 91 = some (.ireturn, 1, 0, 0) := rfl
def q161_84 (k21 : Int32 → Int32 → Int32 → Int32 → mS → Option mQ) (v1 : Int32) (v3 : Int32) (v4 : Int32) (v5 : Int32) (s : mS) : Option mQ := bx (v5 + (1 : Int32)) fun x1 => k21 v1 v3 v4 x1 s
theorem t161_84 {L : Nat} {xs : Nat → Int32} {d : Nat} {k21 : Int32 → Int32 → Int32 → Int32 → mS → Option mQ} (hk21 : ∀ (v1 : Int32) (v3 : Int32) (v4 : Int32) (v5 : Int32) (s : mS) (r : mQ), k21 v1 v3 v4 v5 s = some r → Ev L xs d 161 21 [(1, .int v1), (2, .ref (26 + 1)), (3, .int v3), (4, .int v4), (5, .int v5)] [] (hp s) (hr r)) (hd : 1 ≤ d) {v1 : Int32} {v3 : Int32} {v4 : Int32} {v5 : Int32} {s : mS} {r : mQ} (h : q161_84 k21 v1 v3 v4 v5 s = some r) : Ev L xs d 161 84 [(1, .int v1), (2, .ref (26 + 1)), (3, .int v3), (4, .int v4), (5, .int v5)] [] (hp s) (hr r) := by
  unfold q161_84 at h
  refine Rd.iinc H161 i161_84 (Nat.le_of_ble_eq_true rfl) rfl kI_1 (lv2 := fun x1 => [(5, .int x1), (1, .int v1), (2, .ref (26 + 1)), (3, .int v3), (4, .int v4)]) (fun _ => rfl) h (fun x1 h => ?_)
  refine Ev.goto H161 i161_87 (t := 21) (by decide) ?_
  exact Ev.sub (l := [(1, .int v1), (2, .ref (26 + 1)), (3, .int v3), (4, .int v4), (5, .int x1)]) rfl rfl (mm_sub_c rfl (mm_sub_c rfl (mm_sub_c rfl (mm_sub_c rfl (mm_sub_c rfl mm_sub_n))))) (hk21 _ _ _ _ _ _ h)
def q161_68 (k21 : Int32 → Int32 → Int32 → Int32 → mS → Option mQ) (v1 : Int32) (v3 : Int32) (v4 : Int32) (v5 : Int32) (y0 : Int32) (s : mS) : Option mQ := if y0 ≤ v4 then (q161_84 k21 v1 v3 v4 v5 s) else (q161_84 k21 v1 v5 y0 v5 s)
theorem t161_68 {L : Nat} {xs : Nat → Int32} {d : Nat} {k21 : Int32 → Int32 → Int32 → Int32 → mS → Option mQ} (hk21 : ∀ (v1 : Int32) (v3 : Int32) (v4 : Int32) (v5 : Int32) (s : mS) (r : mQ), k21 v1 v3 v4 v5 s = some r → Ev L xs d 161 21 [(1, .int v1), (2, .ref (26 + 1)), (3, .int v3), (4, .int v4), (5, .int v5)] [] (hp s) (hr r)) (hd : 1 ≤ d) {v1 : Int32} {v3 : Int32} {v4 : Int32} {v5 : Int32} {y0 : Int32} {s : mS} {r : mQ} (h : q161_68 k21 v1 v3 v4 v5 y0 s = some r) : Ev L xs d 161 68 [(1, .int v1), (2, .ref (26 + 1)), (3, .int v3), (4, .int v4), (5, .int v5)] [.int y0] (hp s) (hr r) := by
  unfold q161_68 at h
  refine Ev.istore H161 i161_68 (Nat.le_of_ble_eq_true rfl) (lv2 := [(6, .int y0), (1, .int v1), (2, .ref (26 + 1)), (3, .int v3), (4, .int v4), (5, .int v5)]) rfl ?_
  refine Ev.iload H161 i161_70 rfl ?_
  refine Ev.iload H161 i161_72 rfl ?_
  refine Rd.ic_le H161 i161_74 (t := 84) (by decide) h (fun hc h => ?_) (fun hc h => ?_)
  · exact Ev.sub (l := [(1, .int v1), (2, .ref (26 + 1)), (3, .int v3), (4, .int v4), (5, .int v5)]) rfl rfl (mm_sub_c rfl (mm_sub_c rfl (mm_sub_c rfl (mm_sub_c rfl (mm_sub_c rfl mm_sub_n))))) (t161_84 (k21 := k21) hk21 hd h)
  · refine Ev.iload H161 i161_77 rfl ?_
    refine Ev.istore_n H161 i161_79 (Nat.le_of_ble_eq_true rfl) (lv2 := [(3, .int v5), (6, .int y0), (1, .int v1), (2, .ref (26 + 1)), (4, .int v4), (5, .int v5)]) rfl ?_
    refine Ev.iload H161 i161_80 rfl ?_
    refine Ev.istore H161 i161_82 (Nat.le_of_ble_eq_true rfl) (lv2 := [(4, .int y0), (3, .int v5), (6, .int y0), (1, .int v1), (2, .ref (26 + 1)), (5, .int v5)]) rfl ?_
    exact Ev.sub (l := [(1, .int v1), (2, .ref (26 + 1)), (3, .int v5), (4, .int y0), (5, .int v5)]) rfl rfl (mm_sub_c rfl (mm_sub_c rfl (mm_sub_c rfl (mm_sub_c rfl (mm_sub_c rfl mm_sub_n))))) (t161_84 (k21 := k21) hk21 hd h)
def q161_21 : Nat → Int32 → Int32 → Int32 → Int32 → mS → Option mQ
  | 0, _, _, _, _, _ => none
  | n + 1, v1, v3, v4, v5, s => if (s.1 (26 + 1) 0) ≤ v5 then (rv v3 s) else (if ¬ v1 = 0 then (if ¬ v1 = (1 : Int32) then (bN (q4 (26 + 1) v5 s) fun x3 s2 => bN (q343 x3 s2) fun x5 s4 => q161_68 (q161_21 n) v1 v3 v4 v5 x5 s4) else (gA 5 v5 <| q161_68 (q161_21 n) v1 v3 v4 v5 (s.1 ((26 + 1) + 3) v5.toNatClampNeg) s)) else (gA 5 v5 <| q161_68 (q161_21 n) v1 v3 v4 v5 (s.1 ((26 + 1) + 4) v5.toNatClampNeg) s))
theorem t161_21 {L : Nat} {xs : Nat → Int32} {d : Nat} (hd : 1 ≤ d) : ∀ (n : Nat) (v1 : Int32) (v3 : Int32) (v4 : Int32) (v5 : Int32) (s : mS) (r : mQ), q161_21 n v1 v3 v4 v5 s = some r → Ev L xs d 161 21 [(1, .int v1), (2, .ref (26 + 1)), (3, .int v3), (4, .int v4), (5, .int v5)] [] (hp s) (hr r) := by
  intro n
  induction n with
  | zero => intro v1 v3 v4 v5 s r h; rw [q161_21] at h; cases h
  | succ n ih =>
    intro v1 v3 v4 v5 s r h
    rw [q161_21] at h
    refine Ev.iload H161 i161_21 rfl ?_
    refine Ev.aload_n H161 i161_23 rfl ?_
    refine Rd.getI H161 i161_24 (ob0 (m9_0_1 mA9_26)) rfl ?_
    refine Rd.ic_ge H161 i161_27 (t := 90) (by decide) h (fun hc h => ?_) (fun hc h => ?_)
    · refine Ev.iload_n H161 i161_90 rfl ?_
      exact Rd.ireturn H161 i161_91 rfl h
    · refine Ev.iload_n H161 i161_30 rfl ?_
      refine Rd.if_ne H161 i161_31 (t := 44) (by decide) h (fun hc h => ?_) (fun hc h => ?_)
      · refine Ev.iload_n H161 i161_44 rfl ?_
        refine Ev.iconst H161 i161_45 kI_1 ?_
        refine Rd.ic_ne H161 i161_46 (t := 59) (by decide) h (fun hc h => ?_) (fun hc h => ?_)
        · refine Ev.aload_n H161 i161_59 rfl ?_
          refine Ev.iload H161 i161_60 rfl ?_
          refine Rd.cV1vN H161 i161_62 cal4 (ob0 (m9_0_1 mA9_26)) (Nat.le_of_ble_eq_true rfl) (Nat.le_of_ble_eq_true rfl) (Nat.lt_of_lt_of_le (by decide) hd) (fun q hq => c4 (m9_0_1 mA9_26) hq) h (fun x3 s2 h => ?_)
          refine Rd.cS1vN H161 i161_65 cal343 (Nat.le_of_ble_eq_true rfl) (Nat.le_of_ble_eq_true rfl) (Nat.lt_of_lt_of_le (by decide) hd) (fun q hq => c343 hq) h (fun x5 s4 h => ?_)
          exact Ev.sub (l := [(1, .int v1), (2, .ref (26 + 1)), (3, .int v3), (4, .int v4), (5, .int v5)]) rfl rfl (mm_sub_c rfl (mm_sub_c rfl (mm_sub_c rfl (mm_sub_c rfl (mm_sub_c rfl mm_sub_n))))) (t161_68 (k21 := (q161_21 n)) (fun _ _ _ _ _ _ h => ih _ _ _ _ _ _ h) hd h)
        · refine Ev.aload_n H161 i161_49 rfl ?_
          refine Rd.getR H161 i161_50 (ob0 (m9_0_1 mA9_26)) rfl ?_
          refine Ev.iload H161 i161_53 rfl ?_
          refine Rd.iaload H161 i161_55 (ar0_3 (m9_0_1 mA9_26)) h (fun h => ?_)
          refine Ev.goto H161 i161_56 (t := 68) (by decide) ?_
          exact Ev.sub (l := [(1, .int v1), (2, .ref (26 + 1)), (3, .int v3), (4, .int v4), (5, .int v5)]) rfl rfl (mm_sub_c rfl (mm_sub_c rfl (mm_sub_c rfl (mm_sub_c rfl (mm_sub_c rfl mm_sub_n))))) (t161_68 (k21 := (q161_21 n)) (fun _ _ _ _ _ _ h => ih _ _ _ _ _ _ h) hd h)
      · refine Ev.aload_n H161 i161_34 rfl ?_
        refine Rd.getR H161 i161_35 (ob0 (m9_0_1 mA9_26)) rfl ?_
        refine Ev.iload H161 i161_38 rfl ?_
        refine Rd.iaload H161 i161_40 (ar0_4 (m9_0_1 mA9_26)) h (fun h => ?_)
        refine Ev.goto H161 i161_41 (t := 68) (by decide) ?_
        exact Ev.sub (l := [(1, .int v1), (2, .ref (26 + 1)), (3, .int v3), (4, .int v4), (5, .int v5)]) rfl rfl (mm_sub_c rfl (mm_sub_c rfl (mm_sub_c rfl (mm_sub_c rfl (mm_sub_c rfl mm_sub_n))))) (t161_68 (k21 := (q161_21 n)) (fun _ _ _ _ _ _ h => ih _ _ _ _ _ _ h) hd h)
/-- SerialGate.most(I)I -/
def q161 (v1 : Int32) (s : mS) : Option mQ := bU (q184 v1 (2 : Int32) s) fun s6 => q161_21 10000 v1 (-1 : Int32) (-1 : Int32) (0 : Int32) s6
theorem c161 {L : Nat} {xs : Nat → Int32} {v1 : Int32} {s : mS} {r : mQ} (h : q161 v1 s = some r) : ∀ d, 1 ≤ d → Cl L xs d 161 [.ref 0, .int v1] (hp s) (hr r) := by
  intro d hd
  show Ev L xs d 161 0 [(0, .ref 0), (1, .int v1)] [] (hp s) (hr r)
  unfold q161 at h
  refine Ev.iload_n H161 i161_0 rfl ?_
  refine Ev.iconst H161 i161_1 kI_2 ?_
  refine Rd.cS2uT H161 i161_2 cal184 (Nat.le_of_ble_eq_true rfl) (Nat.le_of_ble_eq_true rfl) rfl rfl (Nat.lt_of_lt_of_le (by decide) hd) (fun q hq => c184 hq) h (fun s6 h => ?_)
  refine Ev.aload_n H161 i161_5 rfl ?_
  refine Rd.getR H161 i161_6 ob10 rfl ?_
  refine Rd.getR H161 i161_9 (ob9 mA9_26) rfl ?_
  refine Ev.astore_n H161 i161_12 (Nat.le_of_ble_eq_true rfl) (lv2 := [(2, .ref (26 + 1)), (0, .ref 0), (1, .int v1)]) rfl ?_
  refine Ev.iconst H161 i161_13 kI_m1 ?_
  refine Ev.istore_n H161 i161_14 (Nat.le_of_ble_eq_true rfl) (lv2 := [(3, .int (-1 : Int32)), (2, .ref (26 + 1)), (0, .ref 0), (1, .int v1)]) rfl ?_
  refine Ev.iconst H161 i161_15 kI_m1 ?_
  refine Ev.istore H161 i161_16 (Nat.le_of_ble_eq_true rfl) (lv2 := [(4, .int (-1 : Int32)), (3, .int (-1 : Int32)), (2, .ref (26 + 1)), (0, .ref 0), (1, .int v1)]) rfl ?_
  refine Ev.iconst H161 i161_18 kI_0 ?_
  refine Ev.istore H161 i161_19 (Nat.le_of_ble_eq_true rfl) (lv2 := [(5, .int (0 : Int32)), (4, .int (-1 : Int32)), (3, .int (-1 : Int32)), (2, .ref (26 + 1)), (0, .ref 0), (1, .int v1)]) rfl ?_
  exact Ev.sub (l := [(1, .int v1), (2, .ref (26 + 1)), (3, .int (-1 : Int32)), (4, .int (-1 : Int32)), (5, .int (0 : Int32))]) rfl rfl (mm_sub_c rfl (mm_sub_c rfl (mm_sub_c rfl (mm_sub_c rfl (mm_sub_c rfl mm_sub_n))))) (t161_21 hd 10000 _ _ _ _ _ _ h)
theorem i162_0 : mm_cd 162 0 = some (.aload_n 0, 1, 0, 0) := rfl
theorem i162_1 : mm_cd 162 1 = some (.getfield 40, 3, ((10 : Nat) : Int), 4) := rfl
theorem i162_4 : mm_cd 162 4 = some (.getfield 59, 3, ((9 : Nat) : Int), 1) := rfl
theorem i162_7 : mm_cd 162 7 = some (.invokevirtual 408, 3, 0, 10) := rfl
theorem i162_10 : mm_cd 162 10 = some (.ireturn, 1, 0, 0) := rfl
/-- SerialGate.hot()I -/
def q162 (s : mS) : Option mQ := bN (q10 (26 + 1) s) fun x2 s1 => rv x2 s1
theorem c162 {L : Nat} {xs : Nat → Int32} {s : mS} {r : mQ} (h : q162 s = some r) : ∀ d, 2 ≤ d → Cl L xs d 162 [.ref 0] (hp s) (hr r) := by
  intro d hd
  show Ev L xs d 162 0 [(0, .ref 0)] [] (hp s) (hr r)
  unfold q162 at h
  refine Ev.aload_n H162 i162_0 rfl ?_
  refine Rd.getR H162 i162_1 ob10 rfl ?_
  refine Rd.getR H162 i162_4 (ob9 mA9_26) rfl ?_
  refine Rd.cV0vN H162 i162_7 cal10 (ob0 (m9_0_1 mA9_26)) (Nat.le_of_ble_eq_true rfl) (Nat.le_of_ble_eq_true rfl) (Nat.lt_of_lt_of_le (by decide) hd) (fun q hq => c10 (m9_0_1 mA9_26) hq) h (fun x2 s1 h => ?_)
  exact Rd.ireturn H162 i162_10 rfl h
theorem i163_0 : mm_cd 163 0 = some (.aload_n 0, 1, 0, 0) := rfl
theorem i163_1 : mm_cd 163 1 = some (.getfield 40, 3, ((10 : Nat) : Int), 4) := rfl
theorem i163_4 : mm_cd 163 4 = some (.getfield 59, 3, ((9 : Nat) : Int), 1) := rfl
theorem i163_7 : mm_cd 163 7 = some (.invokevirtual 411, 3, 0, 11) := rfl
theorem i163_10 : mm_cd 163 10 = some (.ireturn, 1, 0, 0) := rfl
/-- SerialGate.twins()I -/
def q163 (s : mS) : Option mQ := bN (q11 (26 + 1) s) fun x2 s1 => rv x2 s1
theorem c163 {L : Nat} {xs : Nat → Int32} {s : mS} {r : mQ} (h : q163 s = some r) : ∀ d, 1 ≤ d → Cl L xs d 163 [.ref 0] (hp s) (hr r) := by
  intro d hd
  show Ev L xs d 163 0 [(0, .ref 0)] [] (hp s) (hr r)
  unfold q163 at h
  refine Ev.aload_n H163 i163_0 rfl ?_
  refine Rd.getR H163 i163_1 ob10 rfl ?_
  refine Rd.getR H163 i163_4 (ob9 mA9_26) rfl ?_
  refine Rd.cV0vN H163 i163_7 cal11 (ob0 (m9_0_1 mA9_26)) (Nat.le_of_ble_eq_true rfl) (Nat.le_of_ble_eq_true rfl) (Nat.lt_of_lt_of_le (by decide) hd) (fun q hq => c11 (m9_0_1 mA9_26) hq) h (fun x2 s1 h => ?_)
  exact Rd.ireturn H163 i163_10 rfl h
theorem i168_0 : mm_cd 168 0 = some (.iconst 0, 1, 0, 0) := rfl
theorem i168_1 : mm_cd 168 1 = some (.istore_n 2, 1, 0, 0) := rfl
theorem i168_2 : mm_cd 168 2 = some (.iconst 0, 1, 0, 0) := rfl
theorem i168_3 : mm_cd 168 3 = some (.istore_n 3, 1, 0, 0) := rfl
theorem i168_4 : mm_cd 168 4 = some (.iload_n 3, 1, 0, 0) := rfl
theorem i168_5 : mm_cd 168 5 = some (.iconst 1, 1, 0, 0) := rfl
theorem i168_6 : mm_cd 168 6 = some (.iadd, 1, 0, 0) := rfl
theorem i168_7 : mm_cd 168 7 = some (.aload_n 0, 1, 0, 0) := rfl
theorem i168_8 : mm_cd 168 8 = some (.getfield 10, 3, ((10 : Nat) : Int), 0) := rfl
theorem i168_11 : mm_cd 168 11 = some (.getfield 88, 3, ((8 : Nat) : Int), 1) := rfl
theorem i168_14 : mm_cd 168 14 = some (.if_icmp .ge 53, 3, 0, 0) := rfl
theorem i168_17 : mm_cd 168 17 = some (.aload_n 0, 1, 0, 0) := rfl
theorem i168_18 : mm_cd 168 18 = some (.getfield 40, 3, ((10 : Nat) : Int), 4) := rfl
theorem i168_21 : mm_cd 168 21 = some (.getfield 59, 3, ((9 : Nat) : Int), 1) := rfl
theorem i168_24 : mm_cd 168 24 = some (.aload_n 0, 1, 0, 0) := rfl
theorem i168_25 : mm_cd 168 25 = some (.getfield 10, 3, ((10 : Nat) : Int), 0) := rfl
theorem i168_28 : mm_cd 168 28 = some (.getfield 434, 3, ((8 : Nat) : Int), 0) := rfl
theorem i168_31 : mm_cd 168 31 = some (.iload_n 3, 1, 0, 0) := rfl
theorem i168_32 : mm_cd 168 32 = some (.iaload, 1, 0, 0) := rfl
theorem i168_33 : mm_cd 168 33 = some (.invokevirtual 426, 3, 0, 6) := rfl
theorem i168_36 : mm_cd 168 36 = some (.iload_n 1, 1, 0, 0) := rfl
theorem i168_37 : mm_cd 168 37 = some (.ishr, 1, 0, 0) := rfl
theorem i168_38 : mm_cd 168 38 = some (.iconst 1, 1, 0, 0) := rfl
theorem i168_39 : mm_cd 168 39 = some (.iand, 1, 0, 0) := rfl
theorem i168_40 : mm_cd 168 40 = some (.istore 4, 2, 0, 0) := rfl
theorem i168_42 : mm_cd 168 42 = some (.iload 4, 2, 0, 0) := rfl
theorem i168_44 : mm_cd 168 44 = some (.aload_n 0, 1, 0, 0) := rfl
theorem i168_45 : mm_cd 168 45 = some (.getfield 10, 3, ((10 : Nat) : Int), 0) := rfl
theorem i168_48 : mm_cd 168 48 = some (.getfield 434, 3, ((8 : Nat) : Int), 0) := rfl
theorem i168_51 : mm_cd 168 51 = some (.iload_n 3, 1, 0, 0) := rfl
theorem i168_52 : mm_cd 168 52 = some (.iconst 1, 1, 0, 0) := rfl
theorem i168_53 : mm_cd 168 53 = some (.iadd, 1, 0, 0) := rfl
theorem i168_54 : mm_cd 168 54 = some (.iaload, 1, 0, 0) := rfl
theorem i168_55 : mm_cd 168 55 = some (.if_icmp .eq 6, 3, 0, 0) := rfl
theorem i168_58 : mm_cd 168 58 = some (.iinc 2 1, 3, 0, 0) := rfl
theorem i168_61 : mm_cd 168 61 = some (.iinc 3 2, 3, 0, 0) := rfl
theorem i168_64 : mm_cd 168 64 = some (.goto (-60), 3, 0, 0) := rfl
theorem i168_67 : mm_cd 168 67 = some (.iload_n 2, 1, 0, 0) := rfl
theorem i168_68 : mm_cd 168 68 = some (.ireturn, 1, 0, 0) := rfl
def q168_61 (k4 : Int32 → Int32 → Int32 → mS → Option mQ) (v1 : Int32) (v2 : Int32) (v3 : Int32) (s : mS) : Option mQ := bx (v3 + (2 : Int32)) fun x1 => k4 v1 v2 x1 s
theorem t168_61 {L : Nat} {xs : Nat → Int32} {d : Nat} {k4 : Int32 → Int32 → Int32 → mS → Option mQ} (hk4 : ∀ (v1 : Int32) (v2 : Int32) (v3 : Int32) (s : mS) (r : mQ), k4 v1 v2 v3 s = some r → Ev L xs d 168 4 [(0, .ref 0), (1, .int v1), (2, .int v2), (3, .int v3)] [] (hp s) (hr r)) (hd : 1 ≤ d) {v1 : Int32} {v2 : Int32} {v3 : Int32} {s : mS} {r : mQ} (h : q168_61 k4 v1 v2 v3 s = some r) : Ev L xs d 168 61 [(0, .ref 0), (1, .int v1), (2, .int v2), (3, .int v3)] [] (hp s) (hr r) := by
  unfold q168_61 at h
  refine Rd.iinc H168 i168_61 (Nat.le_of_ble_eq_true rfl) rfl kI_2 (lv2 := fun x1 => [(3, .int x1), (0, .ref 0), (1, .int v1), (2, .int v2)]) (fun _ => rfl) h (fun x1 h => ?_)
  refine Ev.goto H168 i168_64 (t := 4) (by decide) ?_
  exact Ev.sub (l := [(0, .ref 0), (1, .int v1), (2, .int v2), (3, .int x1)]) rfl rfl (mm_sub_c rfl (mm_sub_c rfl (mm_sub_c rfl (mm_sub_c rfl mm_sub_n)))) (hk4 _ _ _ _ _ h)
def q168_4 : Nat → Int32 → Int32 → Int32 → mS → Option mQ
  | 0, _, _, _, _ => none
  | n + 1, v1, v2, v3, s => if (s.1 1 1) ≤ (v3 + (1 : Int32)) then (rv v2 s) else (gA 400 v3 <| bN (q6 (26 + 1) (s.1 2 v3.toNatClampNeg) s) fun x3 s2 => bx ((shrI x3 v1) &&& (1 : Int32)) fun x4 => gA 400 (v3 + (1 : Int32)) <| if x4 = (s2.1 2 (v3 + (1 : Int32)).toNatClampNeg) then (q168_61 (q168_4 n) v1 v2 v3 s2) else (bx (v2 + (1 : Int32)) fun x5 => q168_61 (q168_4 n) v1 x5 v3 s2))
theorem t168_4 {L : Nat} {xs : Nat → Int32} {d : Nat} (hd : 1 ≤ d) : ∀ (n : Nat) (v1 : Int32) (v2 : Int32) (v3 : Int32) (s : mS) (r : mQ), q168_4 n v1 v2 v3 s = some r → Ev L xs d 168 4 [(0, .ref 0), (1, .int v1), (2, .int v2), (3, .int v3)] [] (hp s) (hr r) := by
  intro n
  induction n with
  | zero => intro v1 v2 v3 s r h; rw [q168_4] at h; cases h
  | succ n ih =>
    intro v1 v2 v3 s r h
    rw [q168_4] at h
    refine Ev.iload_n H168 i168_4 rfl ?_
    refine Ev.iconst H168 i168_5 kI_1 ?_
    refine Ev.iadd H168 i168_6 ?_
    refine Ev.aload_n H168 i168_7 rfl ?_
    refine Rd.getR H168 i168_8 ob10 rfl ?_
    refine Rd.getI H168 i168_11 ob8 rfl ?_
    refine Rd.ic_ge H168 i168_14 (t := 67) (by decide) h (fun hc h => ?_) (fun hc h => ?_)
    · refine Ev.iload_n H168 i168_67 rfl ?_
      exact Rd.ireturn H168 i168_68 rfl h
    · refine Ev.aload_n H168 i168_17 rfl ?_
      refine Rd.getR H168 i168_18 ob10 rfl ?_
      refine Rd.getR H168 i168_21 (ob9 mA9_26) rfl ?_
      refine Ev.aload_n H168 i168_24 rfl ?_
      refine Rd.getR H168 i168_25 ob10 rfl ?_
      refine Rd.getR H168 i168_28 ob8 rfl ?_
      refine Ev.iload_n H168 i168_31 rfl ?_
      refine Rd.iaload H168 i168_32 ar_2 h (fun h => ?_)
      refine Rd.cV1vN H168 i168_33 cal6 (ob0 (m9_0_1 mA9_26)) (Nat.le_of_ble_eq_true rfl) (Nat.le_of_ble_eq_true rfl) (Nat.lt_of_lt_of_le (by decide) hd) (fun q hq => c6 (m9_0_1 mA9_26) hq) h (fun x3 s2 h => ?_)
      refine Ev.iload_n H168 i168_36 rfl ?_
      refine Rd.ishr H168 i168_37 ?_
      refine Ev.iconst H168 i168_38 kI_1 ?_
      refine Ev.iand H168 i168_39 ?_
      refine Rd.istore H168 i168_40 (Nat.le_of_ble_eq_true rfl) (lv2 := fun x4 => [(4, .int x4), (0, .ref 0), (1, .int v1), (2, .int v2), (3, .int v3)]) (fun _ => rfl) h (fun x4 h => ?_)
      refine Ev.iload H168 i168_42 rfl ?_
      refine Ev.aload_n H168 i168_44 rfl ?_
      refine Rd.getR H168 i168_45 ob10 rfl ?_
      refine Rd.getR H168 i168_48 ob8 rfl ?_
      refine Ev.iload_n H168 i168_51 rfl ?_
      refine Ev.iconst H168 i168_52 kI_1 ?_
      refine Ev.iadd H168 i168_53 ?_
      refine Rd.iaload H168 i168_54 ar_2 h (fun h => ?_)
      refine Rd.ic_eq H168 i168_55 (t := 61) (by decide) h (fun hc h => ?_) (fun hc h => ?_)
      · exact Ev.sub (l := [(0, .ref 0), (1, .int v1), (2, .int v2), (3, .int v3)]) rfl rfl (mm_sub_c rfl (mm_sub_c rfl (mm_sub_c rfl (mm_sub_c rfl mm_sub_n)))) (t168_61 (k4 := (q168_4 n)) (fun _ _ _ _ _ h => ih _ _ _ _ _ h) hd h)
      · refine Rd.iinc H168 i168_58 (Nat.le_of_ble_eq_true rfl) rfl kI_1 (lv2 := fun x5 => [(2, .int x5), (4, .int x4), (0, .ref 0), (1, .int v1), (3, .int v3)]) (fun _ => rfl) h (fun x5 h => ?_)
        exact Ev.sub (l := [(0, .ref 0), (1, .int v1), (2, .int x5), (3, .int v3)]) rfl rfl (mm_sub_c rfl (mm_sub_c rfl (mm_sub_c rfl (mm_sub_c rfl mm_sub_n)))) (t168_61 (k4 := (q168_4 n)) (fun _ _ _ _ _ h => ih _ _ _ _ _ h) hd h)
/-- SerialGate.wrongRows(I)I -/
def q168 (v1 : Int32) (s : mS) : Option mQ := q168_4 10000 v1 (0 : Int32) (0 : Int32) s
theorem c168 {L : Nat} {xs : Nat → Int32} {v1 : Int32} {s : mS} {r : mQ} (h : q168 v1 s = some r) : ∀ d, 1 ≤ d → Cl L xs d 168 [.ref 0, .int v1] (hp s) (hr r) := by
  intro d hd
  show Ev L xs d 168 0 [(0, .ref 0), (1, .int v1)] [] (hp s) (hr r)
  unfold q168 at h
  refine Ev.iconst H168 i168_0 kI_0 ?_
  refine Ev.istore_n H168 i168_1 (Nat.le_of_ble_eq_true rfl) (lv2 := [(2, .int (0 : Int32)), (0, .ref 0), (1, .int v1)]) rfl ?_
  refine Ev.iconst H168 i168_2 kI_0 ?_
  refine Ev.istore_n H168 i168_3 (Nat.le_of_ble_eq_true rfl) (lv2 := [(3, .int (0 : Int32)), (2, .int (0 : Int32)), (0, .ref 0), (1, .int v1)]) rfl ?_
  exact Ev.sub (l := [(0, .ref 0), (1, .int v1), (2, .int (0 : Int32)), (3, .int (0 : Int32))]) rfl rfl (mm_sub_c rfl (mm_sub_c rfl (mm_sub_c rfl (mm_sub_c rfl mm_sub_n)))) (t168_4 hd 10000 _ _ _ _ _ h)
theorem i167_0 : mm_cd 167 0 = some (.iconst 0, 1, 0, 0) := rfl
theorem i167_1 : mm_cd 167 1 = some (.istore_n 1, 1, 0, 0) := rfl
theorem i167_2 : mm_cd 167 2 = some (.iconst 0, 1, 0, 0) := rfl
theorem i167_3 : mm_cd 167 3 = some (.istore_n 2, 1, 0, 0) := rfl
theorem i167_4 : mm_cd 167 4 = some (.iload_n 2, 1, 0, 0) := rfl
theorem i167_5 : mm_cd 167 5 = some (.aload_n 0, 1, 0, 0) := rfl
theorem i167_6 : mm_cd 167 6 = some (.getfield 40, 3, ((10 : Nat) : Int), 4) := rfl
theorem i167_9 : mm_cd 167 9 = some (.getfield 59, 3, ((9 : Nat) : Int), 1) := rfl
theorem i167_12 : mm_cd 167 12 = some (.getfield 397, 3, ((0 : Nat) : Int), 0) := rfl
theorem i167_15 : mm_cd 167 15 = some (.if_icmp .ge 24, 3, 0, 0) := rfl
theorem i167_18 : mm_cd 167 18 = some (.aload_n 0, 1, 0, 0) := rfl
theorem i167_19 : mm_cd 167 19 = some (.iload_n 2, 1, 0, 0) := rfl
theorem i167_20 : mm_cd 167 20 = some (.invokevirtual 423, 3, 0, 168) := rfl
theorem i167_23 : mm_cd 167 23 = some (.iconst 1, 1, 0, 0) := rfl
theorem i167_24 : mm_cd 167 24 = some (.if_icmp .gt 9, 3, 0, 0) := rfl
theorem i167_27 : mm_cd 167 27 = some (.iload_n 1, 1, 0, 0) := rfl
theorem i167_28 : mm_cd 167 28 = some (.iconst 1, 1, 0, 0) := rfl
theorem i167_29 : mm_cd 167 29 = some (.iload_n 2, 1, 0, 0) := rfl
theorem i167_30 : mm_cd 167 30 = some (.ishl, 1, 0, 0) := rfl
theorem i167_31 : mm_cd 167 31 = some (.ior, 1, 0, 0) := rfl
theorem i167_32 : mm_cd 167 32 = some (.istore_n 1, 1, 0, 0) := rfl
theorem i167_33 : mm_cd 167 33 = some (.iinc 2 1, 3, 0, 0) := rfl
theorem i167_36 : mm_cd 167 36 = some (.goto (-32), 3, 0, 0) := rfl
theorem i167_39 : mm_cd 167 39 = some (.iload_n 1, 1, 0, 0) := rfl
theorem i167_40 : mm_cd 167 40 = some (.ireturn, 1, 0, 0) := rfl
def q167_33 (k4 : Int32 → Int32 → mS → Option mQ) (v1 : Int32) (v2 : Int32) (s : mS) : Option mQ := bx (v2 + (1 : Int32)) fun x1 => k4 v1 x1 s
theorem t167_33 {L : Nat} {xs : Nat → Int32} {d : Nat} {k4 : Int32 → Int32 → mS → Option mQ} (hk4 : ∀ (v1 : Int32) (v2 : Int32) (s : mS) (r : mQ), k4 v1 v2 s = some r → Ev L xs d 167 4 [(0, .ref 0), (1, .int v1), (2, .int v2)] [] (hp s) (hr r)) (hd : 2 ≤ d) {v1 : Int32} {v2 : Int32} {s : mS} {r : mQ} (h : q167_33 k4 v1 v2 s = some r) : Ev L xs d 167 33 [(0, .ref 0), (1, .int v1), (2, .int v2)] [] (hp s) (hr r) := by
  unfold q167_33 at h
  refine Rd.iinc H167 i167_33 (Nat.le_of_ble_eq_true rfl) rfl kI_1 (lv2 := fun x1 => [(2, .int x1), (0, .ref 0), (1, .int v1)]) (fun _ => rfl) h (fun x1 h => ?_)
  refine Ev.goto H167 i167_36 (t := 4) (by decide) ?_
  exact Ev.sub (l := [(0, .ref 0), (1, .int v1), (2, .int x1)]) rfl rfl (mm_sub_c rfl (mm_sub_c rfl (mm_sub_c rfl mm_sub_n))) (hk4 _ _ _ _ h)
def q167_4 : Nat → Int32 → Int32 → mS → Option mQ
  | 0, _, _, _ => none
  | n + 1, v1, v2, s => if (s.1 (26 + 1) 0) ≤ v2 then (rv v1 s) else (bN (q168 v2 s) fun x3 s2 => if (1 : Int32) < x3 then (q167_33 (q167_4 n) v1 v2 s2) else (bx (v1 ||| (shlI (1 : Int32) v2)) fun x4 => q167_33 (q167_4 n) x4 v2 s2))
theorem t167_4 {L : Nat} {xs : Nat → Int32} {d : Nat} (hd : 2 ≤ d) : ∀ (n : Nat) (v1 : Int32) (v2 : Int32) (s : mS) (r : mQ), q167_4 n v1 v2 s = some r → Ev L xs d 167 4 [(0, .ref 0), (1, .int v1), (2, .int v2)] [] (hp s) (hr r) := by
  intro n
  induction n with
  | zero => intro v1 v2 s r h; rw [q167_4] at h; cases h
  | succ n ih =>
    intro v1 v2 s r h
    rw [q167_4] at h
    refine Ev.iload_n H167 i167_4 rfl ?_
    refine Ev.aload_n H167 i167_5 rfl ?_
    refine Rd.getR H167 i167_6 ob10 rfl ?_
    refine Rd.getR H167 i167_9 (ob9 mA9_26) rfl ?_
    refine Rd.getI H167 i167_12 (ob0 (m9_0_1 mA9_26)) rfl ?_
    refine Rd.ic_ge H167 i167_15 (t := 39) (by decide) h (fun hc h => ?_) (fun hc h => ?_)
    · refine Ev.iload_n H167 i167_39 rfl ?_
      exact Rd.ireturn H167 i167_40 rfl h
    · refine Ev.aload_n H167 i167_18 rfl ?_
      refine Ev.iload_n H167 i167_19 rfl ?_
      refine Rd.cV1vN H167 i167_20 cal168 ob10 (Nat.le_of_ble_eq_true rfl) (Nat.le_of_ble_eq_true rfl) (Nat.lt_of_lt_of_le (by decide) hd) (fun q hq => c168 hq) h (fun x3 s2 h => ?_)
      refine Ev.iconst H167 i167_23 kI_1 ?_
      refine Rd.ic_gt H167 i167_24 (t := 33) (by decide) h (fun hc h => ?_) (fun hc h => ?_)
      · exact Ev.sub (l := [(0, .ref 0), (1, .int v1), (2, .int v2)]) rfl rfl (mm_sub_c rfl (mm_sub_c rfl (mm_sub_c rfl mm_sub_n))) (t167_33 (k4 := (q167_4 n)) (fun _ _ _ _ h => ih _ _ _ _ h) hd h)
      · refine Ev.iload_n H167 i167_27 rfl ?_
        refine Ev.iconst H167 i167_28 kI_1 ?_
        refine Ev.iload_n H167 i167_29 rfl ?_
        refine Rd.ishl H167 i167_30 ?_
        refine Ev.ior H167 i167_31 ?_
        refine Rd.istore_n H167 i167_32 (Nat.le_of_ble_eq_true rfl) (lv2 := fun x4 => [(1, .int x4), (0, .ref 0), (2, .int v2)]) (fun _ => rfl) h (fun x4 h => ?_)
        exact Ev.sub (l := [(0, .ref 0), (1, .int x4), (2, .int v2)]) rfl rfl (mm_sub_c rfl (mm_sub_c rfl (mm_sub_c rfl mm_sub_n))) (t167_33 (k4 := (q167_4 n)) (fun _ _ _ _ h => ih _ _ _ _ h) hd h)
/-- SerialGate.fittingClients()I -/
def q167 (s : mS) : Option mQ := q167_4 10000 (0 : Int32) (0 : Int32) s
theorem c167 {L : Nat} {xs : Nat → Int32} {s : mS} {r : mQ} (h : q167 s = some r) : ∀ d, 2 ≤ d → Cl L xs d 167 [.ref 0] (hp s) (hr r) := by
  intro d hd
  show Ev L xs d 167 0 [(0, .ref 0)] [] (hp s) (hr r)
  unfold q167 at h
  refine Ev.iconst H167 i167_0 kI_0 ?_
  refine Ev.istore_n H167 i167_1 (Nat.le_of_ble_eq_true rfl) (lv2 := [(1, .int (0 : Int32)), (0, .ref 0)]) rfl ?_
  refine Ev.iconst H167 i167_2 kI_0 ?_
  refine Ev.istore_n H167 i167_3 (Nat.le_of_ble_eq_true rfl) (lv2 := [(2, .int (0 : Int32)), (1, .int (0 : Int32)), (0, .ref 0)]) rfl ?_
  exact Ev.sub (l := [(0, .ref 0), (1, .int (0 : Int32)), (2, .int (0 : Int32))]) rfl rfl (mm_sub_c rfl (mm_sub_c rfl (mm_sub_c rfl mm_sub_n))) (t167_4 hd 10000 _ _ _ _ h)
theorem i185_0 : mm_cd 185 0 = some (.iload_n 0, 1, 0, 0) := rfl
theorem i185_1 : mm_cd 185 1 = some (.ifCond .ne 14, 3, 0, 0) := rfl
theorem i185_4 : mm_cd 185 4 = some (.new 107, 3, 1, 15) := rfl
theorem i185_15 : mm_cd 185 15 = some (.return_, 1, 0, 0) := rfl
/-- SerialGate.needTold(Z)V -/
def q185 (v0 : Int32) (s : mS) : Option mQ := if ¬ v0 = 0 then (ru s) else (rx 0 s)
theorem c185 {L : Nat} {xs : Nat → Int32} {v0 : Int32} {s : mS} {r : mQ} (h : q185 v0 s = some r) : ∀ d, 0 ≤ d → Cl L xs d 185 [.int v0] (hp s) (hr r) := by
  intro d hd
  show Ev L xs d 185 0 [(0, .int v0)] [] (hp s) (hr r)
  unfold q185 at h
  refine Ev.iload_n H185 i185_0 rfl ?_
  refine Rd.if_ne H185 i185_1 (t := 15) (by decide) h (fun hc h => ?_) (fun hc h => ?_)
  · exact Rd.return_ H185 i185_15 rfl h
  · exact Rd.throw H185 i185_4 (by decide +kernel) (Nat.le_of_ble_eq_true rfl) h
theorem i164_0 : mm_cd 164 0 = some (.aload_n 0, 1, 0, 0) := rfl
theorem i164_1 : mm_cd 164 1 = some (.getfield 10, 3, ((10 : Nat) : Int), 0) := rfl
theorem i164_4 : mm_cd 164 4 = some (.invokevirtual 414, 3, 0, 109) := rfl
theorem i164_7 : mm_cd 164 7 = some (.istore_n 1, 1, 0, 0) := rfl
theorem i164_8 : mm_cd 164 8 = some (.iload_n 1, 1, 0, 0) := rfl
theorem i164_9 : mm_cd 164 9 = some (.ifCond .eq 10, 3, 0, 0) := rfl
theorem i164_12 : mm_cd 164 12 = some (.aload_n 0, 1, 0, 0) := rfl
theorem i164_13 : mm_cd 164 13 = some (.invokevirtual 417, 3, 0, 167) := rfl
theorem i164_16 : mm_cd 164 16 = some (.goto 4, 3, 0, 0) := rfl
theorem i164_19 : mm_cd 164 19 = some (.iconst 0, 1, 0, 0) := rfl
theorem i164_20 : mm_cd 164 20 = some (.istore_n 2, 1, 0, 0) := rfl
theorem i164_21 : mm_cd 164 21 = some (.aload_n 0, 1, 0, 0) := rfl
theorem i164_22 : mm_cd 164 22 = some (.getfield 10, 3, ((10 : Nat) : Int), 0) := rfl
theorem i164_25 : mm_cd 164 25 = some (.invokevirtual 142, 3, 0, 99) := rfl
theorem i164_28 : mm_cd 164 28 = some (.iload_n 1, 1, 0, 0) := rfl
theorem i164_29 : mm_cd 164 29 = some (.invokestatic 420, 3, 0, 185) := rfl
theorem i164_32 : mm_cd 164 32 = some (.iload_n 2, 1, 0, 0) := rfl
theorem i164_33 : mm_cd 164 33 = some (.ireturn, 1, 0, 0) := rfl
def q164_20 (v1 : Int32) (y0 : Int32) (s : mS) : Option mQ := bM (q99 s) fun s1 => bU (q185 v1 s1) fun s2 => rv y0 s2
theorem t164_20 {L : Nat} {xs : Nat → Int32} {d : Nat} (hd : 3 ≤ d) {v1 : Int32} {y0 : Int32} {s : mS} {r : mQ} (h : q164_20 v1 y0 s = some r) : Ev L xs d 164 20 [(0, .ref 0), (1, .int v1)] [.int y0] (hp s) (hr r) := by
  unfold q164_20 at h
  refine Ev.istore_n H164 i164_20 (Nat.le_of_ble_eq_true rfl) (lv2 := [(2, .int y0), (0, .ref 0), (1, .int v1)]) rfl ?_
  refine Ev.aload_n H164 i164_21 rfl ?_
  refine Rd.getR H164 i164_22 ob10 rfl ?_
  refine Rd.cV0uN H164 i164_25 cal99 ob8 (Nat.le_of_ble_eq_true rfl) (Nat.le_of_ble_eq_true rfl) (Nat.lt_of_lt_of_le (by decide) hd) (fun q hq => c99 hq) h (fun s1 h => ?_)
  refine Ev.iload_n H164 i164_28 rfl ?_
  refine Rd.cS1uT H164 i164_29 cal185 (Nat.le_of_ble_eq_true rfl) (Nat.le_of_ble_eq_true rfl) rfl rfl (Nat.lt_of_lt_of_le (by decide) hd) (fun q hq => c185 hq) h (fun s2 h => ?_)
  refine Ev.iload_n H164 i164_32 rfl ?_
  exact Rd.ireturn H164 i164_33 rfl h
/-- SerialGate.who()I -/
def q164 (s : mS) : Option mQ := bN (q109 s) fun x4 s3 => if x4 = 0 then (q164_20 x4 (0 : Int32) s3) else (bN (q167 s3) fun x6 s5 => q164_20 x4 x6 s5)
theorem c164 {L : Nat} {xs : Nat → Int32} {s : mS} {r : mQ} (h : q164 s = some r) : ∀ d, 3 ≤ d → Cl L xs d 164 [.ref 0] (hp s) (hr r) := by
  intro d hd
  show Ev L xs d 164 0 [(0, .ref 0)] [] (hp s) (hr r)
  unfold q164 at h
  refine Ev.aload_n H164 i164_0 rfl ?_
  refine Rd.getR H164 i164_1 ob10 rfl ?_
  refine Rd.cV0vN H164 i164_4 cal109 ob8 (Nat.le_of_ble_eq_true rfl) (Nat.le_of_ble_eq_true rfl) (Nat.lt_of_lt_of_le (by decide) hd) (fun q hq => c109 hq) h (fun x4 s3 h => ?_)
  refine Ev.istore_n H164 i164_7 (Nat.le_of_ble_eq_true rfl) (lv2 := [(1, .int x4), (0, .ref 0)]) rfl ?_
  refine Ev.iload_n H164 i164_8 rfl ?_
  refine Rd.if_eq H164 i164_9 (t := 19) (by decide) h (fun hc h => ?_) (fun hc h => ?_)
  · refine Ev.iconst H164 i164_19 kI_0 ?_
    exact Ev.sub (l := [(0, .ref 0), (1, .int x4)]) rfl rfl (mm_sub_c rfl (mm_sub_c rfl mm_sub_n)) (t164_20 hd h)
  · refine Ev.aload_n H164 i164_12 rfl ?_
    refine Rd.cV0vN H164 i164_13 cal167 ob10 (Nat.le_of_ble_eq_true rfl) (Nat.le_of_ble_eq_true rfl) (Nat.lt_of_lt_of_le (by decide) hd) (fun q hq => c167 hq) h (fun x6 s5 h => ?_)
    refine Ev.goto H164 i164_16 (t := 20) (by decide) ?_
    exact Ev.sub (l := [(0, .ref 0), (1, .int x4)]) rfl rfl (mm_sub_c rfl (mm_sub_c rfl mm_sub_n)) (t164_20 hd h)
theorem i165_0 : mm_cd 165 0 = some (.aload_n 0, 1, 0, 0) := rfl
theorem i165_1 : mm_cd 165 1 = some (.getfield 10, 3, ((10 : Nat) : Int), 0) := rfl
theorem i165_4 : mm_cd 165 4 = some (.invokevirtual 414, 3, 0, 109) := rfl
theorem i165_7 : mm_cd 165 7 = some (.istore_n 1, 1, 0, 0) := rfl
theorem i165_8 : mm_cd 165 8 = some (.iconst (-1), 1, 0, 0) := rfl
theorem i165_9 : mm_cd 165 9 = some (.istore_n 2, 1, 0, 0) := rfl
theorem i165_10 : mm_cd 165 10 = some (.iconst 2, 1, 0, 0) := rfl
theorem i165_11 : mm_cd 165 11 = some (.istore_n 3, 1, 0, 0) := rfl
theorem i165_12 : mm_cd 165 12 = some (.iconst 0, 1, 0, 0) := rfl
theorem i165_13 : mm_cd 165 13 = some (.istore 4, 2, 0, 0) := rfl
theorem i165_15 : mm_cd 165 15 = some (.iload_n 1, 1, 0, 0) := rfl
theorem i165_16 : mm_cd 165 16 = some (.ifCond .eq 44, 3, 0, 0) := rfl
theorem i165_19 : mm_cd 165 19 = some (.iload 4, 2, 0, 0) := rfl
theorem i165_21 : mm_cd 165 21 = some (.aload_n 0, 1, 0, 0) := rfl
theorem i165_22 : mm_cd 165 22 = some (.getfield 40, 3, ((10 : Nat) : Int), 4) := rfl
theorem i165_25 : mm_cd 165 25 = some (.getfield 59, 3, ((9 : Nat) : Int), 1) := rfl
theorem i165_28 : mm_cd 165 28 = some (.getfield 397, 3, ((0 : Nat) : Int), 0) := rfl
theorem i165_31 : mm_cd 165 31 = some (.if_icmp .ge 29, 3, 0, 0) := rfl
theorem i165_34 : mm_cd 165 34 = some (.aload_n 0, 1, 0, 0) := rfl
theorem i165_35 : mm_cd 165 35 = some (.iload 4, 2, 0, 0) := rfl
theorem i165_37 : mm_cd 165 37 = some (.invokevirtual 423, 3, 0, 168) := rfl
theorem i165_40 : mm_cd 165 40 = some (.istore 5, 2, 0, 0) := rfl
theorem i165_42 : mm_cd 165 42 = some (.iload 5, 2, 0, 0) := rfl
theorem i165_44 : mm_cd 165 44 = some (.iload_n 3, 1, 0, 0) := rfl
theorem i165_45 : mm_cd 165 45 = some (.if_icmp .ge 9, 3, 0, 0) := rfl
theorem i165_48 : mm_cd 165 48 = some (.iload 4, 2, 0, 0) := rfl
theorem i165_50 : mm_cd 165 50 = some (.istore_n 2, 1, 0, 0) := rfl
theorem i165_51 : mm_cd 165 51 = some (.iload 5, 2, 0, 0) := rfl
theorem i165_53 : mm_cd 165 53 = some (.istore_n 3, 1, 0, 0) := rfl
theorem i165_54 : mm_cd 165 54 = some (.iinc 4 1, 3, 0, 0) := rfl
theorem i165_57 : mm_cd 165 57 = some (.goto (-42), 3, 0, 0) := rfl
theorem i165_60 : mm_cd 165 60 = some (.aload_n 0, 1, 0, 0) := rfl
theorem i165_61 : mm_cd 165 61 = some (.getfield 10, 3, ((10 : Nat) : Int), 0) := rfl
theorem i165_64 : mm_cd 165 64 = some (.invokevirtual 142, 3, 0, 99) := rfl
theorem i165_67 : mm_cd 165 67 = some (.iload_n 1, 1, 0, 0) := rfl
theorem i165_68 : mm_cd 165 68 = some (.invokestatic 420, 3, 0, 185) := rfl
theorem i165_71 : mm_cd 165 71 = some (.iload_n 2, 1, 0, 0) := rfl
theorem i165_72 : mm_cd 165 72 = some (.ireturn, 1, 0, 0) := rfl
def q165_54 (k15 : Int32 → Int32 → Int32 → Int32 → mS → Option mQ) (v1 : Int32) (v2 : Int32) (v3 : Int32) (v4 : Int32) (s : mS) : Option mQ := bx (v4 + (1 : Int32)) fun x1 => k15 v1 v2 v3 x1 s
theorem t165_54 {L : Nat} {xs : Nat → Int32} {d : Nat} {k15 : Int32 → Int32 → Int32 → Int32 → mS → Option mQ} (hk15 : ∀ (v1 : Int32) (v2 : Int32) (v3 : Int32) (v4 : Int32) (s : mS) (r : mQ), k15 v1 v2 v3 v4 s = some r → Ev L xs d 165 15 [(0, .ref 0), (1, .int v1), (2, .int v2), (3, .int v3), (4, .int v4)] [] (hp s) (hr r)) (hd : 2 ≤ d) {v1 : Int32} {v2 : Int32} {v3 : Int32} {v4 : Int32} {s : mS} {r : mQ} (h : q165_54 k15 v1 v2 v3 v4 s = some r) : Ev L xs d 165 54 [(0, .ref 0), (1, .int v1), (2, .int v2), (3, .int v3), (4, .int v4)] [] (hp s) (hr r) := by
  unfold q165_54 at h
  refine Rd.iinc H165 i165_54 (Nat.le_of_ble_eq_true rfl) rfl kI_1 (lv2 := fun x1 => [(4, .int x1), (0, .ref 0), (1, .int v1), (2, .int v2), (3, .int v3)]) (fun _ => rfl) h (fun x1 h => ?_)
  refine Ev.goto H165 i165_57 (t := 15) (by decide) ?_
  exact Ev.sub (l := [(0, .ref 0), (1, .int v1), (2, .int v2), (3, .int v3), (4, .int x1)]) rfl rfl (mm_sub_c rfl (mm_sub_c rfl (mm_sub_c rfl (mm_sub_c rfl (mm_sub_c rfl mm_sub_n))))) (hk15 _ _ _ _ _ _ h)
def q165_15 (k60 : Int32 → Int32 → mS → Option mQ) : Nat → Int32 → Int32 → Int32 → Int32 → mS → Option mQ
  | 0, _, _, _, _, _ => none
  | n + 1, v1, v2, v3, v4, s => if v1 = 0 then (k60 v1 v2 s) else (if (s.1 (26 + 1) 0) ≤ v4 then (k60 v1 v2 s) else (bN (q168 v4 s) fun x3 s2 => if v3 ≤ x3 then (q165_54 (q165_15 k60 n) v1 v2 v3 v4 s2) else (q165_54 (q165_15 k60 n) v1 v4 x3 v4 s2)))
theorem t165_15 {L : Nat} {xs : Nat → Int32} {d : Nat} {k60 : Int32 → Int32 → mS → Option mQ} (hk60 : ∀ (v1 : Int32) (v2 : Int32) (s : mS) (r : mQ), k60 v1 v2 s = some r → Ev L xs d 165 60 [(0, .ref 0), (1, .int v1), (2, .int v2)] [] (hp s) (hr r)) (hd : 2 ≤ d) : ∀ (n : Nat) (v1 : Int32) (v2 : Int32) (v3 : Int32) (v4 : Int32) (s : mS) (r : mQ), q165_15 k60 n v1 v2 v3 v4 s = some r → Ev L xs d 165 15 [(0, .ref 0), (1, .int v1), (2, .int v2), (3, .int v3), (4, .int v4)] [] (hp s) (hr r) := by
  intro n
  induction n with
  | zero => intro v1 v2 v3 v4 s r h; rw [q165_15] at h; cases h
  | succ n ih =>
    intro v1 v2 v3 v4 s r h
    rw [q165_15] at h
    refine Ev.iload_n H165 i165_15 rfl ?_
    refine Rd.if_eq H165 i165_16 (t := 60) (by decide) h (fun hc h => ?_) (fun hc h => ?_)
    · exact Ev.sub (l := [(0, .ref 0), (1, .int v1), (2, .int v2)]) rfl rfl (mm_sub_c rfl (mm_sub_c rfl (mm_sub_c rfl mm_sub_n))) (hk60 _ _ _ _ h)
    · refine Ev.iload H165 i165_19 rfl ?_
      refine Ev.aload_n H165 i165_21 rfl ?_
      refine Rd.getR H165 i165_22 ob10 rfl ?_
      refine Rd.getR H165 i165_25 (ob9 mA9_26) rfl ?_
      refine Rd.getI H165 i165_28 (ob0 (m9_0_1 mA9_26)) rfl ?_
      refine Rd.ic_ge H165 i165_31 (t := 60) (by decide) h (fun hc h => ?_) (fun hc h => ?_)
      · exact Ev.sub (l := [(0, .ref 0), (1, .int v1), (2, .int v2)]) rfl rfl (mm_sub_c rfl (mm_sub_c rfl (mm_sub_c rfl mm_sub_n))) (hk60 _ _ _ _ h)
      · refine Ev.aload_n H165 i165_34 rfl ?_
        refine Ev.iload H165 i165_35 rfl ?_
        refine Rd.cV1vN H165 i165_37 cal168 ob10 (Nat.le_of_ble_eq_true rfl) (Nat.le_of_ble_eq_true rfl) (Nat.lt_of_lt_of_le (by decide) hd) (fun q hq => c168 hq) h (fun x3 s2 h => ?_)
        refine Ev.istore H165 i165_40 (Nat.le_of_ble_eq_true rfl) (lv2 := [(5, .int x3), (0, .ref 0), (1, .int v1), (2, .int v2), (3, .int v3), (4, .int v4)]) rfl ?_
        refine Ev.iload H165 i165_42 rfl ?_
        refine Ev.iload_n H165 i165_44 rfl ?_
        refine Rd.ic_ge H165 i165_45 (t := 54) (by decide) h (fun hc h => ?_) (fun hc h => ?_)
        · exact Ev.sub (l := [(0, .ref 0), (1, .int v1), (2, .int v2), (3, .int v3), (4, .int v4)]) rfl rfl (mm_sub_c rfl (mm_sub_c rfl (mm_sub_c rfl (mm_sub_c rfl (mm_sub_c rfl mm_sub_n))))) (t165_54 (k15 := (q165_15 k60 n)) (fun _ _ _ _ _ _ h => ih _ _ _ _ _ _ h) hd h)
        · refine Ev.iload H165 i165_48 rfl ?_
          refine Ev.istore_n H165 i165_50 (Nat.le_of_ble_eq_true rfl) (lv2 := [(2, .int v4), (5, .int x3), (0, .ref 0), (1, .int v1), (3, .int v3), (4, .int v4)]) rfl ?_
          refine Ev.iload H165 i165_51 rfl ?_
          refine Ev.istore_n H165 i165_53 (Nat.le_of_ble_eq_true rfl) (lv2 := [(3, .int x3), (2, .int v4), (5, .int x3), (0, .ref 0), (1, .int v1), (4, .int v4)]) rfl ?_
          exact Ev.sub (l := [(0, .ref 0), (1, .int v1), (2, .int v4), (3, .int x3), (4, .int v4)]) rfl rfl (mm_sub_c rfl (mm_sub_c rfl (mm_sub_c rfl (mm_sub_c rfl (mm_sub_c rfl mm_sub_n))))) (t165_54 (k15 := (q165_15 k60 n)) (fun _ _ _ _ _ _ h => ih _ _ _ _ _ _ h) hd h)
def q165_60 (v1 : Int32) (v2 : Int32) (s : mS) : Option mQ := bM (q99 s) fun s4 => bU (q185 v1 s4) fun s5 => rv v2 s5
theorem t165_60 {L : Nat} {xs : Nat → Int32} {d : Nat} (hd : 2 ≤ d) {v1 : Int32} {v2 : Int32} {s : mS} {r : mQ} (h : q165_60 v1 v2 s = some r) : Ev L xs d 165 60 [(0, .ref 0), (1, .int v1), (2, .int v2)] [] (hp s) (hr r) := by
  unfold q165_60 at h
  refine Ev.aload_n H165 i165_60 rfl ?_
  refine Rd.getR H165 i165_61 ob10 rfl ?_
  refine Rd.cV0uN H165 i165_64 cal99 ob8 (Nat.le_of_ble_eq_true rfl) (Nat.le_of_ble_eq_true rfl) (Nat.lt_of_lt_of_le (by decide) hd) (fun q hq => c99 hq) h (fun s4 h => ?_)
  refine Ev.iload_n H165 i165_67 rfl ?_
  refine Rd.cS1uT H165 i165_68 cal185 (Nat.le_of_ble_eq_true rfl) (Nat.le_of_ble_eq_true rfl) rfl rfl (Nat.lt_of_lt_of_le (by decide) hd) (fun q hq => c185 hq) h (fun s5 h => ?_)
  refine Ev.iload_n H165 i165_71 rfl ?_
  exact Rd.ireturn H165 i165_72 rfl h
/-- SerialGate.likely()I -/
def q165 (s : mS) : Option mQ := bN (q109 s) fun x7 s6 => q165_15 (q165_60) 10000 x7 (-1 : Int32) (2 : Int32) (0 : Int32) s6
theorem c165 {L : Nat} {xs : Nat → Int32} {s : mS} {r : mQ} (h : q165 s = some r) : ∀ d, 2 ≤ d → Cl L xs d 165 [.ref 0] (hp s) (hr r) := by
  intro d hd
  show Ev L xs d 165 0 [(0, .ref 0)] [] (hp s) (hr r)
  unfold q165 at h
  refine Ev.aload_n H165 i165_0 rfl ?_
  refine Rd.getR H165 i165_1 ob10 rfl ?_
  refine Rd.cV0vN H165 i165_4 cal109 ob8 (Nat.le_of_ble_eq_true rfl) (Nat.le_of_ble_eq_true rfl) (Nat.lt_of_lt_of_le (by decide) hd) (fun q hq => c109 hq) h (fun x7 s6 h => ?_)
  refine Ev.istore_n H165 i165_7 (Nat.le_of_ble_eq_true rfl) (lv2 := [(1, .int x7), (0, .ref 0)]) rfl ?_
  refine Ev.iconst H165 i165_8 kI_m1 ?_
  refine Ev.istore_n H165 i165_9 (Nat.le_of_ble_eq_true rfl) (lv2 := [(2, .int (-1 : Int32)), (1, .int x7), (0, .ref 0)]) rfl ?_
  refine Ev.iconst H165 i165_10 kI_2 ?_
  refine Ev.istore_n H165 i165_11 (Nat.le_of_ble_eq_true rfl) (lv2 := [(3, .int (2 : Int32)), (2, .int (-1 : Int32)), (1, .int x7), (0, .ref 0)]) rfl ?_
  refine Ev.iconst H165 i165_12 kI_0 ?_
  refine Ev.istore H165 i165_13 (Nat.le_of_ble_eq_true rfl) (lv2 := [(4, .int (0 : Int32)), (3, .int (2 : Int32)), (2, .int (-1 : Int32)), (1, .int x7), (0, .ref 0)]) rfl ?_
  exact Ev.sub (l := [(0, .ref 0), (1, .int x7), (2, .int (-1 : Int32)), (3, .int (2 : Int32)), (4, .int (0 : Int32))]) rfl rfl (mm_sub_c rfl (mm_sub_c rfl (mm_sub_c rfl (mm_sub_c rfl (mm_sub_c rfl mm_sub_n))))) (t165_15 (k60 := (q165_60)) (fun _ _ _ _ h => t165_60 hd h) hd 10000 _ _ _ _ _ _ h)
theorem i166_0 : mm_cd 166 0 = some (.aload_n 0, 1, 0, 0) := rfl
theorem i166_1 : mm_cd 166 1 = some (.getfield 10, 3, ((10 : Nat) : Int), 0) := rfl
theorem i166_4 : mm_cd 166 4 = some (.invokevirtual 414, 3, 0, 109) := rfl
theorem i166_7 : mm_cd 166 7 = some (.istore_n 1, 1, 0, 0) := rfl
theorem i166_8 : mm_cd 166 8 = some (.iload_n 1, 1, 0, 0) := rfl
theorem i166_9 : mm_cd 166 9 = some (.ifCond .eq 10, 3, 0, 0) := rfl
theorem i166_12 : mm_cd 166 12 = some (.aload_n 0, 1, 0, 0) := rfl
theorem i166_13 : mm_cd 166 13 = some (.invokevirtual 417, 3, 0, 167) := rfl
theorem i166_16 : mm_cd 166 16 = some (.goto 4, 3, 0, 0) := rfl
theorem i166_19 : mm_cd 166 19 = some (.iconst 0, 1, 0, 0) := rfl
theorem i166_20 : mm_cd 166 20 = some (.istore_n 2, 1, 0, 0) := rfl
theorem i166_21 : mm_cd 166 21 = some (.aload_n 0, 1, 0, 0) := rfl
theorem i166_22 : mm_cd 166 22 = some (.getfield 10, 3, ((10 : Nat) : Int), 0) := rfl
theorem i166_25 : mm_cd 166 25 = some (.invokevirtual 142, 3, 0, 99) := rfl
theorem i166_28 : mm_cd 166 28 = some (.iload_n 1, 1, 0, 0) := rfl
theorem i166_29 : mm_cd 166 29 = some (.invokestatic 420, 3, 0, 185) := rfl
theorem i166_32 : mm_cd 166 32 = some (.iload_n 2, 1, 0, 0) := rfl
theorem i166_33 : mm_cd 166 33 = some (.invokestatic 403, 3, 0, 343) := rfl
theorem i166_36 : mm_cd 166 36 = some (.istore_n 3, 1, 0, 0) := rfl
theorem i166_37 : mm_cd 166 37 = some (.iconst (-1), 1, 0, 0) := rfl
theorem i166_38 : mm_cd 166 38 = some (.istore 4, 2, 0, 0) := rfl
theorem i166_40 : mm_cd 166 40 = some (.iload_n 3, 1, 0, 0) := rfl
theorem i166_41 : mm_cd 166 41 = some (.iconst 1, 1, 0, 0) := rfl
theorem i166_42 : mm_cd 166 42 = some (.iadd, 1, 0, 0) := rfl
theorem i166_43 : mm_cd 166 43 = some (.istore 5, 2, 0, 0) := rfl
theorem i166_45 : mm_cd 166 45 = some (.iconst 0, 1, 0, 0) := rfl
theorem i166_46 : mm_cd 166 46 = some (.istore 6, 2, 0, 0) := rfl
theorem i166_48 : mm_cd 166 48 = some (.iload 6, 2, 0, 0) := rfl
theorem i166_50 : mm_cd 166 50 = some (.bipush 20, 2, 0, 0) := rfl
theorem i166_52 : mm_cd 166 52 = some (.if_icmp .ge 59, 3, 0, 0) := rfl
theorem i166_55 : mm_cd 166 55 = some (.iload_n 3, 1, 0, 0) := rfl
theorem i166_56 : mm_cd 166 56 = some (.iconst 2, 1, 0, 0) := rfl
theorem i166_57 : mm_cd 166 57 = some (.if_icmp .lt 54, 3, 0, 0) := rfl
theorem i166_60 : mm_cd 166 60 = some (.iload_n 2, 1, 0, 0) := rfl
theorem i166_61 : mm_cd 166 61 = some (.aload_n 0, 1, 0, 0) := rfl
theorem i166_62 : mm_cd 166 62 = some (.getfield 40, 3, ((10 : Nat) : Int), 4) := rfl
theorem i166_65 : mm_cd 166 65 = some (.getfield 59, 3, ((9 : Nat) : Int), 1) := rfl
theorem i166_68 : mm_cd 166 68 = some (.iload 6, 2, 0, 0) := rfl
theorem i166_70 : mm_cd 166 70 = some (.invokevirtual 426, 3, 0, 6) := rfl
theorem i166_73 : mm_cd 166 73 = some (.iand, 1, 0, 0) := rfl
theorem i166_74 : mm_cd 166 74 = some (.invokestatic 403, 3, 0, 343) := rfl
theorem i166_77 : mm_cd 166 77 = some (.istore 7, 2, 0, 0) := rfl
theorem i166_79 : mm_cd 166 79 = some (.iload 7, 2, 0, 0) := rfl
theorem i166_81 : mm_cd 166 81 = some (.iload_n 3, 1, 0, 0) := rfl
theorem i166_82 : mm_cd 166 82 = some (.iload 7, 2, 0, 0) := rfl
theorem i166_84 : mm_cd 166 84 = some (.isub, 1, 0, 0) := rfl
theorem i166_85 : mm_cd 166 85 = some (.invokestatic 429, 3, 2, 0) := rfl
theorem i166_88 : mm_cd 166 88 = some (.istore 8, 2, 0, 0) := rfl
theorem i166_90 : mm_cd 166 90 = some (.iload 8, 2, 0, 0) := rfl
theorem i166_92 : mm_cd 166 92 = some (.iload 5, 2, 0, 0) := rfl
theorem i166_94 : mm_cd 166 94 = some (.if_icmp .ge 11, 3, 0, 0) := rfl
theorem i166_97 : mm_cd 166 97 = some (.iload 6, 2, 0, 0) := rfl
theorem i166_99 : mm_cd 166 99 = some (.istore 4, 2, 0, 0) := rfl
theorem i166_101 : mm_cd 166 101 = some (.iload 8, 2, 0, 0) := rfl
theorem i166_103 : mm_cd 166 103 = some (.istore 5, 2, 0, 0) := rfl
theorem i166_105 : mm_cd 166 105 = some (.iinc 6 1, 3, 0, 0) := rfl
theorem i166_108 : mm_cd 166 108 = some (.goto (-60), 3, 0, 0) := rfl
theorem i166_111 : mm_cd 166 111 = some (.iload 4, 2, 0, 0) := rfl
theorem i166_113 : mm_cd 166 113 = some (.ireturn, 1, 0, 0) := rfl
def q166_105 (k48 : Int32 → Int32 → Int32 → Int32 → Int32 → mS → Option mQ) (v2 : Int32) (v3 : Int32) (v4 : Int32) (v5 : Int32) (v6 : Int32) (s : mS) : Option mQ := bx (v6 + (1 : Int32)) fun x1 => k48 v2 v3 v4 v5 x1 s
theorem t166_105 {L : Nat} {xs : Nat → Int32} {d : Nat} {k48 : Int32 → Int32 → Int32 → Int32 → Int32 → mS → Option mQ} (hk48 : ∀ (v2 : Int32) (v3 : Int32) (v4 : Int32) (v5 : Int32) (v6 : Int32) (s : mS) (r : mQ), k48 v2 v3 v4 v5 v6 s = some r → Ev L xs d 166 48 [(0, .ref 0), (2, .int v2), (3, .int v3), (4, .int v4), (5, .int v5), (6, .int v6)] [] (hp s) (hr r)) (hd : 3 ≤ d) {v2 : Int32} {v3 : Int32} {v4 : Int32} {v5 : Int32} {v6 : Int32} {s : mS} {r : mQ} (h : q166_105 k48 v2 v3 v4 v5 v6 s = some r) : Ev L xs d 166 105 [(0, .ref 0), (2, .int v2), (3, .int v3), (4, .int v4), (5, .int v5), (6, .int v6)] [] (hp s) (hr r) := by
  unfold q166_105 at h
  refine Rd.iinc H166 i166_105 (Nat.le_of_ble_eq_true rfl) rfl kI_1 (lv2 := fun x1 => [(6, .int x1), (0, .ref 0), (2, .int v2), (3, .int v3), (4, .int v4), (5, .int v5)]) (fun _ => rfl) h (fun x1 h => ?_)
  refine Ev.goto H166 i166_108 (t := 48) (by decide) ?_
  exact Ev.sub (l := [(0, .ref 0), (2, .int v2), (3, .int v3), (4, .int v4), (5, .int v5), (6, .int x1)]) rfl rfl (mm_sub_c rfl (mm_sub_c rfl (mm_sub_c rfl (mm_sub_c rfl (mm_sub_c rfl (mm_sub_c rfl mm_sub_n)))))) (hk48 _ _ _ _ _ _ _ h)
def q166_48 : Nat → Int32 → Int32 → Int32 → Int32 → Int32 → mS → Option mQ
  | 0, _, _, _, _, _, _ => none
  | n + 1, v2, v3, v4, v5, v6, s => if (20 : Int32) ≤ v6 then (rv v4 s) else (if v3 < (2 : Int32) then (rv v4 s) else (bN (q6 (26 + 1) v6 s) fun x3 s2 => bN (q343 (v2 &&& x3) s2) fun x5 s4 => bx (mxI x5 (v3 - x5)) fun x6 => if v5 ≤ x6 then (q166_105 (q166_48 n) v2 v3 v4 v5 v6 s4) else (q166_105 (q166_48 n) v2 v3 v6 x6 v6 s4)))
theorem t166_48 {L : Nat} {xs : Nat → Int32} {d : Nat} (hd : 3 ≤ d) : ∀ (n : Nat) (v2 : Int32) (v3 : Int32) (v4 : Int32) (v5 : Int32) (v6 : Int32) (s : mS) (r : mQ), q166_48 n v2 v3 v4 v5 v6 s = some r → Ev L xs d 166 48 [(0, .ref 0), (2, .int v2), (3, .int v3), (4, .int v4), (5, .int v5), (6, .int v6)] [] (hp s) (hr r) := by
  intro n
  induction n with
  | zero => intro v2 v3 v4 v5 v6 s r h; rw [q166_48] at h; cases h
  | succ n ih =>
    intro v2 v3 v4 v5 v6 s r h
    rw [q166_48] at h
    refine Ev.iload H166 i166_48 rfl ?_
    refine Ev.bipush H166 i166_50 kB_20 ?_
    refine Rd.ic_ge H166 i166_52 (t := 111) (by decide) h (fun hc h => ?_) (fun hc h => ?_)
    · refine Ev.iload H166 i166_111 rfl ?_
      exact Rd.ireturn H166 i166_113 rfl h
    · refine Ev.iload_n H166 i166_55 rfl ?_
      refine Ev.iconst H166 i166_56 kI_2 ?_
      refine Rd.ic_lt H166 i166_57 (t := 111) (by decide) h (fun hc h => ?_) (fun hc h => ?_)
      · refine Ev.iload H166 i166_111 rfl ?_
        exact Rd.ireturn H166 i166_113 rfl h
      · refine Ev.iload_n H166 i166_60 rfl ?_
        refine Ev.aload_n H166 i166_61 rfl ?_
        refine Rd.getR H166 i166_62 ob10 rfl ?_
        refine Rd.getR H166 i166_65 (ob9 mA9_26) rfl ?_
        refine Ev.iload H166 i166_68 rfl ?_
        refine Rd.cV1vN H166 i166_70 cal6 (ob0 (m9_0_1 mA9_26)) (Nat.le_of_ble_eq_true rfl) (Nat.le_of_ble_eq_true rfl) (Nat.lt_of_lt_of_le (by decide) hd) (fun q hq => c6 (m9_0_1 mA9_26) hq) h (fun x3 s2 h => ?_)
        refine Ev.iand H166 i166_73 ?_
        refine Rd.cS1vN H166 i166_74 cal343 (Nat.le_of_ble_eq_true rfl) (Nat.le_of_ble_eq_true rfl) (Nat.lt_of_lt_of_le (by decide) hd) (fun q hq => c343 hq) h (fun x5 s4 h => ?_)
        refine Ev.istore H166 i166_77 (Nat.le_of_ble_eq_true rfl) (lv2 := [(7, .int x5), (0, .ref 0), (2, .int v2), (3, .int v3), (4, .int v4), (5, .int v5), (6, .int v6)]) rfl ?_
        refine Ev.iload H166 i166_79 rfl ?_
        refine Ev.iload_n H166 i166_81 rfl ?_
        refine Ev.iload H166 i166_82 rfl ?_
        refine Ev.isub H166 i166_84 ?_
        refine Rd.max H166 i166_85 (Nat.le_of_ble_eq_true rfl) ?_
        refine Rd.istore H166 i166_88 (Nat.le_of_ble_eq_true rfl) (lv2 := fun x6 => [(8, .int x6), (7, .int x5), (0, .ref 0), (2, .int v2), (3, .int v3), (4, .int v4), (5, .int v5), (6, .int v6)]) (fun _ => rfl) h (fun x6 h => ?_)
        refine Ev.iload H166 i166_90 rfl ?_
        refine Ev.iload H166 i166_92 rfl ?_
        refine Rd.ic_ge H166 i166_94 (t := 105) (by decide) h (fun hc h => ?_) (fun hc h => ?_)
        · exact Ev.sub (l := [(0, .ref 0), (2, .int v2), (3, .int v3), (4, .int v4), (5, .int v5), (6, .int v6)]) rfl rfl (mm_sub_c rfl (mm_sub_c rfl (mm_sub_c rfl (mm_sub_c rfl (mm_sub_c rfl (mm_sub_c rfl mm_sub_n)))))) (t166_105 (k48 := (q166_48 n)) (fun _ _ _ _ _ _ _ h => ih _ _ _ _ _ _ _ h) hd h)
        · refine Ev.iload H166 i166_97 rfl ?_
          refine Ev.istore H166 i166_99 (Nat.le_of_ble_eq_true rfl) (lv2 := [(4, .int v6), (8, .int x6), (7, .int x5), (0, .ref 0), (2, .int v2), (3, .int v3), (5, .int v5), (6, .int v6)]) rfl ?_
          refine Ev.iload H166 i166_101 rfl ?_
          refine Ev.istore H166 i166_103 (Nat.le_of_ble_eq_true rfl) (lv2 := [(5, .int x6), (4, .int v6), (8, .int x6), (7, .int x5), (0, .ref 0), (2, .int v2), (3, .int v3), (6, .int v6)]) rfl ?_
          exact Ev.sub (l := [(0, .ref 0), (2, .int v2), (3, .int v3), (4, .int v6), (5, .int x6), (6, .int v6)]) rfl rfl (mm_sub_c rfl (mm_sub_c rfl (mm_sub_c rfl (mm_sub_c rfl (mm_sub_c rfl (mm_sub_c rfl mm_sub_n)))))) (t166_105 (k48 := (q166_48 n)) (fun _ _ _ _ _ _ _ h => ih _ _ _ _ _ _ _ h) hd h)
def q166_20 (v1 : Int32) (y0 : Int32) (s : mS) : Option mQ := bM (q99 s) fun s7 => bU (q185 v1 s7) fun s8 => bN (q343 y0 s8) fun x10 s9 => bx (x10 + (1 : Int32)) fun x11 => q166_48 10000 y0 x10 (-1 : Int32) x11 (0 : Int32) s9
theorem t166_20 {L : Nat} {xs : Nat → Int32} {d : Nat} (hd : 3 ≤ d) {v1 : Int32} {y0 : Int32} {s : mS} {r : mQ} (h : q166_20 v1 y0 s = some r) : Ev L xs d 166 20 [(0, .ref 0), (1, .int v1)] [.int y0] (hp s) (hr r) := by
  unfold q166_20 at h
  refine Ev.istore_n H166 i166_20 (Nat.le_of_ble_eq_true rfl) (lv2 := [(2, .int y0), (0, .ref 0), (1, .int v1)]) rfl ?_
  refine Ev.aload_n H166 i166_21 rfl ?_
  refine Rd.getR H166 i166_22 ob10 rfl ?_
  refine Rd.cV0uN H166 i166_25 cal99 ob8 (Nat.le_of_ble_eq_true rfl) (Nat.le_of_ble_eq_true rfl) (Nat.lt_of_lt_of_le (by decide) hd) (fun q hq => c99 hq) h (fun s7 h => ?_)
  refine Ev.iload_n H166 i166_28 rfl ?_
  refine Rd.cS1uT H166 i166_29 cal185 (Nat.le_of_ble_eq_true rfl) (Nat.le_of_ble_eq_true rfl) rfl rfl (Nat.lt_of_lt_of_le (by decide) hd) (fun q hq => c185 hq) h (fun s8 h => ?_)
  refine Ev.iload_n H166 i166_32 rfl ?_
  refine Rd.cS1vN H166 i166_33 cal343 (Nat.le_of_ble_eq_true rfl) (Nat.le_of_ble_eq_true rfl) (Nat.lt_of_lt_of_le (by decide) hd) (fun q hq => c343 hq) h (fun x10 s9 h => ?_)
  refine Ev.istore_n H166 i166_36 (Nat.le_of_ble_eq_true rfl) (lv2 := [(3, .int x10), (2, .int y0), (0, .ref 0), (1, .int v1)]) rfl ?_
  refine Ev.iconst H166 i166_37 kI_m1 ?_
  refine Ev.istore H166 i166_38 (Nat.le_of_ble_eq_true rfl) (lv2 := [(4, .int (-1 : Int32)), (3, .int x10), (2, .int y0), (0, .ref 0), (1, .int v1)]) rfl ?_
  refine Ev.iload_n H166 i166_40 rfl ?_
  refine Ev.iconst H166 i166_41 kI_1 ?_
  refine Ev.iadd H166 i166_42 ?_
  refine Rd.istore H166 i166_43 (Nat.le_of_ble_eq_true rfl) (lv2 := fun x11 => [(5, .int x11), (4, .int (-1 : Int32)), (3, .int x10), (2, .int y0), (0, .ref 0), (1, .int v1)]) (fun _ => rfl) h (fun x11 h => ?_)
  refine Ev.iconst H166 i166_45 kI_0 ?_
  refine Ev.istore H166 i166_46 (Nat.le_of_ble_eq_true rfl) (lv2 := [(6, .int (0 : Int32)), (5, .int x11), (4, .int (-1 : Int32)), (3, .int x10), (2, .int y0), (0, .ref 0), (1, .int v1)]) rfl ?_
  exact Ev.sub (l := [(0, .ref 0), (2, .int y0), (3, .int x10), (4, .int (-1 : Int32)), (5, .int x11), (6, .int (0 : Int32))]) rfl rfl (mm_sub_c rfl (mm_sub_c rfl (mm_sub_c rfl (mm_sub_c rfl (mm_sub_c rfl (mm_sub_c rfl mm_sub_n)))))) (t166_48 hd 10000 _ _ _ _ _ _ _ h)
/-- SerialGate.ask()I -/
def q166 (s : mS) : Option mQ := bN (q109 s) fun x13 s12 => if x13 = 0 then (q166_20 x13 (0 : Int32) s12) else (bN (q167 s12) fun x15 s14 => q166_20 x13 x15 s14)
theorem c166 {L : Nat} {xs : Nat → Int32} {s : mS} {r : mQ} (h : q166 s = some r) : ∀ d, 3 ≤ d → Cl L xs d 166 [.ref 0] (hp s) (hr r) := by
  intro d hd
  show Ev L xs d 166 0 [(0, .ref 0)] [] (hp s) (hr r)
  unfold q166 at h
  refine Ev.aload_n H166 i166_0 rfl ?_
  refine Rd.getR H166 i166_1 ob10 rfl ?_
  refine Rd.cV0vN H166 i166_4 cal109 ob8 (Nat.le_of_ble_eq_true rfl) (Nat.le_of_ble_eq_true rfl) (Nat.lt_of_lt_of_le (by decide) hd) (fun q hq => c109 hq) h (fun x13 s12 h => ?_)
  refine Ev.istore_n H166 i166_7 (Nat.le_of_ble_eq_true rfl) (lv2 := [(1, .int x13), (0, .ref 0)]) rfl ?_
  refine Ev.iload_n H166 i166_8 rfl ?_
  refine Rd.if_eq H166 i166_9 (t := 19) (by decide) h (fun hc h => ?_) (fun hc h => ?_)
  · refine Ev.iconst H166 i166_19 kI_0 ?_
    exact Ev.sub (l := [(0, .ref 0), (1, .int x13)]) rfl rfl (mm_sub_c rfl (mm_sub_c rfl mm_sub_n)) (t166_20 hd h)
  · refine Ev.aload_n H166 i166_12 rfl ?_
    refine Rd.cV0vN H166 i166_13 cal167 ob10 (Nat.le_of_ble_eq_true rfl) (Nat.le_of_ble_eq_true rfl) (Nat.lt_of_lt_of_le (by decide) hd) (fun q hq => c167 hq) h (fun x15 s14 h => ?_)
    refine Ev.goto H166 i166_16 (t := 20) (by decide) ?_
    exact Ev.sub (l := [(0, .ref 0), (1, .int x13)]) rfl rfl (mm_sub_c rfl (mm_sub_c rfl mm_sub_n)) (t166_20 hd h)
theorem i169_0 : mm_cd 169 0 = some (.aload_n 0, 1, 0, 0) := rfl
theorem i169_1 : mm_cd 169 1 = some (.getfield 40, 3, ((10 : Nat) : Int), 4) := rfl
theorem i169_4 : mm_cd 169 4 = some (.getfield 152, 3, ((9 : Nat) : Int), 2) := rfl
theorem i169_7 : mm_cd 169 7 = some (.getfield 319, 3, ((6 : Nat) : Int), 0) := rfl
theorem i169_10 : mm_cd 169 10 = some (.ireturn, 1, 0, 0) := rfl
/-- SerialGate.running()I -/
def q169 (s : mS) : Option mQ := rv (s.1 (26 + 6) 0) s
theorem c169 {L : Nat} {xs : Nat → Int32} {s : mS} {r : mQ} (h : q169 s = some r) : ∀ d, 0 ≤ d → Cl L xs d 169 [.ref 0] (hp s) (hr r) := by
  intro d hd
  show Ev L xs d 169 0 [(0, .ref 0)] [] (hp s) (hr r)
  unfold q169 at h
  refine Ev.aload_n H169 i169_0 rfl ?_
  refine Rd.getR H169 i169_1 ob10 rfl ?_
  refine Rd.getR H169 i169_4 (ob9 mA9_26) rfl ?_
  refine Rd.getI H169 i169_7 (ob6 (m9_6_6 mA9_26)) rfl ?_
  exact Rd.ireturn H169 i169_10 rfl h
theorem i170_0 : mm_cd 170 0 = some (.aload_n 0, 1, 0, 0) := rfl
theorem i170_1 : mm_cd 170 1 = some (.getfield 40, 3, ((10 : Nat) : Int), 4) := rfl
theorem i170_4 : mm_cd 170 4 = some (.getfield 152, 3, ((9 : Nat) : Int), 2) := rfl
theorem i170_7 : mm_cd 170 7 = some (.getfield 437, 3, ((6 : Nat) : Int), 1) := rfl
theorem i170_10 : mm_cd 170 10 = some (.ireturn, 1, 0, 0) := rfl
/-- SerialGate.finished()I -/
def q170 (s : mS) : Option mQ := rv (s.1 (26 + 6) 1) s
theorem c170 {L : Nat} {xs : Nat → Int32} {s : mS} {r : mQ} (h : q170 s = some r) : ∀ d, 0 ≤ d → Cl L xs d 170 [.ref 0] (hp s) (hr r) := by
  intro d hd
  show Ev L xs d 170 0 [(0, .ref 0)] [] (hp s) (hr r)
  unfold q170 at h
  refine Ev.aload_n H170 i170_0 rfl ?_
  refine Rd.getR H170 i170_1 ob10 rfl ?_
  refine Rd.getR H170 i170_4 (ob9 mA9_26) rfl ?_
  refine Rd.getI H170 i170_7 (ob6 (m9_6_6 mA9_26)) rfl ?_
  exact Rd.ireturn H170 i170_10 rfl h
theorem i186_0 : mm_cd 186 0 = some (.iload_n 0, 1, 0, 0) := rfl
theorem i186_1 : mm_cd 186 1 = some (.ifCond .lt 9, 3, 0, 0) := rfl
theorem i186_4 : mm_cd 186 4 = some (.iload_n 0, 1, 0, 0) := rfl
theorem i186_5 : mm_cd 186 5 = some (.bipush 60, 2, 0, 0) := rfl
theorem i186_7 : mm_cd 186 7 = some (.if_icmp .le 14, 3, 0, 0) := rfl
theorem i186_10 : mm_cd 186 10 = some (.new 107, 3, 1, 16) := rfl
theorem i186_21 : mm_cd 186 21 = some (.return_, 1, 0, 0) := rfl
def q186_10 (s : mS) : Option mQ := rx 0 s
theorem t186_10 {L : Nat} {xs : Nat → Int32} {d : Nat} (hd : 0 ≤ d) {s : mS} {r : mQ} (h : q186_10 s = some r) : Ev L xs d 186 10 [] [] (hp s) (hr r) := by
  unfold q186_10 at h
  exact Rd.throw H186 i186_10 (by decide +kernel) (Nat.le_of_ble_eq_true rfl) h
/-- SerialGate.needTrial(I)V -/
def q186 (v0 : Int32) (s : mS) : Option mQ := if v0 < 0 then (q186_10 s) else (if v0 ≤ (60 : Int32) then (ru s) else (q186_10 s))
theorem c186 {L : Nat} {xs : Nat → Int32} {v0 : Int32} {s : mS} {r : mQ} (h : q186 v0 s = some r) : ∀ d, 0 ≤ d → Cl L xs d 186 [.int v0] (hp s) (hr r) := by
  intro d hd
  show Ev L xs d 186 0 [(0, .int v0)] [] (hp s) (hr r)
  unfold q186 at h
  refine Ev.iload_n H186 i186_0 rfl ?_
  refine Rd.if_lt H186 i186_1 (t := 10) (by decide) h (fun hc h => ?_) (fun hc h => ?_)
  · exact Ev.sub (l := []) rfl rfl mm_sub_n (t186_10 hd h)
  · refine Ev.iload_n H186 i186_4 rfl ?_
    refine Ev.bipush H186 i186_5 kB_60 ?_
    refine Rd.ic_le H186 i186_7 (t := 21) (by decide) h (fun hc h => ?_) (fun hc h => ?_)
    · exact Rd.return_ H186 i186_21 rfl h
    · exact Ev.sub (l := []) rfl rfl mm_sub_n (t186_10 hd h)
theorem i171_0 : mm_cd 171 0 = some (.iload_n 1, 1, 0, 0) := rfl
theorem i171_1 : mm_cd 171 1 = some (.invokestatic 440, 3, 0, 186) := rfl
theorem i171_4 : mm_cd 171 4 = some (.aload_n 0, 1, 0, 0) := rfl
theorem i171_5 : mm_cd 171 5 = some (.getfield 44, 3, ((10 : Nat) : Int), 5) := rfl
theorem i171_8 : mm_cd 171 8 = some (.aload_n 0, 1, 0, 0) := rfl
theorem i171_9 : mm_cd 171 9 = some (.getfield 40, 3, ((10 : Nat) : Int), 4) := rfl
theorem i171_12 : mm_cd 171 12 = some (.invokevirtual 95, 3, 0, 111) := rfl
theorem i171_15 : mm_cd 171 15 = some (.aload_n 0, 1, 0, 0) := rfl
theorem i171_16 : mm_cd 171 16 = some (.getfield 44, 3, ((10 : Nat) : Int), 5) := rfl
theorem i171_19 : mm_cd 171 19 = some (.iload_n 1, 1, 0, 0) := rfl
theorem i171_20 : mm_cd 171 20 = some (.invokevirtual 270, 3, 0, 112) := rfl
theorem i171_23 : mm_cd 171 23 = some (.pop, 1, 0, 0) := rfl
theorem i171_24 : mm_cd 171 24 = some (.iload_n 2, 1, 0, 0) := rfl
theorem i171_25 : mm_cd 171 25 = some (.ifCond .eq 13, 3, 0, 0) := rfl
theorem i171_28 : mm_cd 171 28 = some (.aload_n 0, 1, 0, 0) := rfl
theorem i171_29 : mm_cd 171 29 = some (.getfield 44, 3, ((10 : Nat) : Int), 5) := rfl
theorem i171_32 : mm_cd 171 32 = some (.getfield 443, 3, ((9 : Nat) : Int), 11) := rfl
theorem i171_35 : mm_cd 171 35 = some (.goto 13, 3, 0, 0) := rfl
theorem i171_38 : mm_cd 171 38 = some (.aload_n 0, 1, 0, 0) := rfl
theorem i171_39 : mm_cd 171 39 = some (.getfield 44, 3, ((10 : Nat) : Int), 5) := rfl
theorem i171_42 : mm_cd 171 42 = some (.getfield 59, 3, ((9 : Nat) : Int), 1) := rfl
theorem i171_45 : mm_cd 171 45 = some (.invokevirtual 446, 3, 0, 7) := rfl
theorem i171_48 : mm_cd 171 48 = some (.ireturn, 1, 0, 0) := rfl
/-- SerialGate.trial(IZ)I -/
def q171 (v1 : Int32) (v2 : Int32) (s : mS) : Option mQ := bU (q186 v1 s) fun s1 => bM (q111 58 26 s1) fun s2 => bN (q112 58 v1 s2) fun x4 s3 => if v2 = 0 then (bN (q7 (58 + 1) s3) fun x6 s5 => rv x6 s5) else (rv (s3.1 58 11) s3)
theorem c171 {L : Nat} {xs : Nat → Int32} {v1 : Int32} {v2 : Int32} {s : mS} {r : mQ} (h : q171 v1 v2 s = some r) : ∀ d, 7 ≤ d → Cl L xs d 171 [.ref 0, .int v1, .int v2] (hp s) (hr r) := by
  intro d hd
  show Ev L xs d 171 0 [(0, .ref 0), (1, .int v1), (2, .int v2)] [] (hp s) (hr r)
  unfold q171 at h
  refine Ev.iload_n H171 i171_0 rfl ?_
  refine Rd.cS1uT H171 i171_1 cal186 (Nat.le_of_ble_eq_true rfl) (Nat.le_of_ble_eq_true rfl) rfl rfl (Nat.lt_of_lt_of_le (by decide) hd) (fun q hq => c186 hq) h (fun s1 h => ?_)
  refine Ev.aload_n H171 i171_4 rfl ?_
  refine Rd.getR H171 i171_5 ob10 rfl ?_
  refine Ev.aload_n H171 i171_8 rfl ?_
  refine Rd.getR H171 i171_9 ob10 rfl ?_
  refine Rd.cV1uN H171 i171_12 cal111 (ob9 mA9_58) (Nat.le_of_ble_eq_true rfl) (Nat.le_of_ble_eq_true rfl) (Nat.lt_of_lt_of_le (by decide) hd) (fun q hq => c111 mA9_58 mA9_26 hq) h (fun s2 h => ?_)
  refine Ev.aload_n H171 i171_15 rfl ?_
  refine Rd.getR H171 i171_16 ob10 rfl ?_
  refine Ev.iload_n H171 i171_19 rfl ?_
  refine Rd.cV1vN H171 i171_20 cal112 (ob9 mA9_58) (Nat.le_of_ble_eq_true rfl) (Nat.le_of_ble_eq_true rfl) (Nat.lt_of_lt_of_le (by decide) hd) (fun q hq => c112 mA9_58 hq) h (fun x4 s3 h => ?_)
  refine Ev.pop H171 i171_23 rfl ?_
  refine Ev.iload_n H171 i171_24 rfl ?_
  refine Rd.if_eq H171 i171_25 (t := 38) (by decide) h (fun hc h => ?_) (fun hc h => ?_)
  · refine Ev.aload_n H171 i171_38 rfl ?_
    refine Rd.getR H171 i171_39 ob10 rfl ?_
    refine Rd.getR H171 i171_42 (ob9 mA9_58) rfl ?_
    refine Rd.cV0vN H171 i171_45 cal7 (ob0 (m9_0_1 mA9_58)) (Nat.le_of_ble_eq_true rfl) (Nat.le_of_ble_eq_true rfl) (Nat.lt_of_lt_of_le (by decide) hd) (fun q hq => c7 (m9_0_1 mA9_58) hq) h (fun x6 s5 h => ?_)
    exact Rd.ireturn H171 i171_48 rfl h
  · refine Ev.aload_n H171 i171_28 rfl ?_
    refine Rd.getR H171 i171_29 ob10 rfl ?_
    refine Rd.getI H171 i171_32 (ob9 mA9_58) rfl ?_
    refine Ev.goto H171 i171_35 (t := 48) (by decide) ?_
    exact Rd.ireturn H171 i171_48 rfl h
theorem i172_0 : mm_cd 172 0 = some (.iload_n 1, 1, 0, 0) := rfl
theorem i172_1 : mm_cd 172 1 = some (.invokestatic 440, 3, 0, 186) := rfl
theorem i172_4 : mm_cd 172 4 = some (.iconst 0, 1, 0, 0) := rfl
theorem i172_5 : mm_cd 172 5 = some (.istore_n 3, 1, 0, 0) := rfl
theorem i172_6 : mm_cd 172 6 = some (.iconst 0, 1, 0, 0) := rfl
theorem i172_7 : mm_cd 172 7 = some (.istore 4, 2, 0, 0) := rfl
theorem i172_9 : mm_cd 172 9 = some (.iconst 1, 1, 0, 0) := rfl
theorem i172_10 : mm_cd 172 10 = some (.istore 5, 2, 0, 0) := rfl
theorem i172_12 : mm_cd 172 12 = some (.iload 5, 2, 0, 0) := rfl
theorem i172_14 : mm_cd 172 14 = some (.bipush 6, 2, 0, 0) := rfl
theorem i172_16 : mm_cd 172 16 = some (.if_icmp .gt 77, 3, 0, 0) := rfl
theorem i172_19 : mm_cd 172 19 = some (.aload_n 0, 1, 0, 0) := rfl
theorem i172_20 : mm_cd 172 20 = some (.getfield 44, 3, ((10 : Nat) : Int), 5) := rfl
theorem i172_23 : mm_cd 172 23 = some (.aload_n 0, 1, 0, 0) := rfl
theorem i172_24 : mm_cd 172 24 = some (.getfield 40, 3, ((10 : Nat) : Int), 4) := rfl
theorem i172_27 : mm_cd 172 27 = some (.invokevirtual 95, 3, 0, 111) := rfl
theorem i172_30 : mm_cd 172 30 = some (.aload_n 0, 1, 0, 0) := rfl
theorem i172_31 : mm_cd 172 31 = some (.getfield 44, 3, ((10 : Nat) : Int), 5) := rfl
theorem i172_34 : mm_cd 172 34 = some (.iload 5, 2, 0, 0) := rfl
theorem i172_36 : mm_cd 172 36 = some (.putfield 314, 3, ((9 : Nat) : Int), 12) := rfl
theorem i172_39 : mm_cd 172 39 = some (.aload_n 0, 1, 0, 0) := rfl
theorem i172_40 : mm_cd 172 40 = some (.getfield 44, 3, ((10 : Nat) : Int), 5) := rfl
theorem i172_43 : mm_cd 172 43 = some (.iload_n 1, 1, 0, 0) := rfl
theorem i172_44 : mm_cd 172 44 = some (.invokevirtual 270, 3, 0, 112) := rfl
theorem i172_47 : mm_cd 172 47 = some (.pop, 1, 0, 0) := rfl
theorem i172_48 : mm_cd 172 48 = some (.aload_n 0, 1, 0, 0) := rfl
theorem i172_49 : mm_cd 172 49 = some (.getfield 44, 3, ((10 : Nat) : Int), 5) := rfl
theorem i172_52 : mm_cd 172 52 = some (.getfield 59, 3, ((9 : Nat) : Int), 1) := rfl
theorem i172_55 : mm_cd 172 55 = some (.invokevirtual 446, 3, 0, 7) := rfl
theorem i172_58 : mm_cd 172 58 = some (.istore 6, 2, 0, 0) := rfl
theorem i172_60 : mm_cd 172 60 = some (.iload 5, 2, 0, 0) := rfl
theorem i172_62 : mm_cd 172 62 = some (.iconst 1, 1, 0, 0) := rfl
theorem i172_63 : mm_cd 172 63 = some (.if_icmp .ne 8, 3, 0, 0) := rfl
theorem i172_66 : mm_cd 172 66 = some (.iload 6, 2, 0, 0) := rfl
theorem i172_68 : mm_cd 172 68 = some (.goto 9, 3, 0, 0) := rfl
theorem i172_71 : mm_cd 172 71 = some (.iload_n 3, 1, 0, 0) := rfl
theorem i172_72 : mm_cd 172 72 = some (.iload 6, 2, 0, 0) := rfl
theorem i172_74 : mm_cd 172 74 = some (.invokestatic 449, 3, 3, 0) := rfl
theorem i172_77 : mm_cd 172 77 = some (.istore_n 3, 1, 0, 0) := rfl
theorem i172_78 : mm_cd 172 78 = some (.iload 4, 2, 0, 0) := rfl
theorem i172_80 : mm_cd 172 80 = some (.iload 6, 2, 0, 0) := rfl
theorem i172_82 : mm_cd 172 82 = some (.invokestatic 429, 3, 2, 0) := rfl
theorem i172_85 : mm_cd 172 85 = some (.istore 4, 2, 0, 0) := rfl
theorem i172_87 : mm_cd 172 87 = some (.iinc 5 1, 3, 0, 0) := rfl
theorem i172_90 : mm_cd 172 90 = some (.goto (-78), 3, 0, 0) := rfl
theorem i172_93 : mm_cd 172 93 = some (.iload_n 2, 1, 0, 0) := rfl
theorem i172_94 : mm_cd 172 94 = some (.ifCond .eq 8, 3, 0, 0) := rfl
theorem i172_97 : mm_cd 172 97 = some (.iload 4, 2, 0, 0) := rfl
theorem i172_99 : mm_cd 172 99 = some (.goto 4, 3, 0, 0) := rfl
theorem i172_102 : mm_cd 172 102 = some (.iload_n 3, 1, 0, 0) := rfl
theorem i172_103 : mm_cd 172 103 = some (.ireturn, 1, 0, 0) := rfl
def q172_77 (k12 : Int32 → Int32 → Int32 → Int32 → Int32 → mS → Option mQ) (v1 : Int32) (v2 : Int32) (v4 : Int32) (v5 : Int32) (v6 : Int32) (y0 : Int32) (s : mS) : Option mQ := bx (mxI v4 v6) fun x1 => bx (v5 + (1 : Int32)) fun x2 => k12 v1 v2 y0 x1 x2 s
theorem t172_77 {L : Nat} {xs : Nat → Int32} {d : Nat} {k12 : Int32 → Int32 → Int32 → Int32 → Int32 → mS → Option mQ} (hk12 : ∀ (v1 : Int32) (v2 : Int32) (v3 : Int32) (v4 : Int32) (v5 : Int32) (s : mS) (r : mQ), k12 v1 v2 v3 v4 v5 s = some r → Ev L xs d 172 12 [(0, .ref 0), (1, .int v1), (2, .int v2), (3, .int v3), (4, .int v4), (5, .int v5)] [] (hp s) (hr r)) (hd : 7 ≤ d) {v1 : Int32} {v2 : Int32} {v4 : Int32} {v5 : Int32} {v6 : Int32} {y0 : Int32} {s : mS} {r : mQ} (h : q172_77 k12 v1 v2 v4 v5 v6 y0 s = some r) : Ev L xs d 172 77 [(0, .ref 0), (1, .int v1), (2, .int v2), (4, .int v4), (5, .int v5), (6, .int v6)] [.int y0] (hp s) (hr r) := by
  unfold q172_77 at h
  refine Ev.istore_n H172 i172_77 (Nat.le_of_ble_eq_true rfl) (lv2 := [(3, .int y0), (0, .ref 0), (1, .int v1), (2, .int v2), (4, .int v4), (5, .int v5), (6, .int v6)]) rfl ?_
  refine Ev.iload H172 i172_78 rfl ?_
  refine Ev.iload H172 i172_80 rfl ?_
  refine Rd.max H172 i172_82 (Nat.le_of_ble_eq_true rfl) ?_
  refine Rd.istore H172 i172_85 (Nat.le_of_ble_eq_true rfl) (lv2 := fun x1 => [(4, .int x1), (3, .int y0), (0, .ref 0), (1, .int v1), (2, .int v2), (5, .int v5), (6, .int v6)]) (fun _ => rfl) h (fun x1 h => ?_)
  refine Rd.iinc H172 i172_87 (Nat.le_of_ble_eq_true rfl) rfl kI_1 (lv2 := fun x2 => [(5, .int x2), (4, .int x1), (3, .int y0), (0, .ref 0), (1, .int v1), (2, .int v2), (6, .int v6)]) (fun _ => rfl) h (fun x2 h => ?_)
  refine Ev.goto H172 i172_90 (t := 12) (by decide) ?_
  exact Ev.sub (l := [(0, .ref 0), (1, .int v1), (2, .int v2), (3, .int y0), (4, .int x1), (5, .int x2)]) rfl rfl (mm_sub_c rfl (mm_sub_c rfl (mm_sub_c rfl (mm_sub_c rfl (mm_sub_c rfl (mm_sub_c rfl mm_sub_n)))))) (hk12 _ _ _ _ _ _ _ h)
def q172_12 (k93 : Int32 → Int32 → Int32 → mS → Option mQ) : Nat → Int32 → Int32 → Int32 → Int32 → Int32 → mS → Option mQ
  | 0, _, _, _, _, _, _ => none
  | n + 1, v1, v2, v3, v4, v5, s => if (6 : Int32) < v5 then (k93 v2 v3 v4 s) else (bM (q111 58 26 s) fun s3 => sp (sI s3 58 12 v5) fun s4 => bN (q112 58 v1 s4) fun x6 s5 => bN (q7 (58 + 1) s5) fun x8 s7 => if ¬ v5 = (1 : Int32) then (q172_77 (q172_12 k93 n) v1 v2 v4 v5 x8 (mnI v3 x8) s7) else (q172_77 (q172_12 k93 n) v1 v2 v4 v5 x8 x8 s7))
theorem t172_12 {L : Nat} {xs : Nat → Int32} {d : Nat} {k93 : Int32 → Int32 → Int32 → mS → Option mQ} (hk93 : ∀ (v2 : Int32) (v3 : Int32) (v4 : Int32) (s : mS) (r : mQ), k93 v2 v3 v4 s = some r → Ev L xs d 172 93 [(2, .int v2), (3, .int v3), (4, .int v4)] [] (hp s) (hr r)) (hd : 7 ≤ d) : ∀ (n : Nat) (v1 : Int32) (v2 : Int32) (v3 : Int32) (v4 : Int32) (v5 : Int32) (s : mS) (r : mQ), q172_12 k93 n v1 v2 v3 v4 v5 s = some r → Ev L xs d 172 12 [(0, .ref 0), (1, .int v1), (2, .int v2), (3, .int v3), (4, .int v4), (5, .int v5)] [] (hp s) (hr r) := by
  intro n
  induction n with
  | zero => intro v1 v2 v3 v4 v5 s r h; rw [q172_12] at h; cases h
  | succ n ih =>
    intro v1 v2 v3 v4 v5 s r h
    rw [q172_12] at h
    refine Ev.iload H172 i172_12 rfl ?_
    refine Ev.bipush H172 i172_14 kB_6 ?_
    refine Rd.ic_gt H172 i172_16 (t := 93) (by decide) h (fun hc h => ?_) (fun hc h => ?_)
    · exact Ev.sub (l := [(2, .int v2), (3, .int v3), (4, .int v4)]) rfl rfl (mm_sub_c rfl (mm_sub_c rfl (mm_sub_c rfl mm_sub_n))) (hk93 _ _ _ _ _ h)
    · refine Ev.aload_n H172 i172_19 rfl ?_
      refine Rd.getR H172 i172_20 ob10 rfl ?_
      refine Ev.aload_n H172 i172_23 rfl ?_
      refine Rd.getR H172 i172_24 ob10 rfl ?_
      refine Rd.cV1uN H172 i172_27 cal111 (ob9 mA9_58) (Nat.le_of_ble_eq_true rfl) (Nat.le_of_ble_eq_true rfl) (Nat.lt_of_lt_of_le (by decide) hd) (fun q hq => c111 mA9_58 mA9_26 hq) h (fun s3 h => ?_)
      refine Ev.aload_n H172 i172_30 rfl ?_
      refine Rd.getR H172 i172_31 ob10 rfl ?_
      refine Ev.iload H172 i172_34 rfl ?_
      refine Rd.putI H172 i172_36 (ob9 mA9_58) rfl ty9_12.1 ty9_12.2 h (fun s4 h => ?_)
      refine Ev.aload_n H172 i172_39 rfl ?_
      refine Rd.getR H172 i172_40 ob10 rfl ?_
      refine Ev.iload_n H172 i172_43 rfl ?_
      refine Rd.cV1vN H172 i172_44 cal112 (ob9 mA9_58) (Nat.le_of_ble_eq_true rfl) (Nat.le_of_ble_eq_true rfl) (Nat.lt_of_lt_of_le (by decide) hd) (fun q hq => c112 mA9_58 hq) h (fun x6 s5 h => ?_)
      refine Ev.pop H172 i172_47 rfl ?_
      refine Ev.aload_n H172 i172_48 rfl ?_
      refine Rd.getR H172 i172_49 ob10 rfl ?_
      refine Rd.getR H172 i172_52 (ob9 mA9_58) rfl ?_
      refine Rd.cV0vN H172 i172_55 cal7 (ob0 (m9_0_1 mA9_58)) (Nat.le_of_ble_eq_true rfl) (Nat.le_of_ble_eq_true rfl) (Nat.lt_of_lt_of_le (by decide) hd) (fun q hq => c7 (m9_0_1 mA9_58) hq) h (fun x8 s7 h => ?_)
      refine Ev.istore H172 i172_58 (Nat.le_of_ble_eq_true rfl) (lv2 := [(6, .int x8), (0, .ref 0), (1, .int v1), (2, .int v2), (3, .int v3), (4, .int v4), (5, .int v5)]) rfl ?_
      refine Ev.iload H172 i172_60 rfl ?_
      refine Ev.iconst H172 i172_62 kI_1 ?_
      refine Rd.ic_ne H172 i172_63 (t := 71) (by decide) h (fun hc h => ?_) (fun hc h => ?_)
      · refine Ev.iload_n H172 i172_71 rfl ?_
        refine Ev.iload H172 i172_72 rfl ?_
        refine Rd.min H172 i172_74 (Nat.le_of_ble_eq_true rfl) ?_
        exact Ev.sub (l := [(0, .ref 0), (1, .int v1), (2, .int v2), (4, .int v4), (5, .int v5), (6, .int x8)]) rfl rfl (mm_sub_c rfl (mm_sub_c rfl (mm_sub_c rfl (mm_sub_c rfl (mm_sub_c rfl (mm_sub_c rfl mm_sub_n)))))) (t172_77 (k12 := (q172_12 k93 n)) (fun _ _ _ _ _ _ _ h => ih _ _ _ _ _ _ _ h) hd h)
      · refine Ev.iload H172 i172_66 rfl ?_
        refine Ev.goto H172 i172_68 (t := 77) (by decide) ?_
        exact Ev.sub (l := [(0, .ref 0), (1, .int v1), (2, .int v2), (4, .int v4), (5, .int v5), (6, .int x8)]) rfl rfl (mm_sub_c rfl (mm_sub_c rfl (mm_sub_c rfl (mm_sub_c rfl (mm_sub_c rfl (mm_sub_c rfl mm_sub_n)))))) (t172_77 (k12 := (q172_12 k93 n)) (fun _ _ _ _ _ _ _ h => ih _ _ _ _ _ _ _ h) hd h)
def q172_93 (v2 : Int32) (v3 : Int32) (v4 : Int32) (s : mS) : Option mQ := if v2 = 0 then (rv v3 s) else (rv v4 s)
theorem t172_93 {L : Nat} {xs : Nat → Int32} {d : Nat} (hd : 7 ≤ d) {v2 : Int32} {v3 : Int32} {v4 : Int32} {s : mS} {r : mQ} (h : q172_93 v2 v3 v4 s = some r) : Ev L xs d 172 93 [(2, .int v2), (3, .int v3), (4, .int v4)] [] (hp s) (hr r) := by
  unfold q172_93 at h
  refine Ev.iload_n H172 i172_93 rfl ?_
  refine Rd.if_eq H172 i172_94 (t := 102) (by decide) h (fun hc h => ?_) (fun hc h => ?_)
  · refine Ev.iload_n H172 i172_102 rfl ?_
    exact Rd.ireturn H172 i172_103 rfl h
  · refine Ev.iload H172 i172_97 rfl ?_
    refine Ev.goto H172 i172_99 (t := 103) (by decide) ?_
    exact Rd.ireturn H172 i172_103 rfl h
/-- SerialGate.span(IZ)I -/
def q172 (v1 : Int32) (v2 : Int32) (s : mS) : Option mQ := bU (q186 v1 s) fun s9 => q172_12 (q172_93) 10000 v1 v2 (0 : Int32) (0 : Int32) (1 : Int32) s9
theorem c172 {L : Nat} {xs : Nat → Int32} {v1 : Int32} {v2 : Int32} {s : mS} {r : mQ} (h : q172 v1 v2 s = some r) : ∀ d, 7 ≤ d → Cl L xs d 172 [.ref 0, .int v1, .int v2] (hp s) (hr r) := by
  intro d hd
  show Ev L xs d 172 0 [(0, .ref 0), (1, .int v1), (2, .int v2)] [] (hp s) (hr r)
  unfold q172 at h
  refine Ev.iload_n H172 i172_0 rfl ?_
  refine Rd.cS1uT H172 i172_1 cal186 (Nat.le_of_ble_eq_true rfl) (Nat.le_of_ble_eq_true rfl) rfl rfl (Nat.lt_of_lt_of_le (by decide) hd) (fun q hq => c186 hq) h (fun s9 h => ?_)
  refine Ev.iconst H172 i172_4 kI_0 ?_
  refine Ev.istore_n H172 i172_5 (Nat.le_of_ble_eq_true rfl) (lv2 := [(3, .int (0 : Int32)), (0, .ref 0), (1, .int v1), (2, .int v2)]) rfl ?_
  refine Ev.iconst H172 i172_6 kI_0 ?_
  refine Ev.istore H172 i172_7 (Nat.le_of_ble_eq_true rfl) (lv2 := [(4, .int (0 : Int32)), (3, .int (0 : Int32)), (0, .ref 0), (1, .int v1), (2, .int v2)]) rfl ?_
  refine Ev.iconst H172 i172_9 kI_1 ?_
  refine Ev.istore H172 i172_10 (Nat.le_of_ble_eq_true rfl) (lv2 := [(5, .int (1 : Int32)), (4, .int (0 : Int32)), (3, .int (0 : Int32)), (0, .ref 0), (1, .int v1), (2, .int v2)]) rfl ?_
  exact Ev.sub (l := [(0, .ref 0), (1, .int v1), (2, .int v2), (3, .int (0 : Int32)), (4, .int (0 : Int32)), (5, .int (1 : Int32))]) rfl rfl (mm_sub_c rfl (mm_sub_c rfl (mm_sub_c rfl (mm_sub_c rfl (mm_sub_c rfl (mm_sub_c rfl mm_sub_n)))))) (t172_12 (k93 := (q172_93)) (fun _ _ _ _ _ h => t172_93 hd h) hd 10000 _ _ _ _ _ _ _ h)
theorem i173_0 : mm_cd 173 0 = some (.iload_n 1, 1, 0, 0) := rfl
theorem i173_1 : mm_cd 173 1 = some (.tableswitch 210 0 13 #[71, 82, 96, 110, 118, 126, 134, 142, 150, 161, 172, 183, 194, 205], 71, 0, 0) := rfl
theorem i173_72 : mm_cd 173 72 = some (.aload_n 0, 1, 0, 0) := rfl
theorem i173_73 : mm_cd 173 73 = some (.getfield 40, 3, ((10 : Nat) : Int), 4) := rfl
theorem i173_76 : mm_cd 173 76 = some (.getfield 59, 3, ((9 : Nat) : Int), 1) := rfl
theorem i173_79 : mm_cd 173 79 = some (.getfield 397, 3, ((0 : Nat) : Int), 0) := rfl
theorem i173_82 : mm_cd 173 82 = some (.ireturn, 1, 0, 0) := rfl
theorem i173_83 : mm_cd 173 83 = some (.aload_n 0, 1, 0, 0) := rfl
theorem i173_84 : mm_cd 173 84 = some (.getfield 40, 3, ((10 : Nat) : Int), 4) := rfl
theorem i173_87 : mm_cd 173 87 = some (.getfield 152, 3, ((9 : Nat) : Int), 2) := rfl
theorem i173_90 : mm_cd 173 90 = some (.getfield 319, 3, ((6 : Nat) : Int), 0) := rfl
theorem i173_93 : mm_cd 173 93 = some (.invokestatic 403, 3, 0, 343) := rfl
theorem i173_96 : mm_cd 173 96 = some (.ireturn, 1, 0, 0) := rfl
theorem i173_97 : mm_cd 173 97 = some (.aload_n 0, 1, 0, 0) := rfl
theorem i173_98 : mm_cd 173 98 = some (.getfield 40, 3, ((10 : Nat) : Int), 4) := rfl
theorem i173_101 : mm_cd 173 101 = some (.getfield 152, 3, ((9 : Nat) : Int), 2) := rfl
theorem i173_104 : mm_cd 173 104 = some (.getfield 437, 3, ((6 : Nat) : Int), 1) := rfl
theorem i173_107 : mm_cd 173 107 = some (.invokestatic 403, 3, 0, 343) := rfl
theorem i173_110 : mm_cd 173 110 = some (.ireturn, 1, 0, 0) := rfl
theorem i173_111 : mm_cd 173 111 = some (.aload_n 0, 1, 0, 0) := rfl
theorem i173_112 : mm_cd 173 112 = some (.getfield 40, 3, ((10 : Nat) : Int), 4) := rfl
theorem i173_115 : mm_cd 173 115 = some (.getfield 114, 3, ((9 : Nat) : Int), 13) := rfl
theorem i173_118 : mm_cd 173 118 = some (.ireturn, 1, 0, 0) := rfl
theorem i173_119 : mm_cd 173 119 = some (.aload_n 0, 1, 0, 0) := rfl
theorem i173_120 : mm_cd 173 120 = some (.getfield 19, 3, ((10 : Nat) : Int), 1) := rfl
theorem i173_123 : mm_cd 173 123 = some (.getfield 136, 3, ((2 : Nat) : Int), 0) := rfl
theorem i173_126 : mm_cd 173 126 = some (.ireturn, 1, 0, 0) := rfl
theorem i173_127 : mm_cd 173 127 = some (.aload_n 0, 1, 0, 0) := rfl
theorem i173_128 : mm_cd 173 128 = some (.getfield 40, 3, ((10 : Nat) : Int), 4) := rfl
theorem i173_131 : mm_cd 173 131 = some (.getfield 452, 3, ((9 : Nat) : Int), 9) := rfl
theorem i173_134 : mm_cd 173 134 = some (.ireturn, 1, 0, 0) := rfl
theorem i173_135 : mm_cd 173 135 = some (.aload_n 0, 1, 0, 0) := rfl
theorem i173_136 : mm_cd 173 136 = some (.getfield 40, 3, ((10 : Nat) : Int), 4) := rfl
theorem i173_139 : mm_cd 173 139 = some (.getfield 311, 3, ((9 : Nat) : Int), 10) := rfl
theorem i173_142 : mm_cd 173 142 = some (.ireturn, 1, 0, 0) := rfl
theorem i173_143 : mm_cd 173 143 = some (.aload_n 0, 1, 0, 0) := rfl
theorem i173_144 : mm_cd 173 144 = some (.getfield 40, 3, ((10 : Nat) : Int), 4) := rfl
theorem i173_147 : mm_cd 173 147 = some (.getfield 443, 3, ((9 : Nat) : Int), 11) := rfl
theorem i173_150 : mm_cd 173 150 = some (.ireturn, 1, 0, 0) := rfl
theorem i173_151 : mm_cd 173 151 = some (.aload_n 0, 1, 0, 0) := rfl
theorem i173_152 : mm_cd 173 152 = some (.getfield 40, 3, ((10 : Nat) : Int), 4) := rfl
theorem i173_155 : mm_cd 173 155 = some (.getfield 152, 3, ((9 : Nat) : Int), 2) := rfl
theorem i173_158 : mm_cd 173 158 = some (.invokevirtual 455, 3, 0, 77) := rfl
theorem i173_161 : mm_cd 173 161 = some (.ireturn, 1, 0, 0) := rfl
theorem i173_162 : mm_cd 173 162 = some (.aload_n 0, 1, 0, 0) := rfl
theorem i173_163 : mm_cd 173 163 = some (.getfield 40, 3, ((10 : Nat) : Int), 4) := rfl
theorem i173_166 : mm_cd 173 166 = some (.getfield 328, 3, ((9 : Nat) : Int), 3) := rfl
theorem i173_169 : mm_cd 173 169 = some (.getfield 332, 3, ((1 : Nat) : Int), 0) := rfl
theorem i173_172 : mm_cd 173 172 = some (.ireturn, 1, 0, 0) := rfl
theorem i173_173 : mm_cd 173 173 = some (.aload_n 0, 1, 0, 0) := rfl
theorem i173_174 : mm_cd 173 174 = some (.getfield 40, 3, ((10 : Nat) : Int), 4) := rfl
theorem i173_177 : mm_cd 173 177 = some (.getfield 59, 3, ((9 : Nat) : Int), 1) := rfl
theorem i173_180 : mm_cd 173 180 = some (.invokevirtual 446, 3, 0, 7) := rfl
theorem i173_183 : mm_cd 173 183 = some (.ireturn, 1, 0, 0) := rfl
theorem i173_184 : mm_cd 173 184 = some (.aload_n 0, 1, 0, 0) := rfl
theorem i173_185 : mm_cd 173 185 = some (.getfield 40, 3, ((10 : Nat) : Int), 4) := rfl
theorem i173_188 : mm_cd 173 188 = some (.getfield 59, 3, ((9 : Nat) : Int), 1) := rfl
theorem i173_191 : mm_cd 173 191 = some (.invokevirtual 458, 3, 0, 8) := rfl
theorem i173_194 : mm_cd 173 194 = some (.ireturn, 1, 0, 0) := rfl
theorem i173_195 : mm_cd 173 195 = some (.aload_n 0, 1, 0, 0) := rfl
theorem i173_196 : mm_cd 173 196 = some (.getfield 40, 3, ((10 : Nat) : Int), 4) := rfl
theorem i173_199 : mm_cd 173 199 = some (.getfield 357, 3, ((9 : Nat) : Int), 4) := rfl
theorem i173_202 : mm_cd 173 202 = some (.getfield 461, 3, ((4 : Nat) : Int), 0) := rfl
theorem i173_205 : mm_cd 173 205 = some (.ireturn, 1, 0, 0) := rfl
theorem i173_206 : mm_cd 173 206 = some (.aload_n 0, 1, 0, 0) := rfl
theorem i173_207 : mm_cd 173 207 = some (.getfield 78, 3, ((10 : Nat) : Int), 11) := rfl
theorem i173_210 : mm_cd 173 210 = some (.ireturn, 1, 0, 0) := rfl
theorem i173_211 : mm_cd 173 211 = some (.iconst (-1), 1, 0, 0) := rfl
theorem i173_212 : mm_cd 173 212 = some (.ireturn, 1, 0, 0) := rfl
/-- SerialGate.count(I)I -/
def q173 (v1 : Int32) (s : mS) : Option mQ := if v1 = (0 : Int32) then (rv (s.1 (26 + 1) 0) s) else if v1 = (1 : Int32) then (bN (q343 (s.1 (26 + 6) 0) s) fun x2 s1 => rv x2 s1) else if v1 = (2 : Int32) then (bN (q343 (s.1 (26 + 6) 1) s) fun x4 s3 => rv x4 s3) else if v1 = (3 : Int32) then (rv (s.1 26 13) s) else if v1 = (4 : Int32) then (rv (s.1 3 0) s) else if v1 = (5 : Int32) then (rv (s.1 26 9) s) else if v1 = (6 : Int32) then (rv (s.1 26 10) s) else if v1 = (7 : Int32) then (rv (s.1 26 11) s) else if v1 = (8 : Int32) then (bN (q77 (26 + 6) s) fun x6 s5 => rv x6 s5) else if v1 = (9 : Int32) then (rv (s.1 (26 + 18) 0) s) else if v1 = (10 : Int32) then (bN (q7 (26 + 1) s) fun x8 s7 => rv x8 s7) else if v1 = (11 : Int32) then (bN (q8 (26 + 1) s) fun x10 s9 => rv x10 s9) else if v1 = (12 : Int32) then (rv (s.1 (26 + 26) 0) s) else if v1 = (13 : Int32) then (rv (s.1 0 11) s) else (rv (-1 : Int32) s)
theorem c173 {L : Nat} {xs : Nat → Int32} {v1 : Int32} {s : mS} {r : mQ} (h : q173 v1 s = some r) : ∀ d, 2 ≤ d → Cl L xs d 173 [.ref 0, .int v1] (hp s) (hr r) := by
  intro d hd
  show Ev L xs d 173 0 [(0, .ref 0), (1, .int v1)] [] (hp s) (hr r)
  unfold q173 at h
  refine Ev.iload_n H173 i173_0 rfl ?_
  refine Rd.sw h (fun hc h => ?_) (fun hc0 h => ?_)
  · refine Rd.tsw H173 i173_1 (t := 72) (by rw [hc]; decide) ?_
    refine Ev.aload_n H173 i173_72 rfl ?_
    refine Rd.getR H173 i173_73 ob10 rfl ?_
    refine Rd.getR H173 i173_76 (ob9 mA9_26) rfl ?_
    refine Rd.getI H173 i173_79 (ob0 (m9_0_1 mA9_26)) rfl ?_
    exact Rd.ireturn H173 i173_82 rfl h
  refine Rd.sw h (fun hc h => ?_) (fun hc1 h => ?_)
  · refine Rd.tsw H173 i173_1 (t := 83) (by rw [hc]; decide) ?_
    refine Ev.aload_n H173 i173_83 rfl ?_
    refine Rd.getR H173 i173_84 ob10 rfl ?_
    refine Rd.getR H173 i173_87 (ob9 mA9_26) rfl ?_
    refine Rd.getI H173 i173_90 (ob6 (m9_6_6 mA9_26)) rfl ?_
    refine Rd.cS1vN H173 i173_93 cal343 (Nat.le_of_ble_eq_true rfl) (Nat.le_of_ble_eq_true rfl) (Nat.lt_of_lt_of_le (by decide) hd) (fun q hq => c343 hq) h (fun x2 s1 h => ?_)
    exact Rd.ireturn H173 i173_96 rfl h
  refine Rd.sw h (fun hc h => ?_) (fun hc2 h => ?_)
  · refine Rd.tsw H173 i173_1 (t := 97) (by rw [hc]; decide) ?_
    refine Ev.aload_n H173 i173_97 rfl ?_
    refine Rd.getR H173 i173_98 ob10 rfl ?_
    refine Rd.getR H173 i173_101 (ob9 mA9_26) rfl ?_
    refine Rd.getI H173 i173_104 (ob6 (m9_6_6 mA9_26)) rfl ?_
    refine Rd.cS1vN H173 i173_107 cal343 (Nat.le_of_ble_eq_true rfl) (Nat.le_of_ble_eq_true rfl) (Nat.lt_of_lt_of_le (by decide) hd) (fun q hq => c343 hq) h (fun x4 s3 h => ?_)
    exact Rd.ireturn H173 i173_110 rfl h
  refine Rd.sw h (fun hc h => ?_) (fun hc3 h => ?_)
  · refine Rd.tsw H173 i173_1 (t := 111) (by rw [hc]; decide) ?_
    refine Ev.aload_n H173 i173_111 rfl ?_
    refine Rd.getR H173 i173_112 ob10 rfl ?_
    refine Rd.getI H173 i173_115 (ob9 mA9_26) rfl ?_
    exact Rd.ireturn H173 i173_118 rfl h
  refine Rd.sw h (fun hc h => ?_) (fun hc4 h => ?_)
  · refine Rd.tsw H173 i173_1 (t := 119) (by rw [hc]; decide) ?_
    refine Ev.aload_n H173 i173_119 rfl ?_
    refine Rd.getR H173 i173_120 ob10 rfl ?_
    refine Rd.getI H173 i173_123 (ob2 mA2_3) rfl ?_
    exact Rd.ireturn H173 i173_126 rfl h
  refine Rd.sw h (fun hc h => ?_) (fun hc5 h => ?_)
  · refine Rd.tsw H173 i173_1 (t := 127) (by rw [hc]; decide) ?_
    refine Ev.aload_n H173 i173_127 rfl ?_
    refine Rd.getR H173 i173_128 ob10 rfl ?_
    refine Rd.getI H173 i173_131 (ob9 mA9_26) rfl ?_
    exact Rd.ireturn H173 i173_134 rfl h
  refine Rd.sw h (fun hc h => ?_) (fun hc6 h => ?_)
  · refine Rd.tsw H173 i173_1 (t := 135) (by rw [hc]; decide) ?_
    refine Ev.aload_n H173 i173_135 rfl ?_
    refine Rd.getR H173 i173_136 ob10 rfl ?_
    refine Rd.getI H173 i173_139 (ob9 mA9_26) rfl ?_
    exact Rd.ireturn H173 i173_142 rfl h
  refine Rd.sw h (fun hc h => ?_) (fun hc7 h => ?_)
  · refine Rd.tsw H173 i173_1 (t := 143) (by rw [hc]; decide) ?_
    refine Ev.aload_n H173 i173_143 rfl ?_
    refine Rd.getR H173 i173_144 ob10 rfl ?_
    refine Rd.getI H173 i173_147 (ob9 mA9_26) rfl ?_
    exact Rd.ireturn H173 i173_150 rfl h
  refine Rd.sw h (fun hc h => ?_) (fun hc8 h => ?_)
  · refine Rd.tsw H173 i173_1 (t := 151) (by rw [hc]; decide) ?_
    refine Ev.aload_n H173 i173_151 rfl ?_
    refine Rd.getR H173 i173_152 ob10 rfl ?_
    refine Rd.getR H173 i173_155 (ob9 mA9_26) rfl ?_
    refine Rd.cV0vN H173 i173_158 cal77 (ob6 (m9_6_6 mA9_26)) (Nat.le_of_ble_eq_true rfl) (Nat.le_of_ble_eq_true rfl) (Nat.lt_of_lt_of_le (by decide) hd) (fun q hq => c77 (m9_6_6 mA9_26) hq) h (fun x6 s5 h => ?_)
    exact Rd.ireturn H173 i173_161 rfl h
  refine Rd.sw h (fun hc h => ?_) (fun hc9 h => ?_)
  · refine Rd.tsw H173 i173_1 (t := 162) (by rw [hc]; decide) ?_
    refine Ev.aload_n H173 i173_162 rfl ?_
    refine Rd.getR H173 i173_163 ob10 rfl ?_
    refine Rd.getR H173 i173_166 (ob9 mA9_26) rfl ?_
    refine Rd.getI H173 i173_169 (ob1 (m9_1_18 mA9_26)) rfl ?_
    exact Rd.ireturn H173 i173_172 rfl h
  refine Rd.sw h (fun hc h => ?_) (fun hc10 h => ?_)
  · refine Rd.tsw H173 i173_1 (t := 173) (by rw [hc]; decide) ?_
    refine Ev.aload_n H173 i173_173 rfl ?_
    refine Rd.getR H173 i173_174 ob10 rfl ?_
    refine Rd.getR H173 i173_177 (ob9 mA9_26) rfl ?_
    refine Rd.cV0vN H173 i173_180 cal7 (ob0 (m9_0_1 mA9_26)) (Nat.le_of_ble_eq_true rfl) (Nat.le_of_ble_eq_true rfl) (Nat.lt_of_lt_of_le (by decide) hd) (fun q hq => c7 (m9_0_1 mA9_26) hq) h (fun x8 s7 h => ?_)
    exact Rd.ireturn H173 i173_183 rfl h
  refine Rd.sw h (fun hc h => ?_) (fun hc11 h => ?_)
  · refine Rd.tsw H173 i173_1 (t := 184) (by rw [hc]; decide) ?_
    refine Ev.aload_n H173 i173_184 rfl ?_
    refine Rd.getR H173 i173_185 ob10 rfl ?_
    refine Rd.getR H173 i173_188 (ob9 mA9_26) rfl ?_
    refine Rd.cV0vN H173 i173_191 cal8 (ob0 (m9_0_1 mA9_26)) (Nat.le_of_ble_eq_true rfl) (Nat.le_of_ble_eq_true rfl) (Nat.lt_of_lt_of_le (by decide) hd) (fun q hq => c8 (m9_0_1 mA9_26) hq) h (fun x10 s9 h => ?_)
    exact Rd.ireturn H173 i173_194 rfl h
  refine Rd.sw h (fun hc h => ?_) (fun hc12 h => ?_)
  · refine Rd.tsw H173 i173_1 (t := 195) (by rw [hc]; decide) ?_
    refine Ev.aload_n H173 i173_195 rfl ?_
    refine Rd.getR H173 i173_196 ob10 rfl ?_
    refine Rd.getR H173 i173_199 (ob9 mA9_26) rfl ?_
    refine Rd.getI H173 i173_202 (ob4 (m9_4_26 mA9_26)) rfl ?_
    exact Rd.ireturn H173 i173_205 rfl h
  refine Rd.sw h (fun hc h => ?_) (fun hc13 h => ?_)
  · refine Rd.tsw H173 i173_1 (t := 206) (by rw [hc]; decide) ?_
    refine Ev.aload_n H173 i173_206 rfl ?_
    refine Rd.getI H173 i173_207 ob10 rfl ?_
    exact Rd.ireturn H173 i173_210 rfl h
  have hsw : ∀ k : Nat, k < 14 → ¬ v1 = Int32.ofInt (0 + k) := fun k hk => match k, hk with
    | 0, _ => hc0
    | 1, _ => hc1
    | 2, _ => hc2
    | 3, _ => hc3
    | 4, _ => hc4
    | 5, _ => hc5
    | 6, _ => hc6
    | 7, _ => hc7
    | 8, _ => hc8
    | 9, _ => hc9
    | 10, _ => hc10
    | 11, _ => hc11
    | 12, _ => hc12
    | 13, _ => hc13
    | k + 14, hk => absurd hk (by omega)
  have hsq : v1.toInt < 0 ∨ 13 < v1.toInt := by have hq := mm_sw hsw; omega
  refine Rd.tsw H173 i173_1 (t := 211) (by rw [if_pos hsq]; decide) ?_
  refine Ev.iconst H173 i173_211 kI_m1 ?_
  exact Rd.ireturn H173 i173_212 rfl h
theorem i174_0 : mm_cd 174 0 = some (.aload_n 0, 1, 0, 0) := rfl
theorem i174_1 : mm_cd 174 1 = some (.getfield 78, 3, ((10 : Nat) : Int), 11) := rfl
theorem i174_4 : mm_cd 174 4 = some (.ifCond .ne 5, 3, 0, 0) := rfl
theorem i174_7 : mm_cd 174 7 = some (.iconst 0, 1, 0, 0) := rfl
theorem i174_8 : mm_cd 174 8 = some (.ireturn, 1, 0, 0) := rfl
theorem i174_9 : mm_cd 174 9 = some (.aload_n 0, 1, 0, 0) := rfl
theorem i174_10 : mm_cd 174 10 = some (.aload_n 0, 1, 0, 0) := rfl
theorem i174_11 : mm_cd 174 11 = some (.getfield 74, 3, ((10 : Nat) : Int), 10) := rfl
theorem i174_14 : mm_cd 174 14 = some (.bipush 12, 2, 0, 0) := rfl
theorem i174_16 : mm_cd 174 16 = some (.iadd, 1, 0, 0) := rfl
theorem i174_17 : mm_cd 174 17 = some (.iconst 1, 1, 0, 0) := rfl
theorem i174_18 : mm_cd 174 18 = some (.isub, 1, 0, 0) := rfl
theorem i174_19 : mm_cd 174 19 = some (.bipush 12, 2, 0, 0) := rfl
theorem i174_21 : mm_cd 174 21 = some (.irem, 1, 0, 0) := rfl
theorem i174_22 : mm_cd 174 22 = some (.putfield 74, 3, ((10 : Nat) : Int), 10) := rfl
theorem i174_25 : mm_cd 174 25 = some (.aload_n 0, 1, 0, 0) := rfl
theorem i174_26 : mm_cd 174 26 = some (.dup, 1, 0, 0) := rfl
theorem i174_27 : mm_cd 174 27 = some (.getfield 78, 3, ((10 : Nat) : Int), 11) := rfl
theorem i174_30 : mm_cd 174 30 = some (.iconst 1, 1, 0, 0) := rfl
theorem i174_31 : mm_cd 174 31 = some (.isub, 1, 0, 0) := rfl
theorem i174_32 : mm_cd 174 32 = some (.putfield 78, 3, ((10 : Nat) : Int), 11) := rfl
theorem i174_35 : mm_cd 174 35 = some (.aload_n 0, 1, 0, 0) := rfl
theorem i174_36 : mm_cd 174 36 = some (.getfield 40, 3, ((10 : Nat) : Int), 4) := rfl
theorem i174_39 : mm_cd 174 39 = some (.aload_n 0, 1, 0, 0) := rfl
theorem i174_40 : mm_cd 174 40 = some (.getfield 70, 3, ((10 : Nat) : Int), 9) := rfl
theorem i174_43 : mm_cd 174 43 = some (.aload_n 0, 1, 0, 0) := rfl
theorem i174_44 : mm_cd 174 44 = some (.getfield 74, 3, ((10 : Nat) : Int), 10) := rfl
theorem i174_47 : mm_cd 174 47 = some (.aaload, 1, 0, 0) := rfl
theorem i174_48 : mm_cd 174 48 = some (.invokevirtual 95, 3, 0, 111) := rfl
theorem i174_51 : mm_cd 174 51 = some (.iconst 1, 1, 0, 0) := rfl
theorem i174_52 : mm_cd 174 52 = some (.ireturn, 1, 0, 0) := rfl
/-- SerialGate.undo()Z -/
def q174 (s : mS) : Option mQ := if ¬ (s.1 0 11) = 0 then (gZ (12 : Int32) <| sp (sI s 0 10 (rmI (((s.1 0 10) + (12 : Int32)) - (1 : Int32)) (12 : Int32))) fun s1 => sp (sI s1 0 11 ((s1.1 0 11) - (1 : Int32))) fun s2 => gA 12 (s2.1 0 10) <| bM (q111 26 (128 + 32 * (s2.1 0 10).toNatClampNeg) s2) fun s4 => rv (1 : Int32) s4) else (rv (0 : Int32) s)
theorem c174 {L : Nat} {xs : Nat → Int32} {s : mS} {r : mQ} (h : q174 s = some r) : ∀ d, 2 ≤ d → Cl L xs d 174 [.ref 0] (hp s) (hr r) := by
  intro d hd
  show Ev L xs d 174 0 [(0, .ref 0)] [] (hp s) (hr r)
  unfold q174 at h
  refine Ev.aload_n H174 i174_0 rfl ?_
  refine Rd.getI H174 i174_1 ob10 rfl ?_
  refine Rd.if_ne H174 i174_4 (t := 9) (by decide) h (fun hc h => ?_) (fun hc h => ?_)
  · refine Ev.aload_n H174 i174_9 rfl ?_
    refine Ev.aload_n H174 i174_10 rfl ?_
    refine Rd.getI H174 i174_11 ob10 rfl ?_
    refine Ev.bipush H174 i174_14 kB_12 ?_
    refine Ev.iadd H174 i174_16 ?_
    refine Ev.iconst H174 i174_17 kI_1 ?_
    refine Ev.isub H174 i174_18 ?_
    refine Ev.bipush H174 i174_19 kB_12 ?_
    refine Rd.irem H174 i174_21 h (fun h => ?_)
    refine Rd.putI H174 i174_22 ob10 rfl ty10_10.1 ty10_10.2 h (fun s1 h => ?_)
    refine Ev.aload_n H174 i174_25 rfl ?_
    refine Ev.dup H174 i174_26 rfl ?_
    refine Rd.getI H174 i174_27 ob10 rfl ?_
    refine Ev.iconst H174 i174_30 kI_1 ?_
    refine Ev.isub H174 i174_31 ?_
    refine Rd.putI H174 i174_32 ob10 rfl ty10_11.1 ty10_11.2 h (fun s2 h => ?_)
    refine Ev.aload_n H174 i174_35 rfl ?_
    refine Rd.getR H174 i174_36 ob10 rfl ?_
    refine Ev.aload_n H174 i174_39 rfl ?_
    refine Rd.getR H174 i174_40 ob10 rfl ?_
    refine Ev.aload_n H174 i174_43 rfl ?_
    refine Rd.getI H174 i174_44 ob10 rfl ?_
    refine Rd.aaload H174 i174_47 ar_127 h (fun hg3 h => ?_)
    refine Rd.cV1uN H174 i174_48 cal111 (ob9 mA9_26) (Nat.le_of_ble_eq_true rfl) (Nat.le_of_ble_eq_true rfl) (Nat.lt_of_lt_of_le (by decide) hd) (fun q hq => c111 mA9_26 (mA9_d hg3) hq) h (fun s4 h => ?_)
    refine Ev.iconst H174 i174_51 kI_1 ?_
    exact Rd.ireturnK H174 i174_52 rfl (Or.inr rfl) h
  · refine Ev.iconst H174 i174_7 kI_0 ?_
    exact Rd.ireturnK H174 i174_8 rfl (Or.inl rfl) h
theorem i175_0 : mm_cd 175 0 = some (.aload_n 0, 1, 0, 0) := rfl
theorem i175_1 : mm_cd 175 1 = some (.getfield 47, 3, ((10 : Nat) : Int), 6) := rfl
theorem i175_4 : mm_cd 175 4 = some (.aload_n 0, 1, 0, 0) := rfl
theorem i175_5 : mm_cd 175 5 = some (.getfield 40, 3, ((10 : Nat) : Int), 4) := rfl
theorem i175_8 : mm_cd 175 8 = some (.invokevirtual 95, 3, 0, 111) := rfl
theorem i175_11 : mm_cd 175 11 = some (.aload_n 0, 1, 0, 0) := rfl
theorem i175_12 : mm_cd 175 12 = some (.getfield 23, 3, ((10 : Nat) : Int), 2) := rfl
theorem i175_15 : mm_cd 175 15 = some (.aload_n 0, 1, 0, 0) := rfl
theorem i175_16 : mm_cd 175 16 = some (.getfield 19, 3, ((10 : Nat) : Int), 1) := rfl
theorem i175_19 : mm_cd 175 19 = some (.invokevirtual 134, 3, 0, 21) := rfl
theorem i175_22 : mm_cd 175 22 = some (.aload_n 0, 1, 0, 0) := rfl
theorem i175_23 : mm_cd 175 23 = some (.iconst 1, 1, 0, 0) := rfl
theorem i175_24 : mm_cd 175 24 = some (.putfield 81, 3, ((10 : Nat) : Int), 12) := rfl
theorem i175_27 : mm_cd 175 27 = some (.return_, 1, 0, 0) := rfl
/-- SerialGate.image()V -/
def q175 (s : mS) : Option mQ := bM (q111 90 26 s) fun s1 => bM (q21 10 3 s1) fun s2 => gB (1 : Int32) <| sp (sI s2 0 12 (1 : Int32)) fun s3 => ru s3
theorem c175 {L : Nat} {xs : Nat → Int32} {s : mS} {r : mQ} (h : q175 s = some r) : ∀ d, 2 ≤ d → Cl L xs d 175 [.ref 0] (hp s) (hr r) := by
  intro d hd
  show Ev L xs d 175 0 [(0, .ref 0)] [] (hp s) (hr r)
  unfold q175 at h
  refine Ev.aload_n H175 i175_0 rfl ?_
  refine Rd.getR H175 i175_1 ob10 rfl ?_
  refine Ev.aload_n H175 i175_4 rfl ?_
  refine Rd.getR H175 i175_5 ob10 rfl ?_
  refine Rd.cV1uN H175 i175_8 cal111 (ob9 mA9_90) (Nat.le_of_ble_eq_true rfl) (Nat.le_of_ble_eq_true rfl) (Nat.lt_of_lt_of_le (by decide) hd) (fun q hq => c111 mA9_90 mA9_26 hq) h (fun s1 h => ?_)
  refine Ev.aload_n H175 i175_11 rfl ?_
  refine Rd.getR H175 i175_12 ob10 rfl ?_
  refine Ev.aload_n H175 i175_15 rfl ?_
  refine Rd.getR H175 i175_16 ob10 rfl ?_
  refine Rd.cV1uN H175 i175_19 cal21 (ob2 mA2_10) (Nat.le_of_ble_eq_true rfl) (Nat.le_of_ble_eq_true rfl) (Nat.lt_of_lt_of_le (by decide) hd) (fun q hq => c21 mA2_10 mA2_3 hq) h (fun s2 h => ?_)
  refine Ev.aload_n H175 i175_22 rfl ?_
  refine Ev.iconst H175 i175_23 kI_1 ?_
  refine Rd.putZ H175 i175_24 ob10 rfl ty10_12.1 ty10_12.2 h (fun s3 h => ?_)
  exact Rd.return_ H175 i175_27 rfl h
theorem i176_0 : mm_cd 176 0 = some (.aload_n 0, 1, 0, 0) := rfl
theorem i176_1 : mm_cd 176 1 = some (.getfield 81, 3, ((10 : Nat) : Int), 12) := rfl
theorem i176_4 : mm_cd 176 4 = some (.ifCond .ne 5, 3, 0, 0) := rfl
theorem i176_7 : mm_cd 176 7 = some (.iconst 0, 1, 0, 0) := rfl
theorem i176_8 : mm_cd 176 8 = some (.ireturn, 1, 0, 0) := rfl
theorem i176_9 : mm_cd 176 9 = some (.aload_n 0, 1, 0, 0) := rfl
theorem i176_10 : mm_cd 176 10 = some (.getfield 40, 3, ((10 : Nat) : Int), 4) := rfl
theorem i176_13 : mm_cd 176 13 = some (.aload_n 0, 1, 0, 0) := rfl
theorem i176_14 : mm_cd 176 14 = some (.getfield 47, 3, ((10 : Nat) : Int), 6) := rfl
theorem i176_17 : mm_cd 176 17 = some (.invokevirtual 95, 3, 0, 111) := rfl
theorem i176_20 : mm_cd 176 20 = some (.aload_n 0, 1, 0, 0) := rfl
theorem i176_21 : mm_cd 176 21 = some (.getfield 19, 3, ((10 : Nat) : Int), 1) := rfl
theorem i176_24 : mm_cd 176 24 = some (.aload_n 0, 1, 0, 0) := rfl
theorem i176_25 : mm_cd 176 25 = some (.getfield 23, 3, ((10 : Nat) : Int), 2) := rfl
theorem i176_28 : mm_cd 176 28 = some (.invokevirtual 134, 3, 0, 21) := rfl
theorem i176_31 : mm_cd 176 31 = some (.aload_n 0, 1, 0, 0) := rfl
theorem i176_32 : mm_cd 176 32 = some (.invokevirtual 125, 3, 0, 178) := rfl
theorem i176_35 : mm_cd 176 35 = some (.iconst 1, 1, 0, 0) := rfl
theorem i176_36 : mm_cd 176 36 = some (.ireturn, 1, 0, 0) := rfl
/-- SerialGate.back()Z -/
def q176 (s : mS) : Option mQ := if ¬ (s.1 0 12) = 0 then (bM (q111 26 90 s) fun s1 => bM (q21 3 10 s1) fun s2 => bM (q178 s2) fun s3 => rv (1 : Int32) s3) else (rv (0 : Int32) s)
theorem c176 {L : Nat} {xs : Nat → Int32} {s : mS} {r : mQ} (h : q176 s = some r) : ∀ d, 2 ≤ d → Cl L xs d 176 [.ref 0] (hp s) (hr r) := by
  intro d hd
  show Ev L xs d 176 0 [(0, .ref 0)] [] (hp s) (hr r)
  unfold q176 at h
  refine Ev.aload_n H176 i176_0 rfl ?_
  refine Rd.getI H176 i176_1 ob10 rfl ?_
  refine Rd.if_ne H176 i176_4 (t := 9) (by decide) h (fun hc h => ?_) (fun hc h => ?_)
  · refine Ev.aload_n H176 i176_9 rfl ?_
    refine Rd.getR H176 i176_10 ob10 rfl ?_
    refine Ev.aload_n H176 i176_13 rfl ?_
    refine Rd.getR H176 i176_14 ob10 rfl ?_
    refine Rd.cV1uN H176 i176_17 cal111 (ob9 mA9_26) (Nat.le_of_ble_eq_true rfl) (Nat.le_of_ble_eq_true rfl) (Nat.lt_of_lt_of_le (by decide) hd) (fun q hq => c111 mA9_26 mA9_90 hq) h (fun s1 h => ?_)
    refine Ev.aload_n H176 i176_20 rfl ?_
    refine Rd.getR H176 i176_21 ob10 rfl ?_
    refine Ev.aload_n H176 i176_24 rfl ?_
    refine Rd.getR H176 i176_25 ob10 rfl ?_
    refine Rd.cV1uN H176 i176_28 cal21 (ob2 mA2_3) (Nat.le_of_ble_eq_true rfl) (Nat.le_of_ble_eq_true rfl) (Nat.lt_of_lt_of_le (by decide) hd) (fun q hq => c21 mA2_3 mA2_10 hq) h (fun s2 h => ?_)
    refine Ev.aload_n H176 i176_31 rfl ?_
    refine Rd.cV0uN H176 i176_32 cal178 ob10 (Nat.le_of_ble_eq_true rfl) (Nat.le_of_ble_eq_true rfl) (Nat.lt_of_lt_of_le (by decide) hd) (fun q hq => c178 hq) h (fun s3 h => ?_)
    refine Ev.iconst H176 i176_35 kI_1 ?_
    exact Rd.ireturnK H176 i176_36 rfl (Or.inr rfl) h
  · refine Ev.iconst H176 i176_7 kI_0 ?_
    exact Rd.ireturnK H176 i176_8 rfl (Or.inl rfl) h
theorem i187_0 : mm_cd 187 0 = some (.aload_n 0, 1, 0, 0) := rfl
theorem i187_1 : mm_cd 187 1 = some (.getfield 3, 3, ((11 : Nat) : Int), 0) := rfl
theorem i187_4 : mm_cd 187 4 = some (.ireturn, 1, 0, 0) := rfl
/-- SerialGateModel.thrown()I -/
def q187 (s : mS) : Option mQ := rv (s.1 512 0) s
theorem c187 {L : Nat} {xs : Nat → Int32} {s : mS} {r : mQ} (h : q187 s = some r) : ∀ d, 0 ≤ d → Cl L xs d 187 [.ref 512] (hp s) (hr r) := by
  intro d hd
  show Ev L xs d 187 0 [(0, .ref 512)] [] (hp s) (hr r)
  unfold q187 at h
  refine Ev.aload_n H187 i187_0 rfl ?_
  refine Rd.getI H187 i187_1 ob11 rfl ?_
  exact Rd.ireturn H187 i187_4 rfl h
theorem i188_0 : mm_cd 188 0 = some (.iload_n 1, 1, 0, 0) := rfl
theorem i188_1 : mm_cd 188 1 = some (.ifCond .eq 8, 3, 0, 0) := rfl
theorem i188_4 : mm_cd 188 4 = some (.aload_n 0, 1, 0, 0) := rfl
theorem i188_5 : mm_cd 188 5 = some (.iload_n 2, 1, 0, 0) := rfl
theorem i188_6 : mm_cd 188 6 = some (.putfield 3, 3, ((11 : Nat) : Int), 0) := rfl
theorem i188_9 : mm_cd 188 9 = some (.iload_n 1, 1, 0, 0) := rfl
theorem i188_10 : mm_cd 188 10 = some (.ireturn, 1, 0, 0) := rfl
/-- SerialGateModel.throwsIf(ZI)Z -/
def q188 (v1 : Int32) (v2 : Int32) (s : mS) : Option mQ := if v1 = 0 then (gB v1 <| rv v1 s) else (sp (sI s 512 0 v2) fun s1 => gB v1 <| rv v1 s1)
theorem c188 {L : Nat} {xs : Nat → Int32} {v1 : Int32} {v2 : Int32} {s : mS} {r : mQ} (h : q188 v1 v2 s = some r) : ∀ d, 0 ≤ d → Cl L xs d 188 [.ref 512, .int v1, .int v2] (hp s) (hr r) := by
  intro d hd
  show Ev L xs d 188 0 [(0, .ref 512), (1, .int v1), (2, .int v2)] [] (hp s) (hr r)
  unfold q188 at h
  refine Ev.iload_n H188 i188_0 rfl ?_
  refine Rd.if_eq H188 i188_1 (t := 9) (by decide) h (fun hc h => ?_) (fun hc h => ?_)
  · refine Ev.iload_n H188 i188_9 rfl ?_
    exact Rd.ireturnZ H188 i188_10 rfl h
  · refine Ev.aload_n H188 i188_4 rfl ?_
    refine Ev.iload_n H188 i188_5 rfl ?_
    refine Rd.putI H188 i188_6 ob11 rfl ty11_0.1 ty11_0.2 h (fun s1 h => ?_)
    refine Ev.iload_n H188 i188_9 rfl ?_
    exact Rd.ireturnZ H188 i188_10 rfl h
theorem i189_0 : mm_cd 189 0 = some (.iload_n 0, 1, 0, 0) := rfl
theorem i189_1 : mm_cd 189 1 = some (.iload_n 1, 1, 0, 0) := rfl
theorem i189_2 : mm_cd 189 2 = some (.if_icmp .lt 12, 3, 0, 0) := rfl
theorem i189_5 : mm_cd 189 5 = some (.iload_n 0, 1, 0, 0) := rfl
theorem i189_6 : mm_cd 189 6 = some (.iload_n 2, 1, 0, 0) := rfl
theorem i189_7 : mm_cd 189 7 = some (.if_icmp .gt 7, 3, 0, 0) := rfl
theorem i189_10 : mm_cd 189 10 = some (.iconst 1, 1, 0, 0) := rfl
theorem i189_11 : mm_cd 189 11 = some (.goto 4, 3, 0, 0) := rfl
theorem i189_14 : mm_cd 189 14 = some (.iconst 0, 1, 0, 0) := rfl
theorem i189_15 : mm_cd 189 15 = some (.ireturn, 1, 0, 0) := rfl
/-- SerialGateModel.in(III)Z -/
def q189 (v0 : Int32) (v1 : Int32) (v2 : Int32) (s : mS) : Option mQ := if v0 < v1 then (rv (0 : Int32) s) else (if v2 < v0 then (rv (0 : Int32) s) else (rv (1 : Int32) s))
theorem c189 {L : Nat} {xs : Nat → Int32} {v0 : Int32} {v1 : Int32} {v2 : Int32} {s : mS} {r : mQ} (h : q189 v0 v1 v2 s = some r) : ∀ d, 0 ≤ d → Cl L xs d 189 [.int v0, .int v1, .int v2] (hp s) (hr r) := by
  intro d hd
  show Ev L xs d 189 0 [(0, .int v0), (1, .int v1), (2, .int v2)] [] (hp s) (hr r)
  unfold q189 at h
  refine Ev.iload_n H189 i189_0 rfl ?_
  refine Ev.iload_n H189 i189_1 rfl ?_
  refine Rd.ic_lt H189 i189_2 (t := 14) (by decide) h (fun hc h => ?_) (fun hc h => ?_)
  · refine Ev.iconst H189 i189_14 kI_0 ?_
    exact Rd.ireturnK H189 i189_15 rfl (Or.inl rfl) h
  · refine Ev.iload_n H189 i189_5 rfl ?_
    refine Ev.iload_n H189 i189_6 rfl ?_
    refine Rd.ic_gt H189 i189_7 (t := 14) (by decide) h (fun hc h => ?_) (fun hc h => ?_)
    · refine Ev.iconst H189 i189_14 kI_0 ?_
      exact Rd.ireturnK H189 i189_15 rfl (Or.inl rfl) h
    · refine Ev.iconst H189 i189_10 kI_1 ?_
      refine Ev.goto H189 i189_11 (t := 15) (by decide) ?_
      exact Rd.ireturnK H189 i189_15 rfl (Or.inr rfl) h
theorem i190_0 : mm_cd 190 0 = some (.iload_n 0, 1, 0, 0) := rfl
theorem i190_1 : mm_cd 190 1 = some (.iload_n 1, 1, 0, 0) := rfl
theorem i190_2 : mm_cd 190 2 = some (.ishr, 1, 0, 0) := rfl
theorem i190_3 : mm_cd 190 3 = some (.iconst 1, 1, 0, 0) := rfl
theorem i190_4 : mm_cd 190 4 = some (.iand, 1, 0, 0) := rfl
theorem i190_5 : mm_cd 190 5 = some (.iconst 1, 1, 0, 0) := rfl
theorem i190_6 : mm_cd 190 6 = some (.if_icmp .ne 7, 3, 0, 0) := rfl
theorem i190_9 : mm_cd 190 9 = some (.iconst 1, 1, 0, 0) := rfl
theorem i190_10 : mm_cd 190 10 = some (.goto 4, 3, 0, 0) := rfl
theorem i190_13 : mm_cd 190 13 = some (.iconst 0, 1, 0, 0) := rfl
theorem i190_14 : mm_cd 190 14 = some (.ireturn, 1, 0, 0) := rfl
/-- SerialGateModel.has(II)Z -/
def q190 (v0 : Int32) (v1 : Int32) (s : mS) : Option mQ := if ¬ ((shrI v0 v1) &&& (1 : Int32)) = (1 : Int32) then (rv (0 : Int32) s) else (rv (1 : Int32) s)
theorem c190 {L : Nat} {xs : Nat → Int32} {v0 : Int32} {v1 : Int32} {s : mS} {r : mQ} (h : q190 v0 v1 s = some r) : ∀ d, 0 ≤ d → Cl L xs d 190 [.int v0, .int v1] (hp s) (hr r) := by
  intro d hd
  show Ev L xs d 190 0 [(0, .int v0), (1, .int v1)] [] (hp s) (hr r)
  unfold q190 at h
  refine Ev.iload_n H190 i190_0 rfl ?_
  refine Ev.iload_n H190 i190_1 rfl ?_
  refine Rd.ishr H190 i190_2 ?_
  refine Ev.iconst H190 i190_3 kI_1 ?_
  refine Ev.iand H190 i190_4 ?_
  refine Ev.iconst H190 i190_5 kI_1 ?_
  refine Rd.ic_ne H190 i190_6 (t := 13) (by decide) h (fun hc h => ?_) (fun hc h => ?_)
  · refine Ev.iconst H190 i190_13 kI_0 ?_
    exact Rd.ireturnK H190 i190_14 rfl (Or.inl rfl) h
  · refine Ev.iconst H190 i190_9 kI_1 ?_
    refine Ev.goto H190 i190_10 (t := 14) (by decide) ?_
    exact Rd.ireturnK H190 i190_14 rfl (Or.inr rfl) h
theorem i192_0 : mm_cd 192 0 = some (.aload_n 0, 1, 0, 0) := rfl
theorem i192_1 : mm_cd 192 1 = some (.iconst 0, 1, 0, 0) := rfl
theorem i192_2 : mm_cd 192 2 = some (.putfield 3, 3, ((11 : Nat) : Int), 0) := rfl
theorem i192_5 : mm_cd 192 5 = some (.iconst 0, 1, 0, 0) := rfl
theorem i192_6 : mm_cd 192 6 = some (.istore_n 1, 1, 0, 0) := rfl
theorem i192_7 : mm_cd 192 7 = some (.iload_n 1, 1, 0, 0) := rfl
theorem i192_8 : mm_cd 192 8 = some (.sipush 1619, 3, 0, 0) := rfl
theorem i192_11 : mm_cd 192 11 = some (.if_icmp .ge 21, 3, 0, 0) := rfl
theorem i192_14 : mm_cd 192 14 = some (.aload_n 0, 1, 0, 0) := rfl
theorem i192_15 : mm_cd 192 15 = some (.getfield 17, 3, ((11 : Nat) : Int), 2) := rfl
theorem i192_18 : mm_cd 192 18 = some (.iload_n 1, 1, 0, 0) := rfl
theorem i192_19 : mm_cd 192 19 = some (.aload_n 0, 1, 0, 0) := rfl
theorem i192_20 : mm_cd 192 20 = some (.getfield 13, 3, ((11 : Nat) : Int), 1) := rfl
theorem i192_23 : mm_cd 192 23 = some (.iload_n 1, 1, 0, 0) := rfl
theorem i192_24 : mm_cd 192 24 = some (.iaload, 1, 0, 0) := rfl
theorem i192_25 : mm_cd 192 25 = some (.iastore, 1, 0, 0) := rfl
theorem i192_26 : mm_cd 192 26 = some (.iinc 1 1, 3, 0, 0) := rfl
theorem i192_29 : mm_cd 192 29 = some (.goto (-22), 3, 0, 0) := rfl
theorem i192_32 : mm_cd 192 32 = some (.aload_n 0, 1, 0, 0) := rfl
theorem i192_33 : mm_cd 192 33 = some (.iconst 1, 1, 0, 0) := rfl
theorem i192_34 : mm_cd 192 34 = some (.putfield 52, 3, ((11 : Nat) : Int), 6) := rfl
theorem i192_37 : mm_cd 192 37 = some (.return_, 1, 0, 0) := rfl
def q192_7 (k32 : mS → Option mQ) : Nat → Int32 → mS → Option mQ
  | 0, _, _ => none
  | n + 1, v1, s => if (1619 : Int32) ≤ v1 then (k32 s) else (gA 2468 v1 <| gA 1619 v1 <| sp (sI s 514 v1.toNatClampNeg (s.1 513 v1.toNatClampNeg)) fun s1 => bx (v1 + (1 : Int32)) fun x2 => q192_7 k32 n x2 s1)
theorem t192_7 {L : Nat} {xs : Nat → Int32} {d : Nat} {k32 : mS → Option mQ} (hk32 : ∀ (s : mS) (r : mQ), k32 s = some r → Ev L xs d 192 32 [(0, .ref 512)] [] (hp s) (hr r)) (hd : 0 ≤ d) : ∀ (n : Nat) (v1 : Int32) (s : mS) (r : mQ), q192_7 k32 n v1 s = some r → Ev L xs d 192 7 [(0, .ref 512), (1, .int v1)] [] (hp s) (hr r) := by
  intro n
  induction n with
  | zero => intro v1 s r h; rw [q192_7] at h; cases h
  | succ n ih =>
    intro v1 s r h
    rw [q192_7] at h
    refine Ev.iload_n H192 i192_7 rfl ?_
    refine Ev.sipush H192 i192_8 kS_1619 ?_
    refine Rd.ic_ge H192 i192_11 (t := 32) (by decide) h (fun hc h => ?_) (fun hc h => ?_)
    · exact Ev.sub (l := [(0, .ref 512)]) rfl rfl (mm_sub_c rfl mm_sub_n) (hk32 _ _ h)
    · refine Ev.aload_n H192 i192_14 rfl ?_
      refine Rd.getR H192 i192_15 ob11 rfl ?_
      refine Ev.iload_n H192 i192_18 rfl ?_
      refine Ev.aload_n H192 i192_19 rfl ?_
      refine Rd.getR H192 i192_20 ob11 rfl ?_
      refine Ev.iload_n H192 i192_23 rfl ?_
      refine Rd.iaload H192 i192_24 ar_513 h (fun h => ?_)
      refine Rd.iastore H192 i192_25 ar_514 h (fun s1 h => ?_)
      refine Rd.iinc H192 i192_26 (Nat.le_of_ble_eq_true rfl) rfl kI_1 (lv2 := fun x2 => [(1, .int x2), (0, .ref 512)]) (fun _ => rfl) h (fun x2 h => ?_)
      refine Ev.goto H192 i192_29 (t := 7) (by decide) ?_
      exact Ev.sub (l := [(0, .ref 512), (1, .int x2)]) rfl rfl (mm_sub_c rfl (mm_sub_c rfl mm_sub_n)) (ih _ _ _ h)
def q192_32 (s : mS) : Option mQ := gB (1 : Int32) <| sp (sI s 512 6 (1 : Int32)) fun s3 => ru s3
theorem t192_32 {L : Nat} {xs : Nat → Int32} {d : Nat} (hd : 0 ≤ d) {s : mS} {r : mQ} (h : q192_32 s = some r) : Ev L xs d 192 32 [(0, .ref 512)] [] (hp s) (hr r) := by
  unfold q192_32 at h
  refine Ev.aload_n H192 i192_32 rfl ?_
  refine Ev.iconst H192 i192_33 kI_1 ?_
  refine Rd.putZ H192 i192_34 ob11 rfl ty11_6.1 ty11_6.2 h (fun s3 h => ?_)
  exact Rd.return_ H192 i192_37 rfl h
/-- SerialGateModel.image()V -/
def q192 (s : mS) : Option mQ := sp (sI s 512 0 (0 : Int32)) fun s4 => q192_7 (q192_32) 10000 (0 : Int32) s4
theorem c192 {L : Nat} {xs : Nat → Int32} {s : mS} {r : mQ} (h : q192 s = some r) : ∀ d, 0 ≤ d → Cl L xs d 192 [.ref 512] (hp s) (hr r) := by
  intro d hd
  show Ev L xs d 192 0 [(0, .ref 512)] [] (hp s) (hr r)
  unfold q192 at h
  refine Ev.aload_n H192 i192_0 rfl ?_
  refine Ev.iconst H192 i192_1 kI_0 ?_
  refine Rd.putI H192 i192_2 ob11 rfl ty11_0.1 ty11_0.2 h (fun s4 h => ?_)
  refine Ev.iconst H192 i192_5 kI_0 ?_
  refine Ev.istore_n H192 i192_6 (Nat.le_of_ble_eq_true rfl) (lv2 := [(1, .int (0 : Int32)), (0, .ref 512)]) rfl ?_
  exact Ev.sub (l := [(0, .ref 512), (1, .int (0 : Int32))]) rfl rfl (mm_sub_c rfl (mm_sub_c rfl mm_sub_n)) (t192_7 (k32 := (q192_32)) (fun _ _ h => t192_32 hd h) hd 10000 _ _ _ h)
theorem i193_0 : mm_cd 193 0 = some (.aload_n 0, 1, 0, 0) := rfl
theorem i193_1 : mm_cd 193 1 = some (.iconst 0, 1, 0, 0) := rfl
theorem i193_2 : mm_cd 193 2 = some (.putfield 3, 3, ((11 : Nat) : Int), 0) := rfl
theorem i193_5 : mm_cd 193 5 = some (.aload_n 0, 1, 0, 0) := rfl
theorem i193_6 : mm_cd 193 6 = some (.getfield 52, 3, ((11 : Nat) : Int), 6) := rfl
theorem i193_9 : mm_cd 193 9 = some (.ifCond .ne 5, 3, 0, 0) := rfl
theorem i193_12 : mm_cd 193 12 = some (.iconst 0, 1, 0, 0) := rfl
theorem i193_13 : mm_cd 193 13 = some (.ireturn, 1, 0, 0) := rfl
theorem i193_14 : mm_cd 193 14 = some (.iconst 0, 1, 0, 0) := rfl
theorem i193_15 : mm_cd 193 15 = some (.istore_n 1, 1, 0, 0) := rfl
theorem i193_16 : mm_cd 193 16 = some (.iload_n 1, 1, 0, 0) := rfl
theorem i193_17 : mm_cd 193 17 = some (.sipush 1619, 3, 0, 0) := rfl
theorem i193_20 : mm_cd 193 20 = some (.if_icmp .ge 21, 3, 0, 0) := rfl
theorem i193_23 : mm_cd 193 23 = some (.aload_n 0, 1, 0, 0) := rfl
theorem i193_24 : mm_cd 193 24 = some (.getfield 13, 3, ((11 : Nat) : Int), 1) := rfl
theorem i193_27 : mm_cd 193 27 = some (.iload_n 1, 1, 0, 0) := rfl
theorem i193_28 : mm_cd 193 28 = some (.aload_n 0, 1, 0, 0) := rfl
theorem i193_29 : mm_cd 193 29 = some (.getfield 17, 3, ((11 : Nat) : Int), 2) := rfl
theorem i193_32 : mm_cd 193 32 = some (.iload_n 1, 1, 0, 0) := rfl
theorem i193_33 : mm_cd 193 33 = some (.iaload, 1, 0, 0) := rfl
theorem i193_34 : mm_cd 193 34 = some (.iastore, 1, 0, 0) := rfl
theorem i193_35 : mm_cd 193 35 = some (.iinc 1 1, 3, 0, 0) := rfl
theorem i193_38 : mm_cd 193 38 = some (.goto (-22), 3, 0, 0) := rfl
theorem i193_41 : mm_cd 193 41 = some (.aload_n 0, 1, 0, 0) := rfl
theorem i193_42 : mm_cd 193 42 = some (.iconst 0, 1, 0, 0) := rfl
theorem i193_43 : mm_cd 193 43 = some (.putfield 56, 3, ((11 : Nat) : Int), 7) := rfl
theorem i193_46 : mm_cd 193 46 = some (.iconst 1, 1, 0, 0) := rfl
theorem i193_47 : mm_cd 193 47 = some (.ireturn, 1, 0, 0) := rfl
def q193_16 (k41 : mS → Option mQ) : Nat → Int32 → mS → Option mQ
  | 0, _, _ => none
  | n + 1, v1, s => if (1619 : Int32) ≤ v1 then (k41 s) else (gA 1619 v1 <| gA 2468 v1 <| sp (sI s 513 v1.toNatClampNeg (s.1 514 v1.toNatClampNeg)) fun s1 => bx (v1 + (1 : Int32)) fun x2 => q193_16 k41 n x2 s1)
theorem t193_16 {L : Nat} {xs : Nat → Int32} {d : Nat} {k41 : mS → Option mQ} (hk41 : ∀ (s : mS) (r : mQ), k41 s = some r → Ev L xs d 193 41 [(0, .ref 512)] [] (hp s) (hr r)) (hd : 0 ≤ d) : ∀ (n : Nat) (v1 : Int32) (s : mS) (r : mQ), q193_16 k41 n v1 s = some r → Ev L xs d 193 16 [(0, .ref 512), (1, .int v1)] [] (hp s) (hr r) := by
  intro n
  induction n with
  | zero => intro v1 s r h; rw [q193_16] at h; cases h
  | succ n ih =>
    intro v1 s r h
    rw [q193_16] at h
    refine Ev.iload_n H193 i193_16 rfl ?_
    refine Ev.sipush H193 i193_17 kS_1619 ?_
    refine Rd.ic_ge H193 i193_20 (t := 41) (by decide) h (fun hc h => ?_) (fun hc h => ?_)
    · exact Ev.sub (l := [(0, .ref 512)]) rfl rfl (mm_sub_c rfl mm_sub_n) (hk41 _ _ h)
    · refine Ev.aload_n H193 i193_23 rfl ?_
      refine Rd.getR H193 i193_24 ob11 rfl ?_
      refine Ev.iload_n H193 i193_27 rfl ?_
      refine Ev.aload_n H193 i193_28 rfl ?_
      refine Rd.getR H193 i193_29 ob11 rfl ?_
      refine Ev.iload_n H193 i193_32 rfl ?_
      refine Rd.iaload H193 i193_33 ar_514 h (fun h => ?_)
      refine Rd.iastore H193 i193_34 ar_513 h (fun s1 h => ?_)
      refine Rd.iinc H193 i193_35 (Nat.le_of_ble_eq_true rfl) rfl kI_1 (lv2 := fun x2 => [(1, .int x2), (0, .ref 512)]) (fun _ => rfl) h (fun x2 h => ?_)
      refine Ev.goto H193 i193_38 (t := 16) (by decide) ?_
      exact Ev.sub (l := [(0, .ref 512), (1, .int x2)]) rfl rfl (mm_sub_c rfl (mm_sub_c rfl mm_sub_n)) (ih _ _ _ h)
def q193_41 (s : mS) : Option mQ := sp (sI s 512 7 (0 : Int32)) fun s3 => rv (1 : Int32) s3
theorem t193_41 {L : Nat} {xs : Nat → Int32} {d : Nat} (hd : 0 ≤ d) {s : mS} {r : mQ} (h : q193_41 s = some r) : Ev L xs d 193 41 [(0, .ref 512)] [] (hp s) (hr r) := by
  unfold q193_41 at h
  refine Ev.aload_n H193 i193_41 rfl ?_
  refine Ev.iconst H193 i193_42 kI_0 ?_
  refine Rd.putI H193 i193_43 ob11 rfl ty11_7.1 ty11_7.2 h (fun s3 h => ?_)
  refine Ev.iconst H193 i193_46 kI_1 ?_
  exact Rd.ireturnK H193 i193_47 rfl (Or.inr rfl) h
/-- SerialGateModel.back()Z -/
def q193 (s : mS) : Option mQ := sp (sI s 512 0 (0 : Int32)) fun s4 => if ¬ (s4.1 512 6) = 0 then (q193_16 (q193_41) 10000 (0 : Int32) s4) else (rv (0 : Int32) s4)
theorem c193 {L : Nat} {xs : Nat → Int32} {s : mS} {r : mQ} (h : q193 s = some r) : ∀ d, 0 ≤ d → Cl L xs d 193 [.ref 512] (hp s) (hr r) := by
  intro d hd
  show Ev L xs d 193 0 [(0, .ref 512)] [] (hp s) (hr r)
  unfold q193 at h
  refine Ev.aload_n H193 i193_0 rfl ?_
  refine Ev.iconst H193 i193_1 kI_0 ?_
  refine Rd.putI H193 i193_2 ob11 rfl ty11_0.1 ty11_0.2 h (fun s4 h => ?_)
  refine Ev.aload_n H193 i193_5 rfl ?_
  refine Rd.getI H193 i193_6 ob11 rfl ?_
  refine Rd.if_ne H193 i193_9 (t := 14) (by decide) h (fun hc h => ?_) (fun hc h => ?_)
  · refine Ev.iconst H193 i193_14 kI_0 ?_
    refine Ev.istore_n H193 i193_15 (Nat.le_of_ble_eq_true rfl) (lv2 := [(1, .int (0 : Int32)), (0, .ref 512)]) rfl ?_
    exact Ev.sub (l := [(0, .ref 512), (1, .int (0 : Int32))]) rfl rfl (mm_sub_c rfl (mm_sub_c rfl mm_sub_n)) (t193_16 (k41 := (q193_41)) (fun _ _ h => t193_41 hd h) hd 10000 _ _ _ h)
  · refine Ev.iconst H193 i193_12 kI_0 ?_
    exact Rd.ireturnK H193 i193_13 rfl (Or.inl rfl) h
theorem i194_0 : mm_cd 194 0 = some (.aload_n 0, 1, 0, 0) := rfl
theorem i194_1 : mm_cd 194 1 = some (.getfield 56, 3, ((11 : Nat) : Int), 7) := rfl
theorem i194_4 : mm_cd 194 4 = some (.bipush 12, 2, 0, 0) := rfl
theorem i194_6 : mm_cd 194 6 = some (.if_icmp .ne 37, 3, 0, 0) := rfl
theorem i194_9 : mm_cd 194 9 = some (.iconst 0, 1, 0, 0) := rfl
theorem i194_10 : mm_cd 194 10 = some (.istore_n 1, 1, 0, 0) := rfl
theorem i194_11 : mm_cd 194 11 = some (.iload_n 1, 1, 0, 0) := rfl
theorem i194_12 : mm_cd 194 12 = some (.sipush 8470, 3, 0, 0) := rfl
theorem i194_15 : mm_cd 194 15 = some (.if_icmp .ge 25, 3, 0, 0) := rfl
theorem i194_18 : mm_cd 194 18 = some (.aload_n 0, 1, 0, 0) := rfl
theorem i194_19 : mm_cd 194 19 = some (.getfield 26, 3, ((11 : Nat) : Int), 5) := rfl
theorem i194_22 : mm_cd 194 22 = some (.iload_n 1, 1, 0, 0) := rfl
theorem i194_23 : mm_cd 194 23 = some (.aload_n 0, 1, 0, 0) := rfl
theorem i194_24 : mm_cd 194 24 = some (.getfield 26, 3, ((11 : Nat) : Int), 5) := rfl
theorem i194_27 : mm_cd 194 27 = some (.iload_n 1, 1, 0, 0) := rfl
theorem i194_28 : mm_cd 194 28 = some (.sipush 770, 3, 0, 0) := rfl
theorem i194_31 : mm_cd 194 31 = some (.iadd, 1, 0, 0) := rfl
theorem i194_32 : mm_cd 194 32 = some (.iaload, 1, 0, 0) := rfl
theorem i194_33 : mm_cd 194 33 = some (.iastore, 1, 0, 0) := rfl
theorem i194_34 : mm_cd 194 34 = some (.iinc 1 1, 3, 0, 0) := rfl
theorem i194_37 : mm_cd 194 37 = some (.goto (-26), 3, 0, 0) := rfl
theorem i194_40 : mm_cd 194 40 = some (.goto 13, 3, 0, 0) := rfl
theorem i194_43 : mm_cd 194 43 = some (.aload_n 0, 1, 0, 0) := rfl
theorem i194_44 : mm_cd 194 44 = some (.dup, 1, 0, 0) := rfl
theorem i194_45 : mm_cd 194 45 = some (.getfield 56, 3, ((11 : Nat) : Int), 7) := rfl
theorem i194_48 : mm_cd 194 48 = some (.iconst 1, 1, 0, 0) := rfl
theorem i194_49 : mm_cd 194 49 = some (.iadd, 1, 0, 0) := rfl
theorem i194_50 : mm_cd 194 50 = some (.putfield 56, 3, ((11 : Nat) : Int), 7) := rfl
theorem i194_53 : mm_cd 194 53 = some (.iconst 0, 1, 0, 0) := rfl
theorem i194_54 : mm_cd 194 54 = some (.istore_n 1, 1, 0, 0) := rfl
theorem i194_55 : mm_cd 194 55 = some (.iload_n 1, 1, 0, 0) := rfl
theorem i194_56 : mm_cd 194 56 = some (.sipush 770, 3, 0, 0) := rfl
theorem i194_59 : mm_cd 194 59 = some (.if_icmp .ge 32, 3, 0, 0) := rfl
theorem i194_62 : mm_cd 194 62 = some (.aload_n 0, 1, 0, 0) := rfl
theorem i194_63 : mm_cd 194 63 = some (.getfield 26, 3, ((11 : Nat) : Int), 5) := rfl
theorem i194_66 : mm_cd 194 66 = some (.sipush 770, 3, 0, 0) := rfl
theorem i194_69 : mm_cd 194 69 = some (.aload_n 0, 1, 0, 0) := rfl
theorem i194_70 : mm_cd 194 70 = some (.getfield 56, 3, ((11 : Nat) : Int), 7) := rfl
theorem i194_73 : mm_cd 194 73 = some (.iconst 1, 1, 0, 0) := rfl
theorem i194_74 : mm_cd 194 74 = some (.isub, 1, 0, 0) := rfl
theorem i194_75 : mm_cd 194 75 = some (.imul, 1, 0, 0) := rfl
theorem i194_76 : mm_cd 194 76 = some (.iload_n 1, 1, 0, 0) := rfl
theorem i194_77 : mm_cd 194 77 = some (.iadd, 1, 0, 0) := rfl
theorem i194_78 : mm_cd 194 78 = some (.aload_n 0, 1, 0, 0) := rfl
theorem i194_79 : mm_cd 194 79 = some (.getfield 13, 3, ((11 : Nat) : Int), 1) := rfl
theorem i194_82 : mm_cd 194 82 = some (.iload_n 1, 1, 0, 0) := rfl
theorem i194_83 : mm_cd 194 83 = some (.iaload, 1, 0, 0) := rfl
theorem i194_84 : mm_cd 194 84 = some (.iastore, 1, 0, 0) := rfl
theorem i194_85 : mm_cd 194 85 = some (.iinc 1 1, 3, 0, 0) := rfl
theorem i194_88 : mm_cd 194 88 = some (.goto (-33), 3, 0, 0) := rfl
theorem i194_91 : mm_cd 194 91 = some (.return_, 1, 0, 0) := rfl
def q194_55 : Nat → Int32 → mS → Option mQ
  | 0, _, _ => none
  | n + 1, v1, s => if (770 : Int32) ≤ v1 then (ru s) else (gA 2468 v1 <| gA 9240 (((770 : Int32) * ((s.1 512 7) - (1 : Int32))) + v1) <| sp (sI s 517 (((770 : Int32) * ((s.1 512 7) - (1 : Int32))) + v1).toNatClampNeg (s.1 513 v1.toNatClampNeg)) fun s1 => bx (v1 + (1 : Int32)) fun x2 => q194_55 n x2 s1)
theorem t194_55 {L : Nat} {xs : Nat → Int32} {d : Nat} (hd : 0 ≤ d) : ∀ (n : Nat) (v1 : Int32) (s : mS) (r : mQ), q194_55 n v1 s = some r → Ev L xs d 194 55 [(0, .ref 512), (1, .int v1)] [] (hp s) (hr r) := by
  intro n
  induction n with
  | zero => intro v1 s r h; rw [q194_55] at h; cases h
  | succ n ih =>
    intro v1 s r h
    rw [q194_55] at h
    refine Ev.iload_n H194 i194_55 rfl ?_
    refine Ev.sipush H194 i194_56 kS_770 ?_
    refine Rd.ic_ge H194 i194_59 (t := 91) (by decide) h (fun hc h => ?_) (fun hc h => ?_)
    · exact Rd.return_ H194 i194_91 rfl h
    · refine Ev.aload_n H194 i194_62 rfl ?_
      refine Rd.getR H194 i194_63 ob11 rfl ?_
      refine Ev.sipush H194 i194_66 kS_770 ?_
      refine Ev.aload_n H194 i194_69 rfl ?_
      refine Rd.getI H194 i194_70 ob11 rfl ?_
      refine Ev.iconst H194 i194_73 kI_1 ?_
      refine Ev.isub H194 i194_74 ?_
      refine Ev.imul H194 i194_75 ?_
      refine Ev.iload_n H194 i194_76 rfl ?_
      refine Ev.iadd H194 i194_77 ?_
      refine Ev.aload_n H194 i194_78 rfl ?_
      refine Rd.getR H194 i194_79 ob11 rfl ?_
      refine Ev.iload_n H194 i194_82 rfl ?_
      refine Rd.iaload H194 i194_83 ar_513 h (fun h => ?_)
      refine Rd.iastore H194 i194_84 ar_517 h (fun s1 h => ?_)
      refine Rd.iinc H194 i194_85 (Nat.le_of_ble_eq_true rfl) rfl kI_1 (lv2 := fun x2 => [(1, .int x2), (0, .ref 512)]) (fun _ => rfl) h (fun x2 h => ?_)
      refine Ev.goto H194 i194_88 (t := 55) (by decide) ?_
      exact Ev.sub (l := [(0, .ref 512), (1, .int x2)]) rfl rfl (mm_sub_c rfl (mm_sub_c rfl mm_sub_n)) (ih _ _ _ h)
def q194_53 (s : mS) : Option mQ := q194_55 10000 (0 : Int32) s
theorem t194_53 {L : Nat} {xs : Nat → Int32} {d : Nat} (hd : 0 ≤ d) {s : mS} {r : mQ} (h : q194_53 s = some r) : Ev L xs d 194 53 [(0, .ref 512)] [] (hp s) (hr r) := by
  unfold q194_53 at h
  refine Ev.iconst H194 i194_53 kI_0 ?_
  refine Ev.istore_n H194 i194_54 (Nat.le_of_ble_eq_true rfl) (lv2 := [(1, .int (0 : Int32)), (0, .ref 512)]) rfl ?_
  exact Ev.sub (l := [(0, .ref 512), (1, .int (0 : Int32))]) rfl rfl (mm_sub_c rfl (mm_sub_c rfl mm_sub_n)) (t194_55 hd 10000 _ _ _ h)
def q194_11 (k40 : mS → Option mQ) : Nat → Int32 → mS → Option mQ
  | 0, _, _ => none
  | n + 1, v1, s => if (8470 : Int32) ≤ v1 then (k40 s) else (gA 9240 (v1 + (770 : Int32)) <| gA 9240 v1 <| sp (sI s 517 v1.toNatClampNeg (s.1 517 (v1 + (770 : Int32)).toNatClampNeg)) fun s3 => bx (v1 + (1 : Int32)) fun x4 => q194_11 k40 n x4 s3)
theorem t194_11 {L : Nat} {xs : Nat → Int32} {d : Nat} {k40 : mS → Option mQ} (hk40 : ∀ (s : mS) (r : mQ), k40 s = some r → Ev L xs d 194 40 [(0, .ref 512)] [] (hp s) (hr r)) (hd : 0 ≤ d) : ∀ (n : Nat) (v1 : Int32) (s : mS) (r : mQ), q194_11 k40 n v1 s = some r → Ev L xs d 194 11 [(0, .ref 512), (1, .int v1)] [] (hp s) (hr r) := by
  intro n
  induction n with
  | zero => intro v1 s r h; rw [q194_11] at h; cases h
  | succ n ih =>
    intro v1 s r h
    rw [q194_11] at h
    refine Ev.iload_n H194 i194_11 rfl ?_
    refine Ev.sipush H194 i194_12 kS_8470 ?_
    refine Rd.ic_ge H194 i194_15 (t := 40) (by decide) h (fun hc h => ?_) (fun hc h => ?_)
    · exact Ev.sub (l := [(0, .ref 512)]) rfl rfl (mm_sub_c rfl mm_sub_n) (hk40 _ _ h)
    · refine Ev.aload_n H194 i194_18 rfl ?_
      refine Rd.getR H194 i194_19 ob11 rfl ?_
      refine Ev.iload_n H194 i194_22 rfl ?_
      refine Ev.aload_n H194 i194_23 rfl ?_
      refine Rd.getR H194 i194_24 ob11 rfl ?_
      refine Ev.iload_n H194 i194_27 rfl ?_
      refine Ev.sipush H194 i194_28 kS_770 ?_
      refine Ev.iadd H194 i194_31 ?_
      refine Rd.iaload H194 i194_32 ar_517 h (fun h => ?_)
      refine Rd.iastore H194 i194_33 ar_517 h (fun s3 h => ?_)
      refine Rd.iinc H194 i194_34 (Nat.le_of_ble_eq_true rfl) rfl kI_1 (lv2 := fun x4 => [(1, .int x4), (0, .ref 512)]) (fun _ => rfl) h (fun x4 h => ?_)
      refine Ev.goto H194 i194_37 (t := 11) (by decide) ?_
      exact Ev.sub (l := [(0, .ref 512), (1, .int x4)]) rfl rfl (mm_sub_c rfl (mm_sub_c rfl mm_sub_n)) (ih _ _ _ h)
def q194_40 (s : mS) : Option mQ := q194_53 s
theorem t194_40 {L : Nat} {xs : Nat → Int32} {d : Nat} (hd : 0 ≤ d) {s : mS} {r : mQ} (h : q194_40 s = some r) : Ev L xs d 194 40 [(0, .ref 512)] [] (hp s) (hr r) := by
  unfold q194_40 at h
  refine Ev.goto H194 i194_40 (t := 53) (by decide) ?_
  exact Ev.sub (l := [(0, .ref 512)]) rfl rfl (mm_sub_c rfl mm_sub_n) (t194_53 hd h)
/-- SerialGateModel.remembers()V -/
def q194 (s : mS) : Option mQ := if ¬ (s.1 512 7) = (12 : Int32) then (sp (sI s 512 7 ((s.1 512 7) + (1 : Int32))) fun s5 => q194_53 s5) else (q194_11 (q194_40) 10000 (0 : Int32) s)
theorem c194 {L : Nat} {xs : Nat → Int32} {s : mS} {r : mQ} (h : q194 s = some r) : ∀ d, 0 ≤ d → Cl L xs d 194 [.ref 512] (hp s) (hr r) := by
  intro d hd
  show Ev L xs d 194 0 [(0, .ref 512)] [] (hp s) (hr r)
  unfold q194 at h
  refine Ev.aload_n H194 i194_0 rfl ?_
  refine Rd.getI H194 i194_1 ob11 rfl ?_
  refine Ev.bipush H194 i194_4 kB_12 ?_
  refine Rd.ic_ne H194 i194_6 (t := 43) (by decide) h (fun hc h => ?_) (fun hc h => ?_)
  · refine Ev.aload_n H194 i194_43 rfl ?_
    refine Ev.dup H194 i194_44 rfl ?_
    refine Rd.getI H194 i194_45 ob11 rfl ?_
    refine Ev.iconst H194 i194_48 kI_1 ?_
    refine Ev.iadd H194 i194_49 ?_
    refine Rd.putI H194 i194_50 ob11 rfl ty11_7.1 ty11_7.2 h (fun s5 h => ?_)
    exact Ev.sub (l := [(0, .ref 512)]) rfl rfl (mm_sub_c rfl mm_sub_n) (t194_53 hd h)
  · refine Ev.iconst H194 i194_9 kI_0 ?_
    refine Ev.istore_n H194 i194_10 (Nat.le_of_ble_eq_true rfl) (lv2 := [(1, .int (0 : Int32)), (0, .ref 512)]) rfl ?_
    exact Ev.sub (l := [(0, .ref 512), (1, .int (0 : Int32))]) rfl rfl (mm_sub_c rfl (mm_sub_c rfl mm_sub_n)) (t194_11 (k40 := (q194_40)) (fun _ _ h => t194_40 hd h) hd 10000 _ _ _ h)
theorem i195_0 : mm_cd 195 0 = some (.aload_n 0, 1, 0, 0) := rfl
theorem i195_1 : mm_cd 195 1 = some (.iconst 0, 1, 0, 0) := rfl
theorem i195_2 : mm_cd 195 2 = some (.putfield 3, 3, ((11 : Nat) : Int), 0) := rfl
theorem i195_5 : mm_cd 195 5 = some (.aload_n 0, 1, 0, 0) := rfl
theorem i195_6 : mm_cd 195 6 = some (.getfield 56, 3, ((11 : Nat) : Int), 7) := rfl
theorem i195_9 : mm_cd 195 9 = some (.ifCond .ne 5, 3, 0, 0) := rfl
theorem i195_12 : mm_cd 195 12 = some (.iconst 0, 1, 0, 0) := rfl
theorem i195_13 : mm_cd 195 13 = some (.ireturn, 1, 0, 0) := rfl
theorem i195_14 : mm_cd 195 14 = some (.aload_n 0, 1, 0, 0) := rfl
theorem i195_15 : mm_cd 195 15 = some (.dup, 1, 0, 0) := rfl
theorem i195_16 : mm_cd 195 16 = some (.getfield 56, 3, ((11 : Nat) : Int), 7) := rfl
theorem i195_19 : mm_cd 195 19 = some (.iconst 1, 1, 0, 0) := rfl
theorem i195_20 : mm_cd 195 20 = some (.isub, 1, 0, 0) := rfl
theorem i195_21 : mm_cd 195 21 = some (.putfield 56, 3, ((11 : Nat) : Int), 7) := rfl
theorem i195_24 : mm_cd 195 24 = some (.iconst 0, 1, 0, 0) := rfl
theorem i195_25 : mm_cd 195 25 = some (.istore_n 1, 1, 0, 0) := rfl
theorem i195_26 : mm_cd 195 26 = some (.iload_n 1, 1, 0, 0) := rfl
theorem i195_27 : mm_cd 195 27 = some (.sipush 770, 3, 0, 0) := rfl
theorem i195_30 : mm_cd 195 30 = some (.if_icmp .ge 30, 3, 0, 0) := rfl
theorem i195_33 : mm_cd 195 33 = some (.aload_n 0, 1, 0, 0) := rfl
theorem i195_34 : mm_cd 195 34 = some (.getfield 13, 3, ((11 : Nat) : Int), 1) := rfl
theorem i195_37 : mm_cd 195 37 = some (.iload_n 1, 1, 0, 0) := rfl
theorem i195_38 : mm_cd 195 38 = some (.aload_n 0, 1, 0, 0) := rfl
theorem i195_39 : mm_cd 195 39 = some (.getfield 26, 3, ((11 : Nat) : Int), 5) := rfl
theorem i195_42 : mm_cd 195 42 = some (.sipush 770, 3, 0, 0) := rfl
theorem i195_45 : mm_cd 195 45 = some (.aload_n 0, 1, 0, 0) := rfl
theorem i195_46 : mm_cd 195 46 = some (.getfield 56, 3, ((11 : Nat) : Int), 7) := rfl
theorem i195_49 : mm_cd 195 49 = some (.imul, 1, 0, 0) := rfl
theorem i195_50 : mm_cd 195 50 = some (.iload_n 1, 1, 0, 0) := rfl
theorem i195_51 : mm_cd 195 51 = some (.iadd, 1, 0, 0) := rfl
theorem i195_52 : mm_cd 195 52 = some (.iaload, 1, 0, 0) := rfl
theorem i195_53 : mm_cd 195 53 = some (.iastore, 1, 0, 0) := rfl
theorem i195_54 : mm_cd 195 54 = some (.iinc 1 1, 3, 0, 0) := rfl
theorem i195_57 : mm_cd 195 57 = some (.goto (-31), 3, 0, 0) := rfl
theorem i195_60 : mm_cd 195 60 = some (.iconst 1, 1, 0, 0) := rfl
theorem i195_61 : mm_cd 195 61 = some (.ireturn, 1, 0, 0) := rfl
def q195_26 : Nat → Int32 → mS → Option mQ
  | 0, _, _ => none
  | n + 1, v1, s => if (770 : Int32) ≤ v1 then (rv (1 : Int32) s) else (gA 9240 (((770 : Int32) * (s.1 512 7)) + v1) <| gA 2468 v1 <| sp (sI s 513 v1.toNatClampNeg (s.1 517 (((770 : Int32) * (s.1 512 7)) + v1).toNatClampNeg)) fun s1 => bx (v1 + (1 : Int32)) fun x2 => q195_26 n x2 s1)
theorem t195_26 {L : Nat} {xs : Nat → Int32} {d : Nat} (hd : 0 ≤ d) : ∀ (n : Nat) (v1 : Int32) (s : mS) (r : mQ), q195_26 n v1 s = some r → Ev L xs d 195 26 [(0, .ref 512), (1, .int v1)] [] (hp s) (hr r) := by
  intro n
  induction n with
  | zero => intro v1 s r h; rw [q195_26] at h; cases h
  | succ n ih =>
    intro v1 s r h
    rw [q195_26] at h
    refine Ev.iload_n H195 i195_26 rfl ?_
    refine Ev.sipush H195 i195_27 kS_770 ?_
    refine Rd.ic_ge H195 i195_30 (t := 60) (by decide) h (fun hc h => ?_) (fun hc h => ?_)
    · refine Ev.iconst H195 i195_60 kI_1 ?_
      exact Rd.ireturnK H195 i195_61 rfl (Or.inr rfl) h
    · refine Ev.aload_n H195 i195_33 rfl ?_
      refine Rd.getR H195 i195_34 ob11 rfl ?_
      refine Ev.iload_n H195 i195_37 rfl ?_
      refine Ev.aload_n H195 i195_38 rfl ?_
      refine Rd.getR H195 i195_39 ob11 rfl ?_
      refine Ev.sipush H195 i195_42 kS_770 ?_
      refine Ev.aload_n H195 i195_45 rfl ?_
      refine Rd.getI H195 i195_46 ob11 rfl ?_
      refine Ev.imul H195 i195_49 ?_
      refine Ev.iload_n H195 i195_50 rfl ?_
      refine Ev.iadd H195 i195_51 ?_
      refine Rd.iaload H195 i195_52 ar_517 h (fun h => ?_)
      refine Rd.iastore H195 i195_53 ar_513 h (fun s1 h => ?_)
      refine Rd.iinc H195 i195_54 (Nat.le_of_ble_eq_true rfl) rfl kI_1 (lv2 := fun x2 => [(1, .int x2), (0, .ref 512)]) (fun _ => rfl) h (fun x2 h => ?_)
      refine Ev.goto H195 i195_57 (t := 26) (by decide) ?_
      exact Ev.sub (l := [(0, .ref 512), (1, .int x2)]) rfl rfl (mm_sub_c rfl (mm_sub_c rfl mm_sub_n)) (ih _ _ _ h)
/-- SerialGateModel.undo()Z -/
def q195 (s : mS) : Option mQ := sp (sI s 512 0 (0 : Int32)) fun s3 => if ¬ (s3.1 512 7) = 0 then (sp (sI s3 512 7 ((s3.1 512 7) - (1 : Int32))) fun s4 => q195_26 10000 (0 : Int32) s4) else (rv (0 : Int32) s3)
theorem c195 {L : Nat} {xs : Nat → Int32} {s : mS} {r : mQ} (h : q195 s = some r) : ∀ d, 0 ≤ d → Cl L xs d 195 [.ref 512] (hp s) (hr r) := by
  intro d hd
  show Ev L xs d 195 0 [(0, .ref 512)] [] (hp s) (hr r)
  unfold q195 at h
  refine Ev.aload_n H195 i195_0 rfl ?_
  refine Ev.iconst H195 i195_1 kI_0 ?_
  refine Rd.putI H195 i195_2 ob11 rfl ty11_0.1 ty11_0.2 h (fun s3 h => ?_)
  refine Ev.aload_n H195 i195_5 rfl ?_
  refine Rd.getI H195 i195_6 ob11 rfl ?_
  refine Rd.if_ne H195 i195_9 (t := 14) (by decide) h (fun hc h => ?_) (fun hc h => ?_)
  · refine Ev.aload_n H195 i195_14 rfl ?_
    refine Ev.dup H195 i195_15 rfl ?_
    refine Rd.getI H195 i195_16 ob11 rfl ?_
    refine Ev.iconst H195 i195_19 kI_1 ?_
    refine Ev.isub H195 i195_20 ?_
    refine Rd.putI H195 i195_21 ob11 rfl ty11_7.1 ty11_7.2 h (fun s4 h => ?_)
    refine Ev.iconst H195 i195_24 kI_0 ?_
    refine Ev.istore_n H195 i195_25 (Nat.le_of_ble_eq_true rfl) (lv2 := [(1, .int (0 : Int32)), (0, .ref 512)]) rfl ?_
    exact Ev.sub (l := [(0, .ref 512), (1, .int (0 : Int32))]) rfl rfl (mm_sub_c rfl (mm_sub_c rfl mm_sub_n)) (t195_26 hd 10000 _ _ _ h)
  · refine Ev.iconst H195 i195_12 kI_0 ?_
    exact Rd.ireturnK H195 i195_13 rfl (Or.inl rfl) h
theorem i196_0 : mm_cd 196 0 = some (.iconst 0, 1, 0, 0) := rfl
theorem i196_1 : mm_cd 196 1 = some (.istore_n 1, 1, 0, 0) := rfl
theorem i196_2 : mm_cd 196 2 = some (.iload_n 1, 1, 0, 0) := rfl
theorem i196_3 : mm_cd 196 3 = some (.sipush 770, 3, 0, 0) := rfl
theorem i196_6 : mm_cd 196 6 = some (.if_icmp .ge 21, 3, 0, 0) := rfl
theorem i196_9 : mm_cd 196 9 = some (.aload_n 0, 1, 0, 0) := rfl
theorem i196_10 : mm_cd 196 10 = some (.getfield 23, 3, ((11 : Nat) : Int), 4) := rfl
theorem i196_13 : mm_cd 196 13 = some (.iload_n 1, 1, 0, 0) := rfl
theorem i196_14 : mm_cd 196 14 = some (.aload_n 0, 1, 0, 0) := rfl
theorem i196_15 : mm_cd 196 15 = some (.getfield 13, 3, ((11 : Nat) : Int), 1) := rfl
theorem i196_18 : mm_cd 196 18 = some (.iload_n 1, 1, 0, 0) := rfl
theorem i196_19 : mm_cd 196 19 = some (.iaload, 1, 0, 0) := rfl
theorem i196_20 : mm_cd 196 20 = some (.iastore, 1, 0, 0) := rfl
theorem i196_21 : mm_cd 196 21 = some (.iinc 1 1, 3, 0, 0) := rfl
theorem i196_24 : mm_cd 196 24 = some (.goto (-22), 3, 0, 0) := rfl
theorem i196_27 : mm_cd 196 27 = some (.return_, 1, 0, 0) := rfl
def q196_2 : Nat → Int32 → mS → Option mQ
  | 0, _, _ => none
  | n + 1, v1, s => if (770 : Int32) ≤ v1 then (ru s) else (gA 2468 v1 <| gA 770 v1 <| sp (sI s 516 v1.toNatClampNeg (s.1 513 v1.toNatClampNeg)) fun s1 => bx (v1 + (1 : Int32)) fun x2 => q196_2 n x2 s1)
theorem t196_2 {L : Nat} {xs : Nat → Int32} {d : Nat} (hd : 0 ≤ d) : ∀ (n : Nat) (v1 : Int32) (s : mS) (r : mQ), q196_2 n v1 s = some r → Ev L xs d 196 2 [(0, .ref 512), (1, .int v1)] [] (hp s) (hr r) := by
  intro n
  induction n with
  | zero => intro v1 s r h; rw [q196_2] at h; cases h
  | succ n ih =>
    intro v1 s r h
    rw [q196_2] at h
    refine Ev.iload_n H196 i196_2 rfl ?_
    refine Ev.sipush H196 i196_3 kS_770 ?_
    refine Rd.ic_ge H196 i196_6 (t := 27) (by decide) h (fun hc h => ?_) (fun hc h => ?_)
    · exact Rd.return_ H196 i196_27 rfl h
    · refine Ev.aload_n H196 i196_9 rfl ?_
      refine Rd.getR H196 i196_10 ob11 rfl ?_
      refine Ev.iload_n H196 i196_13 rfl ?_
      refine Ev.aload_n H196 i196_14 rfl ?_
      refine Rd.getR H196 i196_15 ob11 rfl ?_
      refine Ev.iload_n H196 i196_18 rfl ?_
      refine Rd.iaload H196 i196_19 ar_513 h (fun h => ?_)
      refine Rd.iastore H196 i196_20 ar_516 h (fun s1 h => ?_)
      refine Rd.iinc H196 i196_21 (Nat.le_of_ble_eq_true rfl) rfl kI_1 (lv2 := fun x2 => [(1, .int x2), (0, .ref 512)]) (fun _ => rfl) h (fun x2 h => ?_)
      refine Ev.goto H196 i196_24 (t := 2) (by decide) ?_
      exact Ev.sub (l := [(0, .ref 512), (1, .int x2)]) rfl rfl (mm_sub_c rfl (mm_sub_c rfl mm_sub_n)) (ih _ _ _ h)
/-- SerialGateModel.keepsAll()V -/
def q196 (s : mS) : Option mQ := q196_2 10000 (0 : Int32) s
theorem c196 {L : Nat} {xs : Nat → Int32} {s : mS} {r : mQ} (h : q196 s = some r) : ∀ d, 0 ≤ d → Cl L xs d 196 [.ref 512] (hp s) (hr r) := by
  intro d hd
  show Ev L xs d 196 0 [(0, .ref 512)] [] (hp s) (hr r)
  unfold q196 at h
  refine Ev.iconst H196 i196_0 kI_0 ?_
  refine Ev.istore_n H196 i196_1 (Nat.le_of_ble_eq_true rfl) (lv2 := [(1, .int (0 : Int32)), (0, .ref 512)]) rfl ?_
  exact Ev.sub (l := [(0, .ref 512), (1, .int (0 : Int32))]) rfl rfl (mm_sub_c rfl (mm_sub_c rfl mm_sub_n)) (t196_2 hd 10000 _ _ _ h)
theorem i197_0 : mm_cd 197 0 = some (.iconst 0, 1, 0, 0) := rfl
theorem i197_1 : mm_cd 197 1 = some (.istore_n 1, 1, 0, 0) := rfl
theorem i197_2 : mm_cd 197 2 = some (.iload_n 1, 1, 0, 0) := rfl
theorem i197_3 : mm_cd 197 3 = some (.sipush 770, 3, 0, 0) := rfl
theorem i197_6 : mm_cd 197 6 = some (.if_icmp .ge 21, 3, 0, 0) := rfl
theorem i197_9 : mm_cd 197 9 = some (.aload_n 0, 1, 0, 0) := rfl
theorem i197_10 : mm_cd 197 10 = some (.getfield 13, 3, ((11 : Nat) : Int), 1) := rfl
theorem i197_13 : mm_cd 197 13 = some (.iload_n 1, 1, 0, 0) := rfl
theorem i197_14 : mm_cd 197 14 = some (.aload_n 0, 1, 0, 0) := rfl
theorem i197_15 : mm_cd 197 15 = some (.getfield 23, 3, ((11 : Nat) : Int), 4) := rfl
theorem i197_18 : mm_cd 197 18 = some (.iload_n 1, 1, 0, 0) := rfl
theorem i197_19 : mm_cd 197 19 = some (.iaload, 1, 0, 0) := rfl
theorem i197_20 : mm_cd 197 20 = some (.iastore, 1, 0, 0) := rfl
theorem i197_21 : mm_cd 197 21 = some (.iinc 1 1, 3, 0, 0) := rfl
theorem i197_24 : mm_cd 197 24 = some (.goto (-22), 3, 0, 0) := rfl
theorem i197_27 : mm_cd 197 27 = some (.return_, 1, 0, 0) := rfl
def q197_2 : Nat → Int32 → mS → Option mQ
  | 0, _, _ => none
  | n + 1, v1, s => if (770 : Int32) ≤ v1 then (ru s) else (gA 770 v1 <| gA 2468 v1 <| sp (sI s 513 v1.toNatClampNeg (s.1 516 v1.toNatClampNeg)) fun s1 => bx (v1 + (1 : Int32)) fun x2 => q197_2 n x2 s1)
theorem t197_2 {L : Nat} {xs : Nat → Int32} {d : Nat} (hd : 0 ≤ d) : ∀ (n : Nat) (v1 : Int32) (s : mS) (r : mQ), q197_2 n v1 s = some r → Ev L xs d 197 2 [(0, .ref 512), (1, .int v1)] [] (hp s) (hr r) := by
  intro n
  induction n with
  | zero => intro v1 s r h; rw [q197_2] at h; cases h
  | succ n ih =>
    intro v1 s r h
    rw [q197_2] at h
    refine Ev.iload_n H197 i197_2 rfl ?_
    refine Ev.sipush H197 i197_3 kS_770 ?_
    refine Rd.ic_ge H197 i197_6 (t := 27) (by decide) h (fun hc h => ?_) (fun hc h => ?_)
    · exact Rd.return_ H197 i197_27 rfl h
    · refine Ev.aload_n H197 i197_9 rfl ?_
      refine Rd.getR H197 i197_10 ob11 rfl ?_
      refine Ev.iload_n H197 i197_13 rfl ?_
      refine Ev.aload_n H197 i197_14 rfl ?_
      refine Rd.getR H197 i197_15 ob11 rfl ?_
      refine Ev.iload_n H197 i197_18 rfl ?_
      refine Rd.iaload H197 i197_19 ar_516 h (fun h => ?_)
      refine Rd.iastore H197 i197_20 ar_513 h (fun s1 h => ?_)
      refine Rd.iinc H197 i197_21 (Nat.le_of_ble_eq_true rfl) rfl kI_1 (lv2 := fun x2 => [(1, .int x2), (0, .ref 512)]) (fun _ => rfl) h (fun x2 h => ?_)
      refine Ev.goto H197 i197_24 (t := 2) (by decide) ?_
      exact Ev.sub (l := [(0, .ref 512), (1, .int x2)]) rfl rfl (mm_sub_c rfl (mm_sub_c rfl mm_sub_n)) (ih _ _ _ h)
/-- SerialGateModel.bringsBack()V -/
def q197 (s : mS) : Option mQ := q197_2 10000 (0 : Int32) s
theorem c197 {L : Nat} {xs : Nat → Int32} {s : mS} {r : mQ} (h : q197 s = some r) : ∀ d, 0 ≤ d → Cl L xs d 197 [.ref 512] (hp s) (hr r) := by
  intro d hd
  show Ev L xs d 197 0 [(0, .ref 512)] [] (hp s) (hr r)
  unfold q197 at h
  refine Ev.iconst H197 i197_0 kI_0 ?_
  refine Ev.istore_n H197 i197_1 (Nat.le_of_ble_eq_true rfl) (lv2 := [(1, .int (0 : Int32)), (0, .ref 512)]) rfl ?_
  exact Ev.sub (l := [(0, .ref 512), (1, .int (0 : Int32))]) rfl rfl (mm_sub_c rfl (mm_sub_c rfl mm_sub_n)) (t197_2 hd 10000 _ _ _ h)
theorem i198_0 : mm_cd 198 0 = some (.aload_n 0, 1, 0, 0) := rfl
theorem i198_1 : mm_cd 198 1 = some (.getfield 13, 3, ((11 : Nat) : Int), 1) := rfl
theorem i198_4 : mm_cd 198 4 = some (.iconst 0, 1, 0, 0) := rfl
theorem i198_5 : mm_cd 198 5 = some (.iaload, 1, 0, 0) := rfl
theorem i198_6 : mm_cd 198 6 = some (.ireturn, 1, 0, 0) := rfl
/-- SerialGateModel.clients()I -/
def q198 (s : mS) : Option mQ := gA 2468 (0 : Int32) <| rv (s.1 513 (0 : Int32).toNatClampNeg) s
theorem c198 {L : Nat} {xs : Nat → Int32} {s : mS} {r : mQ} (h : q198 s = some r) : ∀ d, 0 ≤ d → Cl L xs d 198 [.ref 512] (hp s) (hr r) := by
  intro d hd
  show Ev L xs d 198 0 [(0, .ref 512)] [] (hp s) (hr r)
  unfold q198 at h
  refine Ev.aload_n H198 i198_0 rfl ?_
  refine Rd.getR H198 i198_1 ob11 rfl ?_
  refine Ev.iconst H198 i198_4 kI_0 ?_
  refine Rd.iaload H198 i198_5 ar_513 h (fun h => ?_)
  exact Rd.ireturn H198 i198_6 rfl h
theorem i199_0 : mm_cd 199 0 = some (.bipush 9, 2, 0, 0) := rfl
theorem i199_2 : mm_cd 199 2 = some (.iconst 4, 1, 0, 0) := rfl
theorem i199_3 : mm_cd 199 3 = some (.iload_n 0, 1, 0, 0) := rfl
theorem i199_4 : mm_cd 199 4 = some (.imul, 1, 0, 0) := rfl
theorem i199_5 : mm_cd 199 5 = some (.iadd, 1, 0, 0) := rfl
theorem i199_6 : mm_cd 199 6 = some (.iload_n 1, 1, 0, 0) := rfl
theorem i199_7 : mm_cd 199 7 = some (.iadd, 1, 0, 0) := rfl
theorem i199_8 : mm_cd 199 8 = some (.ireturn, 1, 0, 0) := rfl
/-- SerialGateModel.keyAt(II)I -/
def q199 (v0 : Int32) (v1 : Int32) (s : mS) : Option mQ := rv (((9 : Int32) + ((4 : Int32) * v0)) + v1) s
theorem c199 {L : Nat} {xs : Nat → Int32} {v0 : Int32} {v1 : Int32} {s : mS} {r : mQ} (h : q199 v0 v1 s = some r) : ∀ d, 0 ≤ d → Cl L xs d 199 [.int v0, .int v1] (hp s) (hr r) := by
  intro d hd
  show Ev L xs d 199 0 [(0, .int v0), (1, .int v1)] [] (hp s) (hr r)
  unfold q199 at h
  refine Ev.bipush H199 i199_0 kB_9 ?_
  refine Ev.iconst H199 i199_2 kI_4 ?_
  refine Ev.iload_n H199 i199_3 rfl ?_
  refine Ev.imul H199 i199_4 ?_
  refine Ev.iadd H199 i199_5 ?_
  refine Ev.iload_n H199 i199_6 rfl ?_
  refine Ev.iadd H199 i199_7 ?_
  exact Rd.ireturn H199 i199_8 rfl h
theorem i200_0 : mm_cd 200 0 = some (.aload_n 0, 1, 0, 0) := rfl
theorem i200_1 : mm_cd 200 1 = some (.getfield 13, 3, ((11 : Nat) : Int), 1) := rfl
theorem i200_4 : mm_cd 200 4 = some (.iload_n 1, 1, 0, 0) := rfl
theorem i200_5 : mm_cd 200 5 = some (.iload_n 2, 1, 0, 0) := rfl
theorem i200_6 : mm_cd 200 6 = some (.invokestatic 59, 3, 0, 199) := rfl
theorem i200_9 : mm_cd 200 9 = some (.iaload, 1, 0, 0) := rfl
theorem i200_10 : mm_cd 200 10 = some (.ireturn, 1, 0, 0) := rfl
/-- SerialGateModel.ofKey(II)I -/
def q200 (v1 : Int32) (v2 : Int32) (s : mS) : Option mQ := bN (q199 v1 v2 s) fun x2 s1 => gA 2468 x2 <| rv (s1.1 513 x2.toNatClampNeg) s1
theorem c200 {L : Nat} {xs : Nat → Int32} {v1 : Int32} {v2 : Int32} {s : mS} {r : mQ} (h : q200 v1 v2 s = some r) : ∀ d, 1 ≤ d → Cl L xs d 200 [.ref 512, .int v1, .int v2] (hp s) (hr r) := by
  intro d hd
  show Ev L xs d 200 0 [(0, .ref 512), (1, .int v1), (2, .int v2)] [] (hp s) (hr r)
  unfold q200 at h
  refine Ev.aload_n H200 i200_0 rfl ?_
  refine Rd.getR H200 i200_1 ob11 rfl ?_
  refine Ev.iload_n H200 i200_4 rfl ?_
  refine Ev.iload_n H200 i200_5 rfl ?_
  refine Rd.cS2vN H200 i200_6 cal199 (Nat.le_of_ble_eq_true rfl) (Nat.le_of_ble_eq_true rfl) (Nat.lt_of_lt_of_le (by decide) hd) (fun q hq => c199 hq) h (fun x2 s1 h => ?_)
  refine Rd.iaload H200 i200_9 ar_513 h (fun h => ?_)
  exact Rd.ireturn H200 i200_10 rfl h
theorem i201_0 : mm_cd 201 0 = some (.bipush 49, 2, 0, 0) := rfl
theorem i201_2 : mm_cd 201 2 = some (.iconst 5, 1, 0, 0) := rfl
theorem i201_3 : mm_cd 201 3 = some (.iload_n 0, 1, 0, 0) := rfl
theorem i201_4 : mm_cd 201 4 = some (.imul, 1, 0, 0) := rfl
theorem i201_5 : mm_cd 201 5 = some (.iadd, 1, 0, 0) := rfl
theorem i201_6 : mm_cd 201 6 = some (.iload_n 1, 1, 0, 0) := rfl
theorem i201_7 : mm_cd 201 7 = some (.iadd, 1, 0, 0) := rfl
theorem i201_8 : mm_cd 201 8 = some (.ireturn, 1, 0, 0) := rfl
/-- SerialGateModel.clientAt(II)I -/
def q201 (v0 : Int32) (v1 : Int32) (s : mS) : Option mQ := rv (((49 : Int32) + ((5 : Int32) * v0)) + v1) s
theorem c201 {L : Nat} {xs : Nat → Int32} {v0 : Int32} {v1 : Int32} {s : mS} {r : mQ} (h : q201 v0 v1 s = some r) : ∀ d, 0 ≤ d → Cl L xs d 201 [.int v0, .int v1] (hp s) (hr r) := by
  intro d hd
  show Ev L xs d 201 0 [(0, .int v0), (1, .int v1)] [] (hp s) (hr r)
  unfold q201 at h
  refine Ev.bipush H201 i201_0 kB_49 ?_
  refine Ev.iconst H201 i201_2 kI_5 ?_
  refine Ev.iload_n H201 i201_3 rfl ?_
  refine Ev.imul H201 i201_4 ?_
  refine Ev.iadd H201 i201_5 ?_
  refine Ev.iload_n H201 i201_6 rfl ?_
  refine Ev.iadd H201 i201_7 ?_
  exact Rd.ireturn H201 i201_8 rfl h
theorem i202_0 : mm_cd 202 0 = some (.aload_n 0, 1, 0, 0) := rfl
theorem i202_1 : mm_cd 202 1 = some (.getfield 13, 3, ((11 : Nat) : Int), 1) := rfl
theorem i202_4 : mm_cd 202 4 = some (.iload_n 1, 1, 0, 0) := rfl
theorem i202_5 : mm_cd 202 5 = some (.iload_n 2, 1, 0, 0) := rfl
theorem i202_6 : mm_cd 202 6 = some (.invokestatic 63, 3, 0, 201) := rfl
theorem i202_9 : mm_cd 202 9 = some (.iaload, 1, 0, 0) := rfl
theorem i202_10 : mm_cd 202 10 = some (.ireturn, 1, 0, 0) := rfl
/-- SerialGateModel.ofClient(II)I -/
def q202 (v1 : Int32) (v2 : Int32) (s : mS) : Option mQ := bN (q201 v1 v2 s) fun x2 s1 => gA 2468 x2 <| rv (s1.1 513 x2.toNatClampNeg) s1
theorem c202 {L : Nat} {xs : Nat → Int32} {v1 : Int32} {v2 : Int32} {s : mS} {r : mQ} (h : q202 v1 v2 s = some r) : ∀ d, 1 ≤ d → Cl L xs d 202 [.ref 512, .int v1, .int v2] (hp s) (hr r) := by
  intro d hd
  show Ev L xs d 202 0 [(0, .ref 512), (1, .int v1), (2, .int v2)] [] (hp s) (hr r)
  unfold q202 at h
  refine Ev.aload_n H202 i202_0 rfl ?_
  refine Rd.getR H202 i202_1 ob11 rfl ?_
  refine Ev.iload_n H202 i202_4 rfl ?_
  refine Ev.iload_n H202 i202_5 rfl ?_
  refine Rd.cS2vN H202 i202_6 cal201 (Nat.le_of_ble_eq_true rfl) (Nat.le_of_ble_eq_true rfl) (Nat.lt_of_lt_of_le (by decide) hd) (fun q hq => c201 hq) h (fun x2 s1 h => ?_)
  refine Rd.iaload H202 i202_9 ar_513 h (fun h => ?_)
  exact Rd.ireturn H202 i202_10 rfl h
theorem i203_0 : mm_cd 203 0 = some (.bipush 74, 2, 0, 0) := rfl
theorem i203_2 : mm_cd 203 2 = some (.bipush 21, 2, 0, 0) := rfl
theorem i203_4 : mm_cd 203 4 = some (.iload_n 0, 1, 0, 0) := rfl
theorem i203_5 : mm_cd 203 5 = some (.imul, 1, 0, 0) := rfl
theorem i203_6 : mm_cd 203 6 = some (.iadd, 1, 0, 0) := rfl
theorem i203_7 : mm_cd 203 7 = some (.iload_n 1, 1, 0, 0) := rfl
theorem i203_8 : mm_cd 203 8 = some (.iadd, 1, 0, 0) := rfl
theorem i203_9 : mm_cd 203 9 = some (.ireturn, 1, 0, 0) := rfl
/-- SerialGateModel.slotAt(II)I -/
def q203 (v0 : Int32) (v1 : Int32) (s : mS) : Option mQ := rv (((74 : Int32) + ((21 : Int32) * v0)) + v1) s
theorem c203 {L : Nat} {xs : Nat → Int32} {v0 : Int32} {v1 : Int32} {s : mS} {r : mQ} (h : q203 v0 v1 s = some r) : ∀ d, 0 ≤ d → Cl L xs d 203 [.int v0, .int v1] (hp s) (hr r) := by
  intro d hd
  show Ev L xs d 203 0 [(0, .int v0), (1, .int v1)] [] (hp s) (hr r)
  unfold q203 at h
  refine Ev.bipush H203 i203_0 kB_74 ?_
  refine Ev.bipush H203 i203_2 kB_21 ?_
  refine Ev.iload_n H203 i203_4 rfl ?_
  refine Ev.imul H203 i203_5 ?_
  refine Ev.iadd H203 i203_6 ?_
  refine Ev.iload_n H203 i203_7 rfl ?_
  refine Ev.iadd H203 i203_8 ?_
  exact Rd.ireturn H203 i203_9 rfl h
theorem i204_0 : mm_cd 204 0 = some (.aload_n 0, 1, 0, 0) := rfl
theorem i204_1 : mm_cd 204 1 = some (.getfield 13, 3, ((11 : Nat) : Int), 1) := rfl
theorem i204_4 : mm_cd 204 4 = some (.iload_n 1, 1, 0, 0) := rfl
theorem i204_5 : mm_cd 204 5 = some (.iload_n 2, 1, 0, 0) := rfl
theorem i204_6 : mm_cd 204 6 = some (.invokestatic 66, 3, 0, 203) := rfl
theorem i204_9 : mm_cd 204 9 = some (.iaload, 1, 0, 0) := rfl
theorem i204_10 : mm_cd 204 10 = some (.ireturn, 1, 0, 0) := rfl
/-- SerialGateModel.of(II)I -/
def q204 (v1 : Int32) (v2 : Int32) (s : mS) : Option mQ := bN (q203 v1 v2 s) fun x2 s1 => gA 2468 x2 <| rv (s1.1 513 x2.toNatClampNeg) s1
theorem c204 {L : Nat} {xs : Nat → Int32} {v1 : Int32} {v2 : Int32} {s : mS} {r : mQ} (h : q204 v1 v2 s = some r) : ∀ d, 1 ≤ d → Cl L xs d 204 [.ref 512, .int v1, .int v2] (hp s) (hr r) := by
  intro d hd
  show Ev L xs d 204 0 [(0, .ref 512), (1, .int v1), (2, .int v2)] [] (hp s) (hr r)
  unfold q204 at h
  refine Ev.aload_n H204 i204_0 rfl ?_
  refine Rd.getR H204 i204_1 ob11 rfl ?_
  refine Ev.iload_n H204 i204_4 rfl ?_
  refine Ev.iload_n H204 i204_5 rfl ?_
  refine Rd.cS2vN H204 i204_6 cal203 (Nat.le_of_ble_eq_true rfl) (Nat.le_of_ble_eq_true rfl) (Nat.lt_of_lt_of_le (by decide) hd) (fun q hq => c203 hq) h (fun x2 s1 h => ?_)
  refine Rd.iaload H204 i204_9 ar_513 h (fun h => ?_)
  exact Rd.ireturn H204 i204_10 rfl h
theorem i205_0 : mm_cd 205 0 = some (.aload_n 0, 1, 0, 0) := rfl
theorem i205_1 : mm_cd 205 1 = some (.iload_n 1, 1, 0, 0) := rfl
theorem i205_2 : mm_cd 205 2 = some (.iconst 0, 1, 0, 0) := rfl
theorem i205_3 : mm_cd 205 3 = some (.invokevirtual 69, 3, 0, 204) := rfl
theorem i205_6 : mm_cd 205 6 = some (.iconst 1, 1, 0, 0) := rfl
theorem i205_7 : mm_cd 205 7 = some (.if_icmp .ne 7, 3, 0, 0) := rfl
theorem i205_10 : mm_cd 205 10 = some (.iconst 1, 1, 0, 0) := rfl
theorem i205_11 : mm_cd 205 11 = some (.goto 4, 3, 0, 0) := rfl
theorem i205_14 : mm_cd 205 14 = some (.iconst 0, 1, 0, 0) := rfl
theorem i205_15 : mm_cd 205 15 = some (.ireturn, 1, 0, 0) := rfl
/-- SerialGateModel.runs(I)Z -/
def q205 (v1 : Int32) (s : mS) : Option mQ := bN (q204 v1 (0 : Int32) s) fun x2 s1 => if ¬ x2 = (1 : Int32) then (rv (0 : Int32) s1) else (rv (1 : Int32) s1)
theorem c205 {L : Nat} {xs : Nat → Int32} {v1 : Int32} {s : mS} {r : mQ} (h : q205 v1 s = some r) : ∀ d, 2 ≤ d → Cl L xs d 205 [.ref 512, .int v1] (hp s) (hr r) := by
  intro d hd
  show Ev L xs d 205 0 [(0, .ref 512), (1, .int v1)] [] (hp s) (hr r)
  unfold q205 at h
  refine Ev.aload_n H205 i205_0 rfl ?_
  refine Ev.iload_n H205 i205_1 rfl ?_
  refine Ev.iconst H205 i205_2 kI_0 ?_
  refine Rd.cV2vN H205 i205_3 cal204 ob11 (Nat.le_of_ble_eq_true rfl) (Nat.le_of_ble_eq_true rfl) (Nat.lt_of_lt_of_le (by decide) hd) (fun q hq => c204 hq) h (fun x2 s1 h => ?_)
  refine Ev.iconst H205 i205_6 kI_1 ?_
  refine Rd.ic_ne H205 i205_7 (t := 14) (by decide) h (fun hc h => ?_) (fun hc h => ?_)
  · refine Ev.iconst H205 i205_14 kI_0 ?_
    exact Rd.ireturnK H205 i205_15 rfl (Or.inl rfl) h
  · refine Ev.iconst H205 i205_10 kI_1 ?_
    refine Ev.goto H205 i205_11 (t := 15) (by decide) ?_
    exact Rd.ireturnK H205 i205_15 rfl (Or.inr rfl) h
theorem i206_0 : mm_cd 206 0 = some (.aload_n 0, 1, 0, 0) := rfl
theorem i206_1 : mm_cd 206 1 = some (.iload_n 1, 1, 0, 0) := rfl
theorem i206_2 : mm_cd 206 2 = some (.iconst 0, 1, 0, 0) := rfl
theorem i206_3 : mm_cd 206 3 = some (.invokevirtual 69, 3, 0, 204) := rfl
theorem i206_6 : mm_cd 206 6 = some (.iconst 2, 1, 0, 0) := rfl
theorem i206_7 : mm_cd 206 7 = some (.if_icmp .ne 7, 3, 0, 0) := rfl
theorem i206_10 : mm_cd 206 10 = some (.iconst 1, 1, 0, 0) := rfl
theorem i206_11 : mm_cd 206 11 = some (.goto 4, 3, 0, 0) := rfl
theorem i206_14 : mm_cd 206 14 = some (.iconst 0, 1, 0, 0) := rfl
theorem i206_15 : mm_cd 206 15 = some (.ireturn, 1, 0, 0) := rfl
/-- SerialGateModel.isDone(I)Z -/
def q206 (v1 : Int32) (s : mS) : Option mQ := bN (q204 v1 (0 : Int32) s) fun x2 s1 => if ¬ x2 = (2 : Int32) then (rv (0 : Int32) s1) else (rv (1 : Int32) s1)
theorem c206 {L : Nat} {xs : Nat → Int32} {v1 : Int32} {s : mS} {r : mQ} (h : q206 v1 s = some r) : ∀ d, 2 ≤ d → Cl L xs d 206 [.ref 512, .int v1] (hp s) (hr r) := by
  intro d hd
  show Ev L xs d 206 0 [(0, .ref 512), (1, .int v1)] [] (hp s) (hr r)
  unfold q206 at h
  refine Ev.aload_n H206 i206_0 rfl ?_
  refine Ev.iload_n H206 i206_1 rfl ?_
  refine Ev.iconst H206 i206_2 kI_0 ?_
  refine Rd.cV2vN H206 i206_3 cal204 ob11 (Nat.le_of_ble_eq_true rfl) (Nat.le_of_ble_eq_true rfl) (Nat.lt_of_lt_of_le (by decide) hd) (fun q hq => c204 hq) h (fun x2 s1 h => ?_)
  refine Ev.iconst H206 i206_6 kI_2 ?_
  refine Rd.ic_ne H206 i206_7 (t := 14) (by decide) h (fun hc h => ?_) (fun hc h => ?_)
  · refine Ev.iconst H206 i206_14 kI_0 ?_
    exact Rd.ireturnK H206 i206_15 rfl (Or.inl rfl) h
  · refine Ev.iconst H206 i206_10 kI_1 ?_
    refine Ev.goto H206 i206_11 (t := 15) (by decide) ?_
    exact Rd.ireturnK H206 i206_15 rfl (Or.inr rfl) h
theorem i207_0 : mm_cd 207 0 = some (.aload_n 0, 1, 0, 0) := rfl
theorem i207_1 : mm_cd 207 1 = some (.aload_n 0, 1, 0, 0) := rfl
theorem i207_2 : mm_cd 207 2 = some (.iload_n 1, 1, 0, 0) := rfl
theorem i207_3 : mm_cd 207 3 = some (.iconst 1, 1, 0, 0) := rfl
theorem i207_4 : mm_cd 207 4 = some (.invokevirtual 69, 3, 0, 204) := rfl
theorem i207_7 : mm_cd 207 7 = some (.iconst 2, 1, 0, 0) := rfl
theorem i207_8 : mm_cd 207 8 = some (.invokevirtual 72, 3, 0, 202) := rfl
theorem i207_11 : mm_cd 207 11 = some (.iconst 1, 1, 0, 0) := rfl
theorem i207_12 : mm_cd 207 12 = some (.if_icmp .ne 7, 3, 0, 0) := rfl
theorem i207_15 : mm_cd 207 15 = some (.iconst 1, 1, 0, 0) := rfl
theorem i207_16 : mm_cd 207 16 = some (.goto 4, 3, 0, 0) := rfl
theorem i207_19 : mm_cd 207 19 = some (.iconst 0, 1, 0, 0) := rfl
theorem i207_20 : mm_cd 207 20 = some (.ireturn, 1, 0, 0) := rfl
/-- SerialGateModel.isOnly(I)Z -/
def q207 (v1 : Int32) (s : mS) : Option mQ := bN (q204 v1 (1 : Int32) s) fun x2 s1 => bN (q202 x2 (2 : Int32) s1) fun x4 s3 => if ¬ x4 = (1 : Int32) then (rv (0 : Int32) s3) else (rv (1 : Int32) s3)
theorem c207 {L : Nat} {xs : Nat → Int32} {v1 : Int32} {s : mS} {r : mQ} (h : q207 v1 s = some r) : ∀ d, 2 ≤ d → Cl L xs d 207 [.ref 512, .int v1] (hp s) (hr r) := by
  intro d hd
  show Ev L xs d 207 0 [(0, .ref 512), (1, .int v1)] [] (hp s) (hr r)
  unfold q207 at h
  refine Ev.aload_n H207 i207_0 rfl ?_
  refine Ev.aload_n H207 i207_1 rfl ?_
  refine Ev.iload_n H207 i207_2 rfl ?_
  refine Ev.iconst H207 i207_3 kI_1 ?_
  refine Rd.cV2vN H207 i207_4 cal204 ob11 (Nat.le_of_ble_eq_true rfl) (Nat.le_of_ble_eq_true rfl) (Nat.lt_of_lt_of_le (by decide) hd) (fun q hq => c204 hq) h (fun x2 s1 h => ?_)
  refine Ev.iconst H207 i207_7 kI_2 ?_
  refine Rd.cV2vN H207 i207_8 cal202 ob11 (Nat.le_of_ble_eq_true rfl) (Nat.le_of_ble_eq_true rfl) (Nat.lt_of_lt_of_le (by decide) hd) (fun q hq => c202 hq) h (fun x4 s3 h => ?_)
  refine Ev.iconst H207 i207_11 kI_1 ?_
  refine Rd.ic_ne H207 i207_12 (t := 19) (by decide) h (fun hc h => ?_) (fun hc h => ?_)
  · refine Ev.iconst H207 i207_19 kI_0 ?_
    exact Rd.ireturnK H207 i207_20 rfl (Or.inl rfl) h
  · refine Ev.iconst H207 i207_15 kI_1 ?_
    refine Ev.goto H207 i207_16 (t := 20) (by decide) ?_
    exact Rd.ireturnK H207 i207_20 rfl (Or.inr rfl) h
theorem i208_0 : mm_cd 208 0 = some (.iconst 0, 1, 0, 0) := rfl
theorem i208_1 : mm_cd 208 1 = some (.istore_n 2, 1, 0, 0) := rfl
theorem i208_2 : mm_cd 208 2 = some (.iconst 0, 1, 0, 0) := rfl
theorem i208_3 : mm_cd 208 3 = some (.istore_n 3, 1, 0, 0) := rfl
theorem i208_4 : mm_cd 208 4 = some (.iload_n 3, 1, 0, 0) := rfl
theorem i208_5 : mm_cd 208 5 = some (.bipush 8, 2, 0, 0) := rfl
theorem i208_7 : mm_cd 208 7 = some (.if_icmp .ge 29, 3, 0, 0) := rfl
theorem i208_10 : mm_cd 208 10 = some (.iload_n 2, 1, 0, 0) := rfl
theorem i208_11 : mm_cd 208 11 = some (.aload_n 0, 1, 0, 0) := rfl
theorem i208_12 : mm_cd 208 12 = some (.iload_n 3, 1, 0, 0) := rfl
theorem i208_13 : mm_cd 208 13 = some (.iconst 0, 1, 0, 0) := rfl
theorem i208_14 : mm_cd 208 14 = some (.invokevirtual 69, 3, 0, 204) := rfl
theorem i208_17 : mm_cd 208 17 = some (.iload_n 1, 1, 0, 0) := rfl
theorem i208_18 : mm_cd 208 18 = some (.if_icmp .ne 9, 3, 0, 0) := rfl
theorem i208_21 : mm_cd 208 21 = some (.iconst 1, 1, 0, 0) := rfl
theorem i208_22 : mm_cd 208 22 = some (.iload_n 3, 1, 0, 0) := rfl
theorem i208_23 : mm_cd 208 23 = some (.ishl, 1, 0, 0) := rfl
theorem i208_24 : mm_cd 208 24 = some (.goto 4, 3, 0, 0) := rfl
theorem i208_27 : mm_cd 208 27 = some (.iconst 0, 1, 0, 0) := rfl
theorem i208_28 : mm_cd 208 28 = some (.ior, 1, 0, 0) := rfl
theorem i208_29 : mm_cd 208 29 = some (.istore_n 2, 1, 0, 0) := rfl
theorem i208_30 : mm_cd 208 30 = some (.iinc 3 1, 3, 0, 0) := rfl
theorem i208_33 : mm_cd 208 33 = some (.goto (-29), 3, 0, 0) := rfl
theorem i208_36 : mm_cd 208 36 = some (.iload_n 2, 1, 0, 0) := rfl
theorem i208_37 : mm_cd 208 37 = some (.ireturn, 1, 0, 0) := rfl
def q208_28 (k4 : Int32 → Int32 → Int32 → mS → Option mQ) (v1 : Int32) (v3 : Int32) (y0 : Int32) (y1 : Int32) (s : mS) : Option mQ := bx (y0 ||| y1) fun x1 => bx (v3 + (1 : Int32)) fun x2 => k4 v1 x1 x2 s
theorem t208_28 {L : Nat} {xs : Nat → Int32} {d : Nat} {k4 : Int32 → Int32 → Int32 → mS → Option mQ} (hk4 : ∀ (v1 : Int32) (v2 : Int32) (v3 : Int32) (s : mS) (r : mQ), k4 v1 v2 v3 s = some r → Ev L xs d 208 4 [(0, .ref 512), (1, .int v1), (2, .int v2), (3, .int v3)] [] (hp s) (hr r)) (hd : 2 ≤ d) {v1 : Int32} {v3 : Int32} {y0 : Int32} {y1 : Int32} {s : mS} {r : mQ} (h : q208_28 k4 v1 v3 y0 y1 s = some r) : Ev L xs d 208 28 [(0, .ref 512), (1, .int v1), (3, .int v3)] [.int y1, .int y0] (hp s) (hr r) := by
  unfold q208_28 at h
  refine Ev.ior H208 i208_28 ?_
  refine Rd.istore_n H208 i208_29 (Nat.le_of_ble_eq_true rfl) (lv2 := fun x1 => [(2, .int x1), (0, .ref 512), (1, .int v1), (3, .int v3)]) (fun _ => rfl) h (fun x1 h => ?_)
  refine Rd.iinc H208 i208_30 (Nat.le_of_ble_eq_true rfl) rfl kI_1 (lv2 := fun x2 => [(3, .int x2), (2, .int x1), (0, .ref 512), (1, .int v1)]) (fun _ => rfl) h (fun x2 h => ?_)
  refine Ev.goto H208 i208_33 (t := 4) (by decide) ?_
  exact Ev.sub (l := [(0, .ref 512), (1, .int v1), (2, .int x1), (3, .int x2)]) rfl rfl (mm_sub_c rfl (mm_sub_c rfl (mm_sub_c rfl (mm_sub_c rfl mm_sub_n)))) (hk4 _ _ _ _ _ h)
def q208_4 : Nat → Int32 → Int32 → Int32 → mS → Option mQ
  | 0, _, _, _, _ => none
  | n + 1, v1, v2, v3, s => if (8 : Int32) ≤ v3 then (rv v2 s) else (bN (q204 v3 (0 : Int32) s) fun x4 s3 => if ¬ x4 = v1 then (q208_28 (q208_4 n) v1 v3 v2 (0 : Int32) s3) else (q208_28 (q208_4 n) v1 v3 v2 (shlI (1 : Int32) v3) s3))
theorem t208_4 {L : Nat} {xs : Nat → Int32} {d : Nat} (hd : 2 ≤ d) : ∀ (n : Nat) (v1 : Int32) (v2 : Int32) (v3 : Int32) (s : mS) (r : mQ), q208_4 n v1 v2 v3 s = some r → Ev L xs d 208 4 [(0, .ref 512), (1, .int v1), (2, .int v2), (3, .int v3)] [] (hp s) (hr r) := by
  intro n
  induction n with
  | zero => intro v1 v2 v3 s r h; rw [q208_4] at h; cases h
  | succ n ih =>
    intro v1 v2 v3 s r h
    rw [q208_4] at h
    refine Ev.iload_n H208 i208_4 rfl ?_
    refine Ev.bipush H208 i208_5 kB_8 ?_
    refine Rd.ic_ge H208 i208_7 (t := 36) (by decide) h (fun hc h => ?_) (fun hc h => ?_)
    · refine Ev.iload_n H208 i208_36 rfl ?_
      exact Rd.ireturn H208 i208_37 rfl h
    · refine Ev.iload_n H208 i208_10 rfl ?_
      refine Ev.aload_n H208 i208_11 rfl ?_
      refine Ev.iload_n H208 i208_12 rfl ?_
      refine Ev.iconst H208 i208_13 kI_0 ?_
      refine Rd.cV2vN H208 i208_14 cal204 ob11 (Nat.le_of_ble_eq_true rfl) (Nat.le_of_ble_eq_true rfl) (Nat.lt_of_lt_of_le (by decide) hd) (fun q hq => c204 hq) h (fun x4 s3 h => ?_)
      refine Ev.iload_n H208 i208_17 rfl ?_
      refine Rd.ic_ne H208 i208_18 (t := 27) (by decide) h (fun hc h => ?_) (fun hc h => ?_)
      · refine Ev.iconst H208 i208_27 kI_0 ?_
        exact Ev.sub (l := [(0, .ref 512), (1, .int v1), (3, .int v3)]) rfl rfl (mm_sub_c rfl (mm_sub_c rfl (mm_sub_c rfl mm_sub_n))) (t208_28 (k4 := (q208_4 n)) (fun _ _ _ _ _ h => ih _ _ _ _ _ h) hd h)
      · refine Ev.iconst H208 i208_21 kI_1 ?_
        refine Ev.iload_n H208 i208_22 rfl ?_
        refine Rd.ishl H208 i208_23 ?_
        refine Ev.goto H208 i208_24 (t := 28) (by decide) ?_
        exact Ev.sub (l := [(0, .ref 512), (1, .int v1), (3, .int v3)]) rfl rfl (mm_sub_c rfl (mm_sub_c rfl (mm_sub_c rfl mm_sub_n))) (t208_28 (k4 := (q208_4 n)) (fun _ _ _ _ _ h => ih _ _ _ _ _ h) hd h)
/-- SerialGateModel.allIn(I)I -/
def q208 (v1 : Int32) (s : mS) : Option mQ := q208_4 10000 v1 (0 : Int32) (0 : Int32) s
theorem c208 {L : Nat} {xs : Nat → Int32} {v1 : Int32} {s : mS} {r : mQ} (h : q208 v1 s = some r) : ∀ d, 2 ≤ d → Cl L xs d 208 [.ref 512, .int v1] (hp s) (hr r) := by
  intro d hd
  show Ev L xs d 208 0 [(0, .ref 512), (1, .int v1)] [] (hp s) (hr r)
  unfold q208 at h
  refine Ev.iconst H208 i208_0 kI_0 ?_
  refine Ev.istore_n H208 i208_1 (Nat.le_of_ble_eq_true rfl) (lv2 := [(2, .int (0 : Int32)), (0, .ref 512), (1, .int v1)]) rfl ?_
  refine Ev.iconst H208 i208_2 kI_0 ?_
  refine Ev.istore_n H208 i208_3 (Nat.le_of_ble_eq_true rfl) (lv2 := [(3, .int (0 : Int32)), (2, .int (0 : Int32)), (0, .ref 512), (1, .int v1)]) rfl ?_
  exact Ev.sub (l := [(0, .ref 512), (1, .int v1), (2, .int (0 : Int32)), (3, .int (0 : Int32))]) rfl rfl (mm_sub_c rfl (mm_sub_c rfl (mm_sub_c rfl (mm_sub_c rfl mm_sub_n)))) (t208_4 hd 10000 _ _ _ _ _ h)
theorem i209_0 : mm_cd 209 0 = some (.iconst (-1), 1, 0, 0) := rfl
theorem i209_1 : mm_cd 209 1 = some (.istore_n 2, 1, 0, 0) := rfl
theorem i209_2 : mm_cd 209 2 = some (.iconst 0, 1, 0, 0) := rfl
theorem i209_3 : mm_cd 209 3 = some (.istore_n 3, 1, 0, 0) := rfl
theorem i209_4 : mm_cd 209 4 = some (.iload_n 3, 1, 0, 0) := rfl
theorem i209_5 : mm_cd 209 5 = some (.bipush 8, 2, 0, 0) := rfl
theorem i209_7 : mm_cd 209 7 = some (.if_icmp .ge 33, 3, 0, 0) := rfl
theorem i209_10 : mm_cd 209 10 = some (.aload_n 0, 1, 0, 0) := rfl
theorem i209_11 : mm_cd 209 11 = some (.iload_n 3, 1, 0, 0) := rfl
theorem i209_12 : mm_cd 209 12 = some (.invokevirtual 75, 3, 0, 205) := rfl
theorem i209_15 : mm_cd 209 15 = some (.ifCond .eq 17, 3, 0, 0) := rfl
theorem i209_18 : mm_cd 209 18 = some (.aload_n 0, 1, 0, 0) := rfl
theorem i209_19 : mm_cd 209 19 = some (.iload_n 3, 1, 0, 0) := rfl
theorem i209_20 : mm_cd 209 20 = some (.iconst 1, 1, 0, 0) := rfl
theorem i209_21 : mm_cd 209 21 = some (.invokevirtual 69, 3, 0, 204) := rfl
theorem i209_24 : mm_cd 209 24 = some (.iload_n 1, 1, 0, 0) := rfl
theorem i209_25 : mm_cd 209 25 = some (.if_icmp .ne 7, 3, 0, 0) := rfl
theorem i209_28 : mm_cd 209 28 = some (.iload_n 3, 1, 0, 0) := rfl
theorem i209_29 : mm_cd 209 29 = some (.goto 4, 3, 0, 0) := rfl
theorem i209_32 : mm_cd 209 32 = some (.iload_n 2, 1, 0, 0) := rfl
theorem i209_33 : mm_cd 209 33 = some (.istore_n 2, 1, 0, 0) := rfl
theorem i209_34 : mm_cd 209 34 = some (.iinc 3 1, 3, 0, 0) := rfl
theorem i209_37 : mm_cd 209 37 = some (.goto (-33), 3, 0, 0) := rfl
theorem i209_40 : mm_cd 209 40 = some (.iload_n 2, 1, 0, 0) := rfl
theorem i209_41 : mm_cd 209 41 = some (.ireturn, 1, 0, 0) := rfl
def q209_33 (k4 : Int32 → Int32 → Int32 → mS → Option mQ) (v1 : Int32) (v3 : Int32) (y0 : Int32) (s : mS) : Option mQ := bx (v3 + (1 : Int32)) fun x1 => k4 v1 y0 x1 s
theorem t209_33 {L : Nat} {xs : Nat → Int32} {d : Nat} {k4 : Int32 → Int32 → Int32 → mS → Option mQ} (hk4 : ∀ (v1 : Int32) (v2 : Int32) (v3 : Int32) (s : mS) (r : mQ), k4 v1 v2 v3 s = some r → Ev L xs d 209 4 [(0, .ref 512), (1, .int v1), (2, .int v2), (3, .int v3)] [] (hp s) (hr r)) (hd : 3 ≤ d) {v1 : Int32} {v3 : Int32} {y0 : Int32} {s : mS} {r : mQ} (h : q209_33 k4 v1 v3 y0 s = some r) : Ev L xs d 209 33 [(0, .ref 512), (1, .int v1), (3, .int v3)] [.int y0] (hp s) (hr r) := by
  unfold q209_33 at h
  refine Ev.istore_n H209 i209_33 (Nat.le_of_ble_eq_true rfl) (lv2 := [(2, .int y0), (0, .ref 512), (1, .int v1), (3, .int v3)]) rfl ?_
  refine Rd.iinc H209 i209_34 (Nat.le_of_ble_eq_true rfl) rfl kI_1 (lv2 := fun x1 => [(3, .int x1), (2, .int y0), (0, .ref 512), (1, .int v1)]) (fun _ => rfl) h (fun x1 h => ?_)
  refine Ev.goto H209 i209_37 (t := 4) (by decide) ?_
  exact Ev.sub (l := [(0, .ref 512), (1, .int v1), (2, .int y0), (3, .int x1)]) rfl rfl (mm_sub_c rfl (mm_sub_c rfl (mm_sub_c rfl (mm_sub_c rfl mm_sub_n)))) (hk4 _ _ _ _ _ h)
def q209_32 (k4 : Int32 → Int32 → Int32 → mS → Option mQ) (v1 : Int32) (v2 : Int32) (v3 : Int32) (s : mS) : Option mQ := q209_33 k4 v1 v3 v2 s
theorem t209_32 {L : Nat} {xs : Nat → Int32} {d : Nat} {k4 : Int32 → Int32 → Int32 → mS → Option mQ} (hk4 : ∀ (v1 : Int32) (v2 : Int32) (v3 : Int32) (s : mS) (r : mQ), k4 v1 v2 v3 s = some r → Ev L xs d 209 4 [(0, .ref 512), (1, .int v1), (2, .int v2), (3, .int v3)] [] (hp s) (hr r)) (hd : 3 ≤ d) {v1 : Int32} {v2 : Int32} {v3 : Int32} {s : mS} {r : mQ} (h : q209_32 k4 v1 v2 v3 s = some r) : Ev L xs d 209 32 [(0, .ref 512), (1, .int v1), (2, .int v2), (3, .int v3)] [] (hp s) (hr r) := by
  unfold q209_32 at h
  refine Ev.iload_n H209 i209_32 rfl ?_
  exact Ev.sub (l := [(0, .ref 512), (1, .int v1), (3, .int v3)]) rfl rfl (mm_sub_c rfl (mm_sub_c rfl (mm_sub_c rfl mm_sub_n))) (t209_33 (k4 := k4) hk4 hd h)
def q209_4 : Nat → Int32 → Int32 → Int32 → mS → Option mQ
  | 0, _, _, _, _ => none
  | n + 1, v1, v2, v3, s => if (8 : Int32) ≤ v3 then (rv v2 s) else (bN (q205 v3 s) fun x3 s2 => if x3 = 0 then (q209_32 (q209_4 n) v1 v2 v3 s2) else (bN (q204 v3 (1 : Int32) s2) fun x5 s4 => if ¬ x5 = v1 then (q209_32 (q209_4 n) v1 v2 v3 s4) else (q209_33 (q209_4 n) v1 v3 v3 s4)))
theorem t209_4 {L : Nat} {xs : Nat → Int32} {d : Nat} (hd : 3 ≤ d) : ∀ (n : Nat) (v1 : Int32) (v2 : Int32) (v3 : Int32) (s : mS) (r : mQ), q209_4 n v1 v2 v3 s = some r → Ev L xs d 209 4 [(0, .ref 512), (1, .int v1), (2, .int v2), (3, .int v3)] [] (hp s) (hr r) := by
  intro n
  induction n with
  | zero => intro v1 v2 v3 s r h; rw [q209_4] at h; cases h
  | succ n ih =>
    intro v1 v2 v3 s r h
    rw [q209_4] at h
    refine Ev.iload_n H209 i209_4 rfl ?_
    refine Ev.bipush H209 i209_5 kB_8 ?_
    refine Rd.ic_ge H209 i209_7 (t := 40) (by decide) h (fun hc h => ?_) (fun hc h => ?_)
    · refine Ev.iload_n H209 i209_40 rfl ?_
      exact Rd.ireturn H209 i209_41 rfl h
    · refine Ev.aload_n H209 i209_10 rfl ?_
      refine Ev.iload_n H209 i209_11 rfl ?_
      refine Rd.cV1vN H209 i209_12 cal205 ob11 (Nat.le_of_ble_eq_true rfl) (Nat.le_of_ble_eq_true rfl) (Nat.lt_of_lt_of_le (by decide) hd) (fun q hq => c205 hq) h (fun x3 s2 h => ?_)
      refine Rd.if_eq H209 i209_15 (t := 32) (by decide) h (fun hc h => ?_) (fun hc h => ?_)
      · exact Ev.sub (l := [(0, .ref 512), (1, .int v1), (2, .int v2), (3, .int v3)]) rfl rfl (mm_sub_c rfl (mm_sub_c rfl (mm_sub_c rfl (mm_sub_c rfl mm_sub_n)))) (t209_32 (k4 := (q209_4 n)) (fun _ _ _ _ _ h => ih _ _ _ _ _ h) hd h)
      · refine Ev.aload_n H209 i209_18 rfl ?_
        refine Ev.iload_n H209 i209_19 rfl ?_
        refine Ev.iconst H209 i209_20 kI_1 ?_
        refine Rd.cV2vN H209 i209_21 cal204 ob11 (Nat.le_of_ble_eq_true rfl) (Nat.le_of_ble_eq_true rfl) (Nat.lt_of_lt_of_le (by decide) hd) (fun q hq => c204 hq) h (fun x5 s4 h => ?_)
        refine Ev.iload_n H209 i209_24 rfl ?_
        refine Rd.ic_ne H209 i209_25 (t := 32) (by decide) h (fun hc h => ?_) (fun hc h => ?_)
        · exact Ev.sub (l := [(0, .ref 512), (1, .int v1), (2, .int v2), (3, .int v3)]) rfl rfl (mm_sub_c rfl (mm_sub_c rfl (mm_sub_c rfl (mm_sub_c rfl mm_sub_n)))) (t209_32 (k4 := (q209_4 n)) (fun _ _ _ _ _ h => ih _ _ _ _ _ h) hd h)
        · refine Ev.iload_n H209 i209_28 rfl ?_
          refine Ev.goto H209 i209_29 (t := 33) (by decide) ?_
          exact Ev.sub (l := [(0, .ref 512), (1, .int v1), (3, .int v3)]) rfl rfl (mm_sub_c rfl (mm_sub_c rfl (mm_sub_c rfl mm_sub_n))) (t209_33 (k4 := (q209_4 n)) (fun _ _ _ _ _ h => ih _ _ _ _ _ h) hd h)
/-- SerialGateModel.slotOf(I)I -/
def q209 (v1 : Int32) (s : mS) : Option mQ := q209_4 10000 v1 (-1 : Int32) (0 : Int32) s
theorem c209 {L : Nat} {xs : Nat → Int32} {v1 : Int32} {s : mS} {r : mQ} (h : q209 v1 s = some r) : ∀ d, 3 ≤ d → Cl L xs d 209 [.ref 512, .int v1] (hp s) (hr r) := by
  intro d hd
  show Ev L xs d 209 0 [(0, .ref 512), (1, .int v1)] [] (hp s) (hr r)
  unfold q209 at h
  refine Ev.iconst H209 i209_0 kI_m1 ?_
  refine Ev.istore_n H209 i209_1 (Nat.le_of_ble_eq_true rfl) (lv2 := [(2, .int (-1 : Int32)), (0, .ref 512), (1, .int v1)]) rfl ?_
  refine Ev.iconst H209 i209_2 kI_0 ?_
  refine Ev.istore_n H209 i209_3 (Nat.le_of_ble_eq_true rfl) (lv2 := [(3, .int (0 : Int32)), (2, .int (-1 : Int32)), (0, .ref 512), (1, .int v1)]) rfl ?_
  exact Ev.sub (l := [(0, .ref 512), (1, .int v1), (2, .int (-1 : Int32)), (3, .int (0 : Int32))]) rfl rfl (mm_sub_c rfl (mm_sub_c rfl (mm_sub_c rfl (mm_sub_c rfl mm_sub_n)))) (t209_4 hd 10000 _ _ _ _ _ h)
theorem i210_0 : mm_cd 210 0 = some (.iconst (-1), 1, 0, 0) := rfl
theorem i210_1 : mm_cd 210 1 = some (.istore_n 2, 1, 0, 0) := rfl
theorem i210_2 : mm_cd 210 2 = some (.iconst 0, 1, 0, 0) := rfl
theorem i210_3 : mm_cd 210 3 = some (.istore_n 3, 1, 0, 0) := rfl
theorem i210_4 : mm_cd 210 4 = some (.iload_n 3, 1, 0, 0) := rfl
theorem i210_5 : mm_cd 210 5 = some (.bipush 8, 2, 0, 0) := rfl
theorem i210_7 : mm_cd 210 7 = some (.if_icmp .ge 37, 3, 0, 0) := rfl
theorem i210_10 : mm_cd 210 10 = some (.aload_n 0, 1, 0, 0) := rfl
theorem i210_11 : mm_cd 210 11 = some (.iload_n 3, 1, 0, 0) := rfl
theorem i210_12 : mm_cd 210 12 = some (.invokevirtual 75, 3, 0, 205) := rfl
theorem i210_15 : mm_cd 210 15 = some (.ifCond .eq 21, 3, 0, 0) := rfl
theorem i210_18 : mm_cd 210 18 = some (.aload_n 0, 1, 0, 0) := rfl
theorem i210_19 : mm_cd 210 19 = some (.iload_n 3, 1, 0, 0) := rfl
theorem i210_20 : mm_cd 210 20 = some (.bipush 6, 2, 0, 0) := rfl
theorem i210_22 : mm_cd 210 22 = some (.invokevirtual 69, 3, 0, 204) := rfl
theorem i210_25 : mm_cd 210 25 = some (.iload_n 1, 1, 0, 0) := rfl
theorem i210_26 : mm_cd 210 26 = some (.invokestatic 79, 3, 0, 190) := rfl
theorem i210_29 : mm_cd 210 29 = some (.ifCond .eq 7, 3, 0, 0) := rfl
theorem i210_32 : mm_cd 210 32 = some (.iload_n 3, 1, 0, 0) := rfl
theorem i210_33 : mm_cd 210 33 = some (.goto 4, 3, 0, 0) := rfl
theorem i210_36 : mm_cd 210 36 = some (.iload_n 2, 1, 0, 0) := rfl
theorem i210_37 : mm_cd 210 37 = some (.istore_n 2, 1, 0, 0) := rfl
theorem i210_38 : mm_cd 210 38 = some (.iinc 3 1, 3, 0, 0) := rfl
theorem i210_41 : mm_cd 210 41 = some (.goto (-37), 3, 0, 0) := rfl
theorem i210_44 : mm_cd 210 44 = some (.iload_n 2, 1, 0, 0) := rfl
theorem i210_45 : mm_cd 210 45 = some (.ireturn, 1, 0, 0) := rfl
def q210_37 (k4 : Int32 → Int32 → Int32 → mS → Option mQ) (v1 : Int32) (v3 : Int32) (y0 : Int32) (s : mS) : Option mQ := bx (v3 + (1 : Int32)) fun x1 => k4 v1 y0 x1 s
theorem t210_37 {L : Nat} {xs : Nat → Int32} {d : Nat} {k4 : Int32 → Int32 → Int32 → mS → Option mQ} (hk4 : ∀ (v1 : Int32) (v2 : Int32) (v3 : Int32) (s : mS) (r : mQ), k4 v1 v2 v3 s = some r → Ev L xs d 210 4 [(0, .ref 512), (1, .int v1), (2, .int v2), (3, .int v3)] [] (hp s) (hr r)) (hd : 3 ≤ d) {v1 : Int32} {v3 : Int32} {y0 : Int32} {s : mS} {r : mQ} (h : q210_37 k4 v1 v3 y0 s = some r) : Ev L xs d 210 37 [(0, .ref 512), (1, .int v1), (3, .int v3)] [.int y0] (hp s) (hr r) := by
  unfold q210_37 at h
  refine Ev.istore_n H210 i210_37 (Nat.le_of_ble_eq_true rfl) (lv2 := [(2, .int y0), (0, .ref 512), (1, .int v1), (3, .int v3)]) rfl ?_
  refine Rd.iinc H210 i210_38 (Nat.le_of_ble_eq_true rfl) rfl kI_1 (lv2 := fun x1 => [(3, .int x1), (2, .int y0), (0, .ref 512), (1, .int v1)]) (fun _ => rfl) h (fun x1 h => ?_)
  refine Ev.goto H210 i210_41 (t := 4) (by decide) ?_
  exact Ev.sub (l := [(0, .ref 512), (1, .int v1), (2, .int y0), (3, .int x1)]) rfl rfl (mm_sub_c rfl (mm_sub_c rfl (mm_sub_c rfl (mm_sub_c rfl mm_sub_n)))) (hk4 _ _ _ _ _ h)
def q210_36 (k4 : Int32 → Int32 → Int32 → mS → Option mQ) (v1 : Int32) (v2 : Int32) (v3 : Int32) (s : mS) : Option mQ := q210_37 k4 v1 v3 v2 s
theorem t210_36 {L : Nat} {xs : Nat → Int32} {d : Nat} {k4 : Int32 → Int32 → Int32 → mS → Option mQ} (hk4 : ∀ (v1 : Int32) (v2 : Int32) (v3 : Int32) (s : mS) (r : mQ), k4 v1 v2 v3 s = some r → Ev L xs d 210 4 [(0, .ref 512), (1, .int v1), (2, .int v2), (3, .int v3)] [] (hp s) (hr r)) (hd : 3 ≤ d) {v1 : Int32} {v2 : Int32} {v3 : Int32} {s : mS} {r : mQ} (h : q210_36 k4 v1 v2 v3 s = some r) : Ev L xs d 210 36 [(0, .ref 512), (1, .int v1), (2, .int v2), (3, .int v3)] [] (hp s) (hr r) := by
  unfold q210_36 at h
  refine Ev.iload_n H210 i210_36 rfl ?_
  exact Ev.sub (l := [(0, .ref 512), (1, .int v1), (3, .int v3)]) rfl rfl (mm_sub_c rfl (mm_sub_c rfl (mm_sub_c rfl mm_sub_n))) (t210_37 (k4 := k4) hk4 hd h)
def q210_4 : Nat → Int32 → Int32 → Int32 → mS → Option mQ
  | 0, _, _, _, _ => none
  | n + 1, v1, v2, v3, s => if (8 : Int32) ≤ v3 then (rv v2 s) else (bN (q205 v3 s) fun x3 s2 => if x3 = 0 then (q210_36 (q210_4 n) v1 v2 v3 s2) else (bN (q204 v3 (6 : Int32) s2) fun x5 s4 => bN (q190 x5 v1 s4) fun x7 s6 => if x7 = 0 then (q210_36 (q210_4 n) v1 v2 v3 s6) else (q210_37 (q210_4 n) v1 v3 v3 s6)))
theorem t210_4 {L : Nat} {xs : Nat → Int32} {d : Nat} (hd : 3 ≤ d) : ∀ (n : Nat) (v1 : Int32) (v2 : Int32) (v3 : Int32) (s : mS) (r : mQ), q210_4 n v1 v2 v3 s = some r → Ev L xs d 210 4 [(0, .ref 512), (1, .int v1), (2, .int v2), (3, .int v3)] [] (hp s) (hr r) := by
  intro n
  induction n with
  | zero => intro v1 v2 v3 s r h; rw [q210_4] at h; cases h
  | succ n ih =>
    intro v1 v2 v3 s r h
    rw [q210_4] at h
    refine Ev.iload_n H210 i210_4 rfl ?_
    refine Ev.bipush H210 i210_5 kB_8 ?_
    refine Rd.ic_ge H210 i210_7 (t := 44) (by decide) h (fun hc h => ?_) (fun hc h => ?_)
    · refine Ev.iload_n H210 i210_44 rfl ?_
      exact Rd.ireturn H210 i210_45 rfl h
    · refine Ev.aload_n H210 i210_10 rfl ?_
      refine Ev.iload_n H210 i210_11 rfl ?_
      refine Rd.cV1vN H210 i210_12 cal205 ob11 (Nat.le_of_ble_eq_true rfl) (Nat.le_of_ble_eq_true rfl) (Nat.lt_of_lt_of_le (by decide) hd) (fun q hq => c205 hq) h (fun x3 s2 h => ?_)
      refine Rd.if_eq H210 i210_15 (t := 36) (by decide) h (fun hc h => ?_) (fun hc h => ?_)
      · exact Ev.sub (l := [(0, .ref 512), (1, .int v1), (2, .int v2), (3, .int v3)]) rfl rfl (mm_sub_c rfl (mm_sub_c rfl (mm_sub_c rfl (mm_sub_c rfl mm_sub_n)))) (t210_36 (k4 := (q210_4 n)) (fun _ _ _ _ _ h => ih _ _ _ _ _ h) hd h)
      · refine Ev.aload_n H210 i210_18 rfl ?_
        refine Ev.iload_n H210 i210_19 rfl ?_
        refine Ev.bipush H210 i210_20 kB_6 ?_
        refine Rd.cV2vN H210 i210_22 cal204 ob11 (Nat.le_of_ble_eq_true rfl) (Nat.le_of_ble_eq_true rfl) (Nat.lt_of_lt_of_le (by decide) hd) (fun q hq => c204 hq) h (fun x5 s4 h => ?_)
        refine Ev.iload_n H210 i210_25 rfl ?_
        refine Rd.cS2vN H210 i210_26 cal190 (Nat.le_of_ble_eq_true rfl) (Nat.le_of_ble_eq_true rfl) (Nat.lt_of_lt_of_le (by decide) hd) (fun q hq => c190 hq) h (fun x7 s6 h => ?_)
        refine Rd.if_eq H210 i210_29 (t := 36) (by decide) h (fun hc h => ?_) (fun hc h => ?_)
        · exact Ev.sub (l := [(0, .ref 512), (1, .int v1), (2, .int v2), (3, .int v3)]) rfl rfl (mm_sub_c rfl (mm_sub_c rfl (mm_sub_c rfl (mm_sub_c rfl mm_sub_n)))) (t210_36 (k4 := (q210_4 n)) (fun _ _ _ _ _ h => ih _ _ _ _ _ h) hd h)
        · refine Ev.iload_n H210 i210_32 rfl ?_
          refine Ev.goto H210 i210_33 (t := 37) (by decide) ?_
          exact Ev.sub (l := [(0, .ref 512), (1, .int v1), (3, .int v3)]) rfl rfl (mm_sub_c rfl (mm_sub_c rfl (mm_sub_c rfl mm_sub_n))) (t210_37 (k4 := (q210_4 n)) (fun _ _ _ _ _ h => ih _ _ _ _ _ h) hd h)
/-- SerialGateModel.writerOf(I)I -/
def q210 (v1 : Int32) (s : mS) : Option mQ := q210_4 10000 v1 (-1 : Int32) (0 : Int32) s
theorem c210 {L : Nat} {xs : Nat → Int32} {v1 : Int32} {s : mS} {r : mQ} (h : q210 v1 s = some r) : ∀ d, 3 ≤ d → Cl L xs d 210 [.ref 512, .int v1] (hp s) (hr r) := by
  intro d hd
  show Ev L xs d 210 0 [(0, .ref 512), (1, .int v1)] [] (hp s) (hr r)
  unfold q210 at h
  refine Ev.iconst H210 i210_0 kI_m1 ?_
  refine Ev.istore_n H210 i210_1 (Nat.le_of_ble_eq_true rfl) (lv2 := [(2, .int (-1 : Int32)), (0, .ref 512), (1, .int v1)]) rfl ?_
  refine Ev.iconst H210 i210_2 kI_0 ?_
  refine Ev.istore_n H210 i210_3 (Nat.le_of_ble_eq_true rfl) (lv2 := [(3, .int (0 : Int32)), (2, .int (-1 : Int32)), (0, .ref 512), (1, .int v1)]) rfl ?_
  exact Ev.sub (l := [(0, .ref 512), (1, .int v1), (2, .int (-1 : Int32)), (3, .int (0 : Int32))]) rfl rfl (mm_sub_c rfl (mm_sub_c rfl (mm_sub_c rfl (mm_sub_c rfl mm_sub_n)))) (t210_4 hd 10000 _ _ _ _ _ h)
