theorem i293_0 : mm_cd 293 0 = some (.aload_n 0, 1, 0, 0) := rfl
theorem i293_1 : mm_cd 293 1 = some (.iconst 0, 1, 0, 0) := rfl
theorem i293_2 : mm_cd 293 2 = some (.putfield 3, 3, ((11 : Nat) : Int), 0) := rfl
theorem i293_5 : mm_cd 293 5 = some (.aload_n 0, 1, 0, 0) := rfl
theorem i293_6 : mm_cd 293 6 = some (.iconst 1, 1, 0, 0) := rfl
theorem i293_7 : mm_cd 293 7 = some (.invokevirtual 313, 3, 0, 208) := rfl
theorem i293_10 : mm_cd 293 10 = some (.istore_n 1, 1, 0, 0) := rfl
theorem i293_11 : mm_cd 293 11 = some (.iload_n 1, 1, 0, 0) := rfl
theorem i293_12 : mm_cd 293 12 = some (.istore_n 2, 1, 0, 0) := rfl
theorem i293_13 : mm_cd 293 13 = some (.iload_n 1, 1, 0, 0) := rfl
theorem i293_14 : mm_cd 293 14 = some (.istore_n 3, 1, 0, 0) := rfl
theorem i293_15 : mm_cd 293 15 = some (.iload_n 3, 1, 0, 0) := rfl
theorem i293_16 : mm_cd 293 16 = some (.ifCond .lt 42, 3, 0, 0) := rfl
theorem i293_19 : mm_cd 293 19 = some (.iload_n 3, 1, 0, 0) := rfl
theorem i293_20 : mm_cd 293 20 = some (.iload_n 1, 1, 0, 0) := rfl
theorem i293_21 : mm_cd 293 21 = some (.iconst (-1), 1, 0, 0) := rfl
theorem i293_22 : mm_cd 293 22 = some (.ixor, 1, 0, 0) := rfl
theorem i293_23 : mm_cd 293 23 = some (.iand, 1, 0, 0) := rfl
theorem i293_24 : mm_cd 293 24 = some (.ifCond .ne 26, 3, 0, 0) := rfl
theorem i293_27 : mm_cd 293 27 = some (.iload_n 3, 1, 0, 0) := rfl
theorem i293_28 : mm_cd 293 28 = some (.invokestatic 258, 3, 0, 343) := rfl
theorem i293_31 : mm_cd 293 31 = some (.iload_n 2, 1, 0, 0) := rfl
theorem i293_32 : mm_cd 293 32 = some (.invokestatic 258, 3, 0, 343) := rfl
theorem i293_35 : mm_cd 293 35 = some (.if_icmp .gt 15, 3, 0, 0) := rfl
theorem i293_38 : mm_cd 293 38 = some (.aload_n 0, 1, 0, 0) := rfl
theorem i293_39 : mm_cd 293 39 = some (.iload_n 3, 1, 0, 0) := rfl
theorem i293_40 : mm_cd 293 40 = some (.invokevirtual 407, 3, 0, 292) := rfl
theorem i293_43 : mm_cd 293 43 = some (.ifCond .eq 7, 3, 0, 0) := rfl
theorem i293_46 : mm_cd 293 46 = some (.iload_n 3, 1, 0, 0) := rfl
theorem i293_47 : mm_cd 293 47 = some (.goto 4, 3, 0, 0) := rfl
theorem i293_50 : mm_cd 293 50 = some (.iload_n 2, 1, 0, 0) := rfl
theorem i293_51 : mm_cd 293 51 = some (.istore_n 2, 1, 0, 0) := rfl
theorem i293_52 : mm_cd 293 52 = some (.iinc 3 (-1), 3, 0, 0) := rfl
theorem i293_55 : mm_cd 293 55 = some (.goto (-40), 3, 0, 0) := rfl
theorem i293_58 : mm_cd 293 58 = some (.iload_n 2, 1, 0, 0) := rfl
theorem i293_59 : mm_cd 293 59 = some (.ireturn, 1, 0, 0) := rfl
def q293_51 (k15 : Int32 → Int32 → Int32 → mS → Option mQ) (v1 : Int32) (v3 : Int32) (y0 : Int32) (s : mS) : Option mQ := bx (v3 + (-1 : Int32)) fun x1 => k15 v1 y0 x1 s
theorem t293_51 {L : Nat} {xs : Nat → Int32} {d : Nat} {k15 : Int32 → Int32 → Int32 → mS → Option mQ} (hk15 : ∀ (v1 : Int32) (v2 : Int32) (v3 : Int32) (s : mS) (r : mQ), k15 v1 v2 v3 s = some r → Ev L xs d 293 15 [(0, .ref 512), (1, .int v1), (2, .int v2), (3, .int v3)] [] (hp s) (hr r)) (hd : 4 ≤ d) {v1 : Int32} {v3 : Int32} {y0 : Int32} {s : mS} {r : mQ} (h : q293_51 k15 v1 v3 y0 s = some r) : Ev L xs d 293 51 [(0, .ref 512), (1, .int v1), (3, .int v3)] [.int y0] (hp s) (hr r) := by
  unfold q293_51 at h
  refine Ev.istore_n H293 i293_51 (Nat.le_of_ble_eq_true rfl) (lv2 := [(2, .int y0), (0, .ref 512), (1, .int v1), (3, .int v3)]) rfl ?_
  refine Rd.iinc H293 i293_52 (Nat.le_of_ble_eq_true rfl) rfl kI_m1 (lv2 := fun x1 => [(3, .int x1), (2, .int y0), (0, .ref 512), (1, .int v1)]) (fun _ => rfl) h (fun x1 h => ?_)
  refine Ev.goto H293 i293_55 (t := 15) (by decide) ?_
  exact Ev.sub (l := [(0, .ref 512), (1, .int v1), (2, .int y0), (3, .int x1)]) rfl rfl (mm_sub_c rfl (mm_sub_c rfl (mm_sub_c rfl (mm_sub_c rfl mm_sub_n)))) (hk15 _ _ _ _ _ h)
def q293_50 (k15 : Int32 → Int32 → Int32 → mS → Option mQ) (v1 : Int32) (v2 : Int32) (v3 : Int32) (s : mS) : Option mQ := q293_51 k15 v1 v3 v2 s
theorem t293_50 {L : Nat} {xs : Nat → Int32} {d : Nat} {k15 : Int32 → Int32 → Int32 → mS → Option mQ} (hk15 : ∀ (v1 : Int32) (v2 : Int32) (v3 : Int32) (s : mS) (r : mQ), k15 v1 v2 v3 s = some r → Ev L xs d 293 15 [(0, .ref 512), (1, .int v1), (2, .int v2), (3, .int v3)] [] (hp s) (hr r)) (hd : 4 ≤ d) {v1 : Int32} {v2 : Int32} {v3 : Int32} {s : mS} {r : mQ} (h : q293_50 k15 v1 v2 v3 s = some r) : Ev L xs d 293 50 [(0, .ref 512), (1, .int v1), (2, .int v2), (3, .int v3)] [] (hp s) (hr r) := by
  unfold q293_50 at h
  refine Ev.iload_n H293 i293_50 rfl ?_
  exact Ev.sub (l := [(0, .ref 512), (1, .int v1), (3, .int v3)]) rfl rfl (mm_sub_c rfl (mm_sub_c rfl (mm_sub_c rfl mm_sub_n))) (t293_51 (k15 := k15) hk15 hd h)
def q293_15 : Nat → Int32 → Int32 → Int32 → mS → Option mQ
  | 0, _, _, _, _ => none
  | n + 1, v1, v2, v3, s => if v3 < 0 then (rv v2 s) else (if ¬ (v3 &&& (v1 ^^^ (-1 : Int32))) = 0 then (q293_50 (q293_15 n) v1 v2 v3 s) else (bN (q343 v3 s) fun x3 s2 => bN (q343 v2 s2) fun x5 s4 => if x5 < x3 then (q293_50 (q293_15 n) v1 v2 v3 s4) else (bN (q292 v3 s4) fun x7 s6 => if x7 = 0 then (q293_50 (q293_15 n) v1 v2 v3 s6) else (q293_51 (q293_15 n) v1 v3 v3 s6))))
theorem t293_15 {L : Nat} {xs : Nat → Int32} {d : Nat} (hd : 4 ≤ d) : ∀ (n : Nat) (v1 : Int32) (v2 : Int32) (v3 : Int32) (s : mS) (r : mQ), q293_15 n v1 v2 v3 s = some r → Ev L xs d 293 15 [(0, .ref 512), (1, .int v1), (2, .int v2), (3, .int v3)] [] (hp s) (hr r) := by
  intro n
  induction n with
  | zero => intro v1 v2 v3 s r h; rw [q293_15] at h; cases h
  | succ n ih =>
    intro v1 v2 v3 s r h
    rw [q293_15] at h
    refine Ev.iload_n H293 i293_15 rfl ?_
    refine Rd.if_lt H293 i293_16 (t := 58) (by decide) h (fun hc h => ?_) (fun hc h => ?_)
    · refine Ev.iload_n H293 i293_58 rfl ?_
      exact Rd.ireturn H293 i293_59 rfl h
    · refine Ev.iload_n H293 i293_19 rfl ?_
      refine Ev.iload_n H293 i293_20 rfl ?_
      refine Ev.iconst H293 i293_21 kI_m1 ?_
      refine Ev.ixor H293 i293_22 ?_
      refine Ev.iand H293 i293_23 ?_
      refine Rd.if_ne H293 i293_24 (t := 50) (by decide) h (fun hc h => ?_) (fun hc h => ?_)
      · exact Ev.sub (l := [(0, .ref 512), (1, .int v1), (2, .int v2), (3, .int v3)]) rfl rfl (mm_sub_c rfl (mm_sub_c rfl (mm_sub_c rfl (mm_sub_c rfl mm_sub_n)))) (t293_50 (k15 := (q293_15 n)) (fun _ _ _ _ _ h => ih _ _ _ _ _ h) hd h)
      · refine Ev.iload_n H293 i293_27 rfl ?_
        refine Rd.cS1vN H293 i293_28 cal343 (Nat.le_of_ble_eq_true rfl) (Nat.le_of_ble_eq_true rfl) (Nat.lt_of_lt_of_le (by decide) hd) (fun q hq => c343 hq) h (fun x3 s2 h => ?_)
        refine Ev.iload_n H293 i293_31 rfl ?_
        refine Rd.cS1vN H293 i293_32 cal343 (Nat.le_of_ble_eq_true rfl) (Nat.le_of_ble_eq_true rfl) (Nat.lt_of_lt_of_le (by decide) hd) (fun q hq => c343 hq) h (fun x5 s4 h => ?_)
        refine Rd.ic_gt H293 i293_35 (t := 50) (by decide) h (fun hc h => ?_) (fun hc h => ?_)
        · exact Ev.sub (l := [(0, .ref 512), (1, .int v1), (2, .int v2), (3, .int v3)]) rfl rfl (mm_sub_c rfl (mm_sub_c rfl (mm_sub_c rfl (mm_sub_c rfl mm_sub_n)))) (t293_50 (k15 := (q293_15 n)) (fun _ _ _ _ _ h => ih _ _ _ _ _ h) hd h)
        · refine Ev.aload_n H293 i293_38 rfl ?_
          refine Ev.iload_n H293 i293_39 rfl ?_
          refine Rd.cV1vN H293 i293_40 cal292 ob11 (Nat.le_of_ble_eq_true rfl) (Nat.le_of_ble_eq_true rfl) (Nat.lt_of_lt_of_le (by decide) hd) (fun q hq => c292 hq) h (fun x7 s6 h => ?_)
          refine Rd.if_eq H293 i293_43 (t := 50) (by decide) h (fun hc h => ?_) (fun hc h => ?_)
          · exact Ev.sub (l := [(0, .ref 512), (1, .int v1), (2, .int v2), (3, .int v3)]) rfl rfl (mm_sub_c rfl (mm_sub_c rfl (mm_sub_c rfl (mm_sub_c rfl mm_sub_n)))) (t293_50 (k15 := (q293_15 n)) (fun _ _ _ _ _ h => ih _ _ _ _ _ h) hd h)
          · refine Ev.iload_n H293 i293_46 rfl ?_
            refine Ev.goto H293 i293_47 (t := 51) (by decide) ?_
            exact Ev.sub (l := [(0, .ref 512), (1, .int v1), (3, .int v3)]) rfl rfl (mm_sub_c rfl (mm_sub_c rfl (mm_sub_c rfl mm_sub_n))) (t293_51 (k15 := (q293_15 n)) (fun _ _ _ _ _ h => ih _ _ _ _ _ h) hd h)
/-- SerialGateModel.cut()I -/
def q293 (s : mS) : Option mQ := sp (sI s 512 0 (0 : Int32)) fun s8 => bN (q208 (1 : Int32) s8) fun x10 s9 => q293_15 10000 x10 x10 x10 s9
theorem c293 {L : Nat} {xs : Nat → Int32} {s : mS} {r : mQ} (h : q293 s = some r) : ∀ d, 4 ≤ d → Cl L xs d 293 [.ref 512] (hp s) (hr r) := by
  intro d hd
  show Ev L xs d 293 0 [(0, .ref 512)] [] (hp s) (hr r)
  unfold q293 at h
  refine Ev.aload_n H293 i293_0 rfl ?_
  refine Ev.iconst H293 i293_1 kI_0 ?_
  refine Rd.putI H293 i293_2 ob11 rfl ty11_0.1 ty11_0.2 h (fun s8 h => ?_)
  refine Ev.aload_n H293 i293_5 rfl ?_
  refine Ev.iconst H293 i293_6 kI_1 ?_
  refine Rd.cV1vN H293 i293_7 cal208 ob11 (Nat.le_of_ble_eq_true rfl) (Nat.le_of_ble_eq_true rfl) (Nat.lt_of_lt_of_le (by decide) hd) (fun q hq => c208 hq) h (fun x10 s9 h => ?_)
  refine Ev.istore_n H293 i293_10 (Nat.le_of_ble_eq_true rfl) (lv2 := [(1, .int x10), (0, .ref 512)]) rfl ?_
  refine Ev.iload_n H293 i293_11 rfl ?_
  refine Ev.istore_n H293 i293_12 (Nat.le_of_ble_eq_true rfl) (lv2 := [(2, .int x10), (1, .int x10), (0, .ref 512)]) rfl ?_
  refine Ev.iload_n H293 i293_13 rfl ?_
  refine Ev.istore_n H293 i293_14 (Nat.le_of_ble_eq_true rfl) (lv2 := [(3, .int x10), (2, .int x10), (1, .int x10), (0, .ref 512)]) rfl ?_
  exact Ev.sub (l := [(0, .ref 512), (1, .int x10), (2, .int x10), (3, .int x10)]) rfl rfl (mm_sub_c rfl (mm_sub_c rfl (mm_sub_c rfl (mm_sub_c rfl mm_sub_n)))) (t293_15 hd 10000 _ _ _ _ _ h)
theorem i294_0 : mm_cd 294 0 = some (.aload_n 0, 1, 0, 0) := rfl
theorem i294_1 : mm_cd 294 1 = some (.getfield 13, 3, ((11 : Nat) : Int), 1) := rfl
theorem i294_4 : mm_cd 294 4 = some (.aload_n 0, 1, 0, 0) := rfl
theorem i294_5 : mm_cd 294 5 = some (.iload_n 1, 1, 0, 0) := rfl
theorem i294_6 : mm_cd 294 6 = some (.invokevirtual 334, 3, 0, 266) := rfl
theorem i294_9 : mm_cd 294 9 = some (.iload_n 2, 1, 0, 0) := rfl
theorem i294_10 : mm_cd 294 10 = some (.iadd, 1, 0, 0) := rfl
theorem i294_11 : mm_cd 294 11 = some (.iaload, 1, 0, 0) := rfl
theorem i294_12 : mm_cd 294 12 = some (.ireturn, 1, 0, 0) := rfl
/-- SerialGateModel.ofStory(II)I -/
def q294 (v1 : Int32) (v2 : Int32) (s : mS) : Option mQ := bN (q266 v1 s) fun x2 s1 => gA 2468 (x2 + v2) <| rv (s1.1 513 (x2 + v2).toNatClampNeg) s1
theorem c294 {L : Nat} {xs : Nat → Int32} {v1 : Int32} {v2 : Int32} {s : mS} {r : mQ} (h : q294 v1 v2 s = some r) : ∀ d, 1 ≤ d → Cl L xs d 294 [.ref 512, .int v1, .int v2] (hp s) (hr r) := by
  intro d hd
  show Ev L xs d 294 0 [(0, .ref 512), (1, .int v1), (2, .int v2)] [] (hp s) (hr r)
  unfold q294 at h
  refine Ev.aload_n H294 i294_0 rfl ?_
  refine Rd.getR H294 i294_1 ob11 rfl ?_
  refine Ev.aload_n H294 i294_4 rfl ?_
  refine Ev.iload_n H294 i294_5 rfl ?_
  refine Rd.cV1vN H294 i294_6 cal266 ob11 (Nat.le_of_ble_eq_true rfl) (Nat.le_of_ble_eq_true rfl) (Nat.lt_of_lt_of_le (by decide) hd) (fun q hq => c266 hq) h (fun x2 s1 h => ?_)
  refine Ev.iload_n H294 i294_9 rfl ?_
  refine Ev.iadd H294 i294_10 ?_
  refine Rd.iaload H294 i294_11 ar_513 h (fun h => ?_)
  exact Rd.ireturn H294 i294_12 rfl h
theorem i295_0 : mm_cd 295 0 = some (.aload_n 0, 1, 0, 0) := rfl
theorem i295_1 : mm_cd 295 1 = some (.iconst 0, 1, 0, 0) := rfl
theorem i295_2 : mm_cd 295 2 = some (.putfield 3, 3, ((11 : Nat) : Int), 0) := rfl
theorem i295_5 : mm_cd 295 5 = some (.aload_n 0, 1, 0, 0) := rfl
theorem i295_6 : mm_cd 295 6 = some (.iload_n 2, 1, 0, 0) := rfl
theorem i295_7 : mm_cd 295 7 = some (.iconst 0, 1, 0, 0) := rfl
theorem i295_8 : mm_cd 295 8 = some (.iconst 3, 1, 0, 0) := rfl
theorem i295_9 : mm_cd 295 9 = some (.invokestatic 371, 3, 0, 189) := rfl
theorem i295_12 : mm_cd 295 12 = some (.ifCond .ne 7, 3, 0, 0) := rfl
theorem i295_15 : mm_cd 295 15 = some (.iconst 1, 1, 0, 0) := rfl
theorem i295_16 : mm_cd 295 16 = some (.goto 4, 3, 0, 0) := rfl
theorem i295_19 : mm_cd 295 19 = some (.iconst 0, 1, 0, 0) := rfl
theorem i295_20 : mm_cd 295 20 = some (.iconst 1, 1, 0, 0) := rfl
theorem i295_21 : mm_cd 295 21 = some (.invokevirtual 249, 3, 0, 188) := rfl
theorem i295_24 : mm_cd 295 24 = some (.ifCond .eq 5, 3, 0, 0) := rfl
theorem i295_27 : mm_cd 295 27 = some (.iconst 0, 1, 0, 0) := rfl
theorem i295_28 : mm_cd 295 28 = some (.ireturn, 1, 0, 0) := rfl
theorem i295_29 : mm_cd 295 29 = some (.iload_n 1, 1, 0, 0) := rfl
theorem i295_30 : mm_cd 295 30 = some (.iconst 0, 1, 0, 0) := rfl
theorem i295_31 : mm_cd 295 31 = some (.aload_n 0, 1, 0, 0) := rfl
theorem i295_32 : mm_cd 295 32 = some (.getfield 13, 3, ((11 : Nat) : Int), 1) := rfl
theorem i295_35 : mm_cd 295 35 = some (.bipush 7, 2, 0, 0) := rfl
theorem i295_37 : mm_cd 295 37 = some (.iaload, 1, 0, 0) := rfl
theorem i295_38 : mm_cd 295 38 = some (.iconst 1, 1, 0, 0) := rfl
theorem i295_39 : mm_cd 295 39 = some (.isub, 1, 0, 0) := rfl
theorem i295_40 : mm_cd 295 40 = some (.invokestatic 371, 3, 0, 189) := rfl
theorem i295_43 : mm_cd 295 43 = some (.ifCond .eq 12, 3, 0, 0) := rfl
theorem i295_46 : mm_cd 295 46 = some (.aload_n 0, 1, 0, 0) := rfl
theorem i295_47 : mm_cd 295 47 = some (.iload_n 1, 1, 0, 0) := rfl
theorem i295_48 : mm_cd 295 48 = some (.iload_n 2, 1, 0, 0) := rfl
theorem i295_49 : mm_cd 295 49 = some (.invokevirtual 410, 3, 0, 294) := rfl
theorem i295_52 : mm_cd 295 52 = some (.goto 4, 3, 0, 0) := rfl
theorem i295_55 : mm_cd 295 55 = some (.iconst (-1), 1, 0, 0) := rfl
theorem i295_56 : mm_cd 295 56 = some (.ireturn, 1, 0, 0) := rfl
def q295_20 (v1 : Int32) (v2 : Int32) (y1 : Int32) (s : mS) : Option mQ := bN (q188 y1 (1 : Int32) s) fun x2 s1 => if x2 = 0 then (gA 2468 (7 : Int32) <| bN (q189 v1 (0 : Int32) ((s1.1 513 (7 : Int32).toNatClampNeg) - (1 : Int32)) s1) fun x4 s3 => if x4 = 0 then (rv (-1 : Int32) s3) else (bN (q294 v1 v2 s3) fun x6 s5 => rv x6 s5)) else (rv (0 : Int32) s1)
theorem t295_20 {L : Nat} {xs : Nat → Int32} {d : Nat} (hd : 2 ≤ d) {v1 : Int32} {v2 : Int32} {y1 : Int32} {s : mS} {r : mQ} (h : q295_20 v1 v2 y1 s = some r) : Ev L xs d 295 20 [(0, .ref 512), (1, .int v1), (2, .int v2)] [.int y1, .ref 512] (hp s) (hr r) := by
  unfold q295_20 at h
  refine Ev.iconst H295 i295_20 kI_1 ?_
  refine Rd.cV2vN H295 i295_21 cal188 ob11 (Nat.le_of_ble_eq_true rfl) (Nat.le_of_ble_eq_true rfl) (Nat.lt_of_lt_of_le (by decide) hd) (fun q hq => c188 hq) h (fun x2 s1 h => ?_)
  refine Rd.if_eq H295 i295_24 (t := 29) (by decide) h (fun hc h => ?_) (fun hc h => ?_)
  · refine Ev.iload_n H295 i295_29 rfl ?_
    refine Ev.iconst H295 i295_30 kI_0 ?_
    refine Ev.aload_n H295 i295_31 rfl ?_
    refine Rd.getR H295 i295_32 ob11 rfl ?_
    refine Ev.bipush H295 i295_35 kB_7 ?_
    refine Rd.iaload H295 i295_37 ar_513 h (fun h => ?_)
    refine Ev.iconst H295 i295_38 kI_1 ?_
    refine Ev.isub H295 i295_39 ?_
    refine Rd.cS3vN H295 i295_40 cal189 (Nat.le_of_ble_eq_true rfl) (Nat.le_of_ble_eq_true rfl) (Nat.lt_of_lt_of_le (by decide) hd) (fun q hq => c189 hq) h (fun x4 s3 h => ?_)
    refine Rd.if_eq H295 i295_43 (t := 55) (by decide) h (fun hc h => ?_) (fun hc h => ?_)
    · refine Ev.iconst H295 i295_55 kI_m1 ?_
      exact Rd.ireturn H295 i295_56 rfl h
    · refine Ev.aload_n H295 i295_46 rfl ?_
      refine Ev.iload_n H295 i295_47 rfl ?_
      refine Ev.iload_n H295 i295_48 rfl ?_
      refine Rd.cV2vN H295 i295_49 cal294 ob11 (Nat.le_of_ble_eq_true rfl) (Nat.le_of_ble_eq_true rfl) (Nat.lt_of_lt_of_le (by decide) hd) (fun q hq => c294 hq) h (fun x6 s5 h => ?_)
      refine Ev.goto H295 i295_52 (t := 56) (by decide) ?_
      exact Rd.ireturn H295 i295_56 rfl h
  · refine Ev.iconst H295 i295_27 kI_0 ?_
    exact Rd.ireturn H295 i295_28 rfl h
/-- SerialGateModel.history(II)I -/
def q295 (v1 : Int32) (v2 : Int32) (s : mS) : Option mQ := sp (sI s 512 0 (0 : Int32)) fun s7 => bN (q189 v2 (0 : Int32) (3 : Int32) s7) fun x9 s8 => if ¬ x9 = 0 then (q295_20 v1 v2 (0 : Int32) s8) else (q295_20 v1 v2 (1 : Int32) s8)
theorem c295 {L : Nat} {xs : Nat → Int32} {v1 : Int32} {v2 : Int32} {s : mS} {r : mQ} (h : q295 v1 v2 s = some r) : ∀ d, 2 ≤ d → Cl L xs d 295 [.ref 512, .int v1, .int v2] (hp s) (hr r) := by
  intro d hd
  show Ev L xs d 295 0 [(0, .ref 512), (1, .int v1), (2, .int v2)] [] (hp s) (hr r)
  unfold q295 at h
  refine Ev.aload_n H295 i295_0 rfl ?_
  refine Ev.iconst H295 i295_1 kI_0 ?_
  refine Rd.putI H295 i295_2 ob11 rfl ty11_0.1 ty11_0.2 h (fun s7 h => ?_)
  refine Ev.aload_n H295 i295_5 rfl ?_
  refine Ev.iload_n H295 i295_6 rfl ?_
  refine Ev.iconst H295 i295_7 kI_0 ?_
  refine Ev.iconst H295 i295_8 kI_3 ?_
  refine Rd.cS3vN H295 i295_9 cal189 (Nat.le_of_ble_eq_true rfl) (Nat.le_of_ble_eq_true rfl) (Nat.lt_of_lt_of_le (by decide) hd) (fun q hq => c189 hq) h (fun x9 s8 h => ?_)
  refine Rd.if_ne H295 i295_12 (t := 19) (by decide) h (fun hc h => ?_) (fun hc h => ?_)
  · refine Ev.iconst H295 i295_19 kI_0 ?_
    exact Ev.sub (l := [(0, .ref 512), (1, .int v1), (2, .int v2)]) rfl rfl (mm_sub_c rfl (mm_sub_c rfl (mm_sub_c rfl mm_sub_n))) (t295_20 hd h)
  · refine Ev.iconst H295 i295_15 kI_1 ?_
    refine Ev.goto H295 i295_16 (t := 20) (by decide) ?_
    exact Ev.sub (l := [(0, .ref 512), (1, .int v1), (2, .int v2)]) rfl rfl (mm_sub_c rfl (mm_sub_c rfl (mm_sub_c rfl mm_sub_n))) (t295_20 hd h)
theorem i296_0 : mm_cd 296 0 = some (.aload_n 0, 1, 0, 0) := rfl
theorem i296_1 : mm_cd 296 1 = some (.iload_n 1, 1, 0, 0) := rfl
theorem i296_2 : mm_cd 296 2 = some (.iload_n 3, 1, 0, 0) := rfl
theorem i296_3 : mm_cd 296 3 = some (.ifCond .eq 7, 3, 0, 0) := rfl
theorem i296_6 : mm_cd 296 6 = some (.iconst 3, 1, 0, 0) := rfl
theorem i296_7 : mm_cd 296 7 = some (.goto 4, 3, 0, 0) := rfl
theorem i296_10 : mm_cd 296 10 = some (.iconst 2, 1, 0, 0) := rfl
theorem i296_11 : mm_cd 296 11 = some (.invokevirtual 410, 3, 0, 294) := rfl
theorem i296_14 : mm_cd 296 14 = some (.iload_n 2, 1, 0, 0) := rfl
theorem i296_15 : mm_cd 296 15 = some (.invokestatic 79, 3, 0, 190) := rfl
theorem i296_18 : mm_cd 296 18 = some (.ifCond .ne 5, 3, 0, 0) := rfl
theorem i296_21 : mm_cd 296 21 = some (.iconst (-1), 1, 0, 0) := rfl
theorem i296_22 : mm_cd 296 22 = some (.ireturn, 1, 0, 0) := rfl
theorem i296_23 : mm_cd 296 23 = some (.aload_n 0, 1, 0, 0) := rfl
theorem i296_24 : mm_cd 296 24 = some (.iload_n 1, 1, 0, 0) := rfl
theorem i296_25 : mm_cd 296 25 = some (.iload_n 3, 1, 0, 0) := rfl
theorem i296_26 : mm_cd 296 26 = some (.ifCond .eq 8, 3, 0, 0) := rfl
theorem i296_29 : mm_cd 296 29 = some (.bipush 14, 2, 0, 0) := rfl
theorem i296_31 : mm_cd 296 31 = some (.goto 4, 3, 0, 0) := rfl
theorem i296_34 : mm_cd 296 34 = some (.iconst 4, 1, 0, 0) := rfl
theorem i296_35 : mm_cd 296 35 = some (.iload_n 2, 1, 0, 0) := rfl
theorem i296_36 : mm_cd 296 36 = some (.iadd, 1, 0, 0) := rfl
theorem i296_37 : mm_cd 296 37 = some (.invokevirtual 410, 3, 0, 294) := rfl
theorem i296_40 : mm_cd 296 40 = some (.ireturn, 1, 0, 0) := rfl
def q296_35 (v2 : Int32) (y1 : Int32) (y2 : Int32) (s : mS) : Option mQ := bN (q294 y1 (y2 + v2) s) fun x2 s1 => rv x2 s1
theorem t296_35 {L : Nat} {xs : Nat → Int32} {d : Nat} (hd : 2 ≤ d) {v2 : Int32} {y1 : Int32} {y2 : Int32} {s : mS} {r : mQ} (h : q296_35 v2 y1 y2 s = some r) : Ev L xs d 296 35 [(2, .int v2)] [.int y2, .int y1, .ref 512] (hp s) (hr r) := by
  unfold q296_35 at h
  refine Ev.iload_n H296 i296_35 rfl ?_
  refine Ev.iadd H296 i296_36 ?_
  refine Rd.cV2vN H296 i296_37 cal294 ob11 (Nat.le_of_ble_eq_true rfl) (Nat.le_of_ble_eq_true rfl) (Nat.lt_of_lt_of_le (by decide) hd) (fun q hq => c294 hq) h (fun x2 s1 h => ?_)
  exact Rd.ireturn H296 i296_40 rfl h
def q296_11 (v1 : Int32) (v2 : Int32) (v3 : Int32) (y1 : Int32) (y2 : Int32) (s : mS) : Option mQ := bN (q294 y1 y2 s) fun x4 s3 => bN (q190 x4 v2 s3) fun x6 s5 => if ¬ x6 = 0 then (if v3 = 0 then (q296_35 v2 v1 (4 : Int32) s5) else (q296_35 v2 v1 (14 : Int32) s5)) else (rv (-1 : Int32) s5)
theorem t296_11 {L : Nat} {xs : Nat → Int32} {d : Nat} (hd : 2 ≤ d) {v1 : Int32} {v2 : Int32} {v3 : Int32} {y1 : Int32} {y2 : Int32} {s : mS} {r : mQ} (h : q296_11 v1 v2 v3 y1 y2 s = some r) : Ev L xs d 296 11 [(0, .ref 512), (1, .int v1), (2, .int v2), (3, .int v3)] [.int y2, .int y1, .ref 512] (hp s) (hr r) := by
  unfold q296_11 at h
  refine Rd.cV2vN H296 i296_11 cal294 ob11 (Nat.le_of_ble_eq_true rfl) (Nat.le_of_ble_eq_true rfl) (Nat.lt_of_lt_of_le (by decide) hd) (fun q hq => c294 hq) h (fun x4 s3 h => ?_)
  refine Ev.iload_n H296 i296_14 rfl ?_
  refine Rd.cS2vN H296 i296_15 cal190 (Nat.le_of_ble_eq_true rfl) (Nat.le_of_ble_eq_true rfl) (Nat.lt_of_lt_of_le (by decide) hd) (fun q hq => c190 hq) h (fun x6 s5 h => ?_)
  refine Rd.if_ne H296 i296_18 (t := 23) (by decide) h (fun hc h => ?_) (fun hc h => ?_)
  · refine Ev.aload_n H296 i296_23 rfl ?_
    refine Ev.iload_n H296 i296_24 rfl ?_
    refine Ev.iload_n H296 i296_25 rfl ?_
    refine Rd.if_eq H296 i296_26 (t := 34) (by decide) h (fun hc h => ?_) (fun hc h => ?_)
    · refine Ev.iconst H296 i296_34 kI_4 ?_
      exact Ev.sub (l := [(2, .int v2)]) rfl rfl (mm_sub_c rfl mm_sub_n) (t296_35 hd h)
    · refine Ev.bipush H296 i296_29 kB_14 ?_
      refine Ev.goto H296 i296_31 (t := 35) (by decide) ?_
      exact Ev.sub (l := [(2, .int v2)]) rfl rfl (mm_sub_c rfl mm_sub_n) (t296_35 hd h)
  · refine Ev.iconst H296 i296_21 kI_m1 ?_
    exact Rd.ireturn H296 i296_22 rfl h
/-- SerialGateModel.versionIn(IIZ)I -/
def q296 (v1 : Int32) (v2 : Int32) (v3 : Int32) (s : mS) : Option mQ := if v3 = 0 then (q296_11 v1 v2 v3 v1 (2 : Int32) s) else (q296_11 v1 v2 v3 v1 (3 : Int32) s)
theorem c296 {L : Nat} {xs : Nat → Int32} {v1 : Int32} {v2 : Int32} {v3 : Int32} {s : mS} {r : mQ} (h : q296 v1 v2 v3 s = some r) : ∀ d, 2 ≤ d → Cl L xs d 296 [.ref 512, .int v1, .int v2, .int v3] (hp s) (hr r) := by
  intro d hd
  show Ev L xs d 296 0 [(0, .ref 512), (1, .int v1), (2, .int v2), (3, .int v3)] [] (hp s) (hr r)
  unfold q296 at h
  refine Ev.aload_n H296 i296_0 rfl ?_
  refine Ev.iload_n H296 i296_1 rfl ?_
  refine Ev.iload_n H296 i296_2 rfl ?_
  refine Rd.if_eq H296 i296_3 (t := 10) (by decide) h (fun hc h => ?_) (fun hc h => ?_)
  · refine Ev.iconst H296 i296_10 kI_2 ?_
    exact Ev.sub (l := [(0, .ref 512), (1, .int v1), (2, .int v2), (3, .int v3)]) rfl rfl (mm_sub_c rfl (mm_sub_c rfl (mm_sub_c rfl (mm_sub_c rfl mm_sub_n)))) (t296_11 hd h)
  · refine Ev.iconst H296 i296_6 kI_3 ?_
    refine Ev.goto H296 i296_7 (t := 11) (by decide) ?_
    exact Ev.sub (l := [(0, .ref 512), (1, .int v1), (2, .int v2), (3, .int v3)]) rfl rfl (mm_sub_c rfl (mm_sub_c rfl (mm_sub_c rfl (mm_sub_c rfl mm_sub_n)))) (t296_11 hd h)
theorem i297_0 : mm_cd 297 0 = some (.aload_n 0, 1, 0, 0) := rfl
theorem i297_1 : mm_cd 297 1 = some (.iconst 0, 1, 0, 0) := rfl
theorem i297_2 : mm_cd 297 2 = some (.putfield 3, 3, ((11 : Nat) : Int), 0) := rfl
theorem i297_5 : mm_cd 297 5 = some (.aload_n 0, 1, 0, 0) := rfl
theorem i297_6 : mm_cd 297 6 = some (.iload_n 2, 1, 0, 0) := rfl
theorem i297_7 : mm_cd 297 7 = some (.invokestatic 377, 3, 0, 274) := rfl
theorem i297_10 : mm_cd 297 10 = some (.iconst 1, 1, 0, 0) := rfl
theorem i297_11 : mm_cd 297 11 = some (.invokevirtual 249, 3, 0, 188) := rfl
theorem i297_14 : mm_cd 297 14 = some (.ifCond .eq 5, 3, 0, 0) := rfl
theorem i297_17 : mm_cd 297 17 = some (.iconst 0, 1, 0, 0) := rfl
theorem i297_18 : mm_cd 297 18 = some (.ireturn, 1, 0, 0) := rfl
theorem i297_19 : mm_cd 297 19 = some (.iload_n 1, 1, 0, 0) := rfl
theorem i297_20 : mm_cd 297 20 = some (.iconst 0, 1, 0, 0) := rfl
theorem i297_21 : mm_cd 297 21 = some (.aload_n 0, 1, 0, 0) := rfl
theorem i297_22 : mm_cd 297 22 = some (.getfield 13, 3, ((11 : Nat) : Int), 1) := rfl
theorem i297_25 : mm_cd 297 25 = some (.bipush 7, 2, 0, 0) := rfl
theorem i297_27 : mm_cd 297 27 = some (.iaload, 1, 0, 0) := rfl
theorem i297_28 : mm_cd 297 28 = some (.iconst 1, 1, 0, 0) := rfl
theorem i297_29 : mm_cd 297 29 = some (.isub, 1, 0, 0) := rfl
theorem i297_30 : mm_cd 297 30 = some (.invokestatic 371, 3, 0, 189) := rfl
theorem i297_33 : mm_cd 297 33 = some (.ifCond .eq 13, 3, 0, 0) := rfl
theorem i297_36 : mm_cd 297 36 = some (.aload_n 0, 1, 0, 0) := rfl
theorem i297_37 : mm_cd 297 37 = some (.iload_n 1, 1, 0, 0) := rfl
theorem i297_38 : mm_cd 297 38 = some (.iload_n 2, 1, 0, 0) := rfl
theorem i297_39 : mm_cd 297 39 = some (.iload_n 3, 1, 0, 0) := rfl
theorem i297_40 : mm_cd 297 40 = some (.invokevirtual 413, 3, 0, 296) := rfl
theorem i297_43 : mm_cd 297 43 = some (.goto 4, 3, 0, 0) := rfl
theorem i297_46 : mm_cd 297 46 = some (.iconst (-1), 1, 0, 0) := rfl
theorem i297_47 : mm_cd 297 47 = some (.ireturn, 1, 0, 0) := rfl
/-- SerialGateModel.version(IIZ)I -/
def q297 (v1 : Int32) (v2 : Int32) (v3 : Int32) (s : mS) : Option mQ := sp (sI s 512 0 (0 : Int32)) fun s1 => bN (q274 v2 s1) fun x3 s2 => bN (q188 x3 (1 : Int32) s2) fun x5 s4 => if x5 = 0 then (gA 2468 (7 : Int32) <| bN (q189 v1 (0 : Int32) ((s4.1 513 (7 : Int32).toNatClampNeg) - (1 : Int32)) s4) fun x7 s6 => if x7 = 0 then (rv (-1 : Int32) s6) else (bN (q296 v1 v2 v3 s6) fun x9 s8 => rv x9 s8)) else (rv (0 : Int32) s4)
theorem c297 {L : Nat} {xs : Nat → Int32} {v1 : Int32} {v2 : Int32} {v3 : Int32} {s : mS} {r : mQ} (h : q297 v1 v2 v3 s = some r) : ∀ d, 3 ≤ d → Cl L xs d 297 [.ref 512, .int v1, .int v2, .int v3] (hp s) (hr r) := by
  intro d hd
  show Ev L xs d 297 0 [(0, .ref 512), (1, .int v1), (2, .int v2), (3, .int v3)] [] (hp s) (hr r)
  unfold q297 at h
  refine Ev.aload_n H297 i297_0 rfl ?_
  refine Ev.iconst H297 i297_1 kI_0 ?_
  refine Rd.putI H297 i297_2 ob11 rfl ty11_0.1 ty11_0.2 h (fun s1 h => ?_)
  refine Ev.aload_n H297 i297_5 rfl ?_
  refine Ev.iload_n H297 i297_6 rfl ?_
  refine Rd.cS1vN H297 i297_7 cal274 (Nat.le_of_ble_eq_true rfl) (Nat.le_of_ble_eq_true rfl) (Nat.lt_of_lt_of_le (by decide) hd) (fun q hq => c274 hq) h (fun x3 s2 h => ?_)
  refine Ev.iconst H297 i297_10 kI_1 ?_
  refine Rd.cV2vN H297 i297_11 cal188 ob11 (Nat.le_of_ble_eq_true rfl) (Nat.le_of_ble_eq_true rfl) (Nat.lt_of_lt_of_le (by decide) hd) (fun q hq => c188 hq) h (fun x5 s4 h => ?_)
  refine Rd.if_eq H297 i297_14 (t := 19) (by decide) h (fun hc h => ?_) (fun hc h => ?_)
  · refine Ev.iload_n H297 i297_19 rfl ?_
    refine Ev.iconst H297 i297_20 kI_0 ?_
    refine Ev.aload_n H297 i297_21 rfl ?_
    refine Rd.getR H297 i297_22 ob11 rfl ?_
    refine Ev.bipush H297 i297_25 kB_7 ?_
    refine Rd.iaload H297 i297_27 ar_513 h (fun h => ?_)
    refine Ev.iconst H297 i297_28 kI_1 ?_
    refine Ev.isub H297 i297_29 ?_
    refine Rd.cS3vN H297 i297_30 cal189 (Nat.le_of_ble_eq_true rfl) (Nat.le_of_ble_eq_true rfl) (Nat.lt_of_lt_of_le (by decide) hd) (fun q hq => c189 hq) h (fun x7 s6 h => ?_)
    refine Rd.if_eq H297 i297_33 (t := 46) (by decide) h (fun hc h => ?_) (fun hc h => ?_)
    · refine Ev.iconst H297 i297_46 kI_m1 ?_
      exact Rd.ireturn H297 i297_47 rfl h
    · refine Ev.aload_n H297 i297_36 rfl ?_
      refine Ev.iload_n H297 i297_37 rfl ?_
      refine Ev.iload_n H297 i297_38 rfl ?_
      refine Ev.iload_n H297 i297_39 rfl ?_
      refine Rd.cV3vN H297 i297_40 cal296 ob11 (Nat.le_of_ble_eq_true rfl) (Nat.le_of_ble_eq_true rfl) (Nat.lt_of_lt_of_le (by decide) hd) (fun q hq => c296 hq) h (fun x9 s8 h => ?_)
      refine Ev.goto H297 i297_43 (t := 47) (by decide) ?_
      exact Rd.ireturn H297 i297_47 rfl h
  · refine Ev.iconst H297 i297_17 kI_0 ?_
    exact Rd.ireturn H297 i297_18 rfl h
theorem i298_0 : mm_cd 298 0 = some (.iconst 0, 1, 0, 0) := rfl
theorem i298_1 : mm_cd 298 1 = some (.istore_n 3, 1, 0, 0) := rfl
theorem i298_2 : mm_cd 298 2 = some (.iconst 0, 1, 0, 0) := rfl
theorem i298_3 : mm_cd 298 3 = some (.istore 4, 2, 0, 0) := rfl
theorem i298_5 : mm_cd 298 5 = some (.iload 4, 2, 0, 0) := rfl
theorem i298_7 : mm_cd 298 7 = some (.bipush 10, 2, 0, 0) := rfl
theorem i298_9 : mm_cd 298 9 = some (.if_icmp .ge 98, 3, 0, 0) := rfl
theorem i298_12 : mm_cd 298 12 = some (.iload_n 3, 1, 0, 0) := rfl
theorem i298_13 : mm_cd 298 13 = some (.ifCond .ne 94, 3, 0, 0) := rfl
theorem i298_16 : mm_cd 298 16 = some (.aload_n 0, 1, 0, 0) := rfl
theorem i298_17 : mm_cd 298 17 = some (.iload_n 1, 1, 0, 0) := rfl
theorem i298_18 : mm_cd 298 18 = some (.iload 4, 2, 0, 0) := rfl
theorem i298_20 : mm_cd 298 20 = some (.iconst 1, 1, 0, 0) := rfl
theorem i298_21 : mm_cd 298 21 = some (.invokevirtual 413, 3, 0, 296) := rfl
theorem i298_24 : mm_cd 298 24 = some (.istore 5, 2, 0, 0) := rfl
theorem i298_26 : mm_cd 298 26 = some (.aload_n 0, 1, 0, 0) := rfl
theorem i298_27 : mm_cd 298 27 = some (.iload_n 1, 1, 0, 0) := rfl
theorem i298_28 : mm_cd 298 28 = some (.iload 4, 2, 0, 0) := rfl
theorem i298_30 : mm_cd 298 30 = some (.iconst 0, 1, 0, 0) := rfl
theorem i298_31 : mm_cd 298 31 = some (.invokevirtual 413, 3, 0, 296) := rfl
theorem i298_34 : mm_cd 298 34 = some (.istore 6, 2, 0, 0) := rfl
theorem i298_36 : mm_cd 298 36 = some (.aload_n 0, 1, 0, 0) := rfl
theorem i298_37 : mm_cd 298 37 = some (.iload_n 2, 1, 0, 0) := rfl
theorem i298_38 : mm_cd 298 38 = some (.iload 4, 2, 0, 0) := rfl
theorem i298_40 : mm_cd 298 40 = some (.iconst 1, 1, 0, 0) := rfl
theorem i298_41 : mm_cd 298 41 = some (.invokevirtual 413, 3, 0, 296) := rfl
theorem i298_44 : mm_cd 298 44 = some (.istore 7, 2, 0, 0) := rfl
theorem i298_46 : mm_cd 298 46 = some (.aload_n 0, 1, 0, 0) := rfl
theorem i298_47 : mm_cd 298 47 = some (.iload_n 2, 1, 0, 0) := rfl
theorem i298_48 : mm_cd 298 48 = some (.iload 4, 2, 0, 0) := rfl
theorem i298_50 : mm_cd 298 50 = some (.iconst 0, 1, 0, 0) := rfl
theorem i298_51 : mm_cd 298 51 = some (.invokevirtual 413, 3, 0, 296) := rfl
theorem i298_54 : mm_cd 298 54 = some (.istore 8, 2, 0, 0) := rfl
theorem i298_56 : mm_cd 298 56 = some (.iload 5, 2, 0, 0) := rfl
theorem i298_58 : mm_cd 298 58 = some (.iconst (-1), 1, 0, 0) := rfl
theorem i298_59 : mm_cd 298 59 = some (.if_icmp .eq 10, 3, 0, 0) := rfl
theorem i298_62 : mm_cd 298 62 = some (.iload 8, 2, 0, 0) := rfl
theorem i298_64 : mm_cd 298 64 = some (.iload 5, 2, 0, 0) := rfl
theorem i298_66 : mm_cd 298 66 = some (.if_icmp .ge 29, 3, 0, 0) := rfl
theorem i298_69 : mm_cd 298 69 = some (.iload 6, 2, 0, 0) := rfl
theorem i298_71 : mm_cd 298 71 = some (.iconst (-1), 1, 0, 0) := rfl
theorem i298_72 : mm_cd 298 72 = some (.if_icmp .eq 10, 3, 0, 0) := rfl
theorem i298_75 : mm_cd 298 75 = some (.iload 7, 2, 0, 0) := rfl
theorem i298_77 : mm_cd 298 77 = some (.iload 6, 2, 0, 0) := rfl
theorem i298_79 : mm_cd 298 79 = some (.if_icmp .gt 16, 3, 0, 0) := rfl
theorem i298_82 : mm_cd 298 82 = some (.iload 5, 2, 0, 0) := rfl
theorem i298_84 : mm_cd 298 84 = some (.iconst (-1), 1, 0, 0) := rfl
theorem i298_85 : mm_cd 298 85 = some (.if_icmp .eq 14, 3, 0, 0) := rfl
theorem i298_88 : mm_cd 298 88 = some (.iload 7, 2, 0, 0) := rfl
theorem i298_90 : mm_cd 298 90 = some (.iload 5, 2, 0, 0) := rfl
theorem i298_92 : mm_cd 298 92 = some (.if_icmp .le 7, 3, 0, 0) := rfl
theorem i298_95 : mm_cd 298 95 = some (.iconst 1, 1, 0, 0) := rfl
theorem i298_96 : mm_cd 298 96 = some (.goto 4, 3, 0, 0) := rfl
theorem i298_99 : mm_cd 298 99 = some (.iconst 0, 1, 0, 0) := rfl
theorem i298_100 : mm_cd 298 100 = some (.istore_n 3, 1, 0, 0) := rfl
theorem i298_101 : mm_cd 298 101 = some (.iinc 4 1, 3, 0, 0) := rfl
theorem i298_104 : mm_cd 298 104 = some (.goto (-99), 3, 0, 0) := rfl
theorem i298_107 : mm_cd 298 107 = some (.iload_n 1, 1, 0, 0) := rfl
theorem i298_108 : mm_cd 298 108 = some (.iload_n 2, 1, 0, 0) := rfl
theorem i298_109 : mm_cd 298 109 = some (.if_icmp .eq 11, 3, 0, 0) := rfl
theorem i298_112 : mm_cd 298 112 = some (.iload_n 3, 1, 0, 0) := rfl
theorem i298_113 : mm_cd 298 113 = some (.ifCond .eq 7, 3, 0, 0) := rfl
theorem i298_116 : mm_cd 298 116 = some (.iconst 1, 1, 0, 0) := rfl
theorem i298_117 : mm_cd 298 117 = some (.goto 4, 3, 0, 0) := rfl
theorem i298_120 : mm_cd 298 120 = some (.iconst 0, 1, 0, 0) := rfl
theorem i298_121 : mm_cd 298 121 = some (.ireturn, 1, 0, 0) := rfl
def q298_100 (k5 : Int32 → Int32 → Int32 → Int32 → mS → Option mQ) (v1 : Int32) (v2 : Int32) (v4 : Int32) (y0 : Int32) (s : mS) : Option mQ := bx (v4 + (1 : Int32)) fun x1 => k5 v1 v2 y0 x1 s
theorem t298_100 {L : Nat} {xs : Nat → Int32} {d : Nat} {k5 : Int32 → Int32 → Int32 → Int32 → mS → Option mQ} (hk5 : ∀ (v1 : Int32) (v2 : Int32) (v3 : Int32) (v4 : Int32) (s : mS) (r : mQ), k5 v1 v2 v3 v4 s = some r → Ev L xs d 298 5 [(0, .ref 512), (1, .int v1), (2, .int v2), (3, .int v3), (4, .int v4)] [] (hp s) (hr r)) (hd : 3 ≤ d) {v1 : Int32} {v2 : Int32} {v4 : Int32} {y0 : Int32} {s : mS} {r : mQ} (h : q298_100 k5 v1 v2 v4 y0 s = some r) : Ev L xs d 298 100 [(0, .ref 512), (1, .int v1), (2, .int v2), (4, .int v4)] [.int y0] (hp s) (hr r) := by
  unfold q298_100 at h
  refine Ev.istore_n H298 i298_100 (Nat.le_of_ble_eq_true rfl) (lv2 := [(3, .int y0), (0, .ref 512), (1, .int v1), (2, .int v2), (4, .int v4)]) rfl ?_
  refine Rd.iinc H298 i298_101 (Nat.le_of_ble_eq_true rfl) rfl kI_1 (lv2 := fun x1 => [(4, .int x1), (3, .int y0), (0, .ref 512), (1, .int v1), (2, .int v2)]) (fun _ => rfl) h (fun x1 h => ?_)
  refine Ev.goto H298 i298_104 (t := 5) (by decide) ?_
  exact Ev.sub (l := [(0, .ref 512), (1, .int v1), (2, .int v2), (3, .int y0), (4, .int x1)]) rfl rfl (mm_sub_c rfl (mm_sub_c rfl (mm_sub_c rfl (mm_sub_c rfl (mm_sub_c rfl mm_sub_n))))) (hk5 _ _ _ _ _ _ h)
def q298_99 (k5 : Int32 → Int32 → Int32 → Int32 → mS → Option mQ) (v1 : Int32) (v2 : Int32) (v4 : Int32) (s : mS) : Option mQ := q298_100 k5 v1 v2 v4 (0 : Int32) s
theorem t298_99 {L : Nat} {xs : Nat → Int32} {d : Nat} {k5 : Int32 → Int32 → Int32 → Int32 → mS → Option mQ} (hk5 : ∀ (v1 : Int32) (v2 : Int32) (v3 : Int32) (v4 : Int32) (s : mS) (r : mQ), k5 v1 v2 v3 v4 s = some r → Ev L xs d 298 5 [(0, .ref 512), (1, .int v1), (2, .int v2), (3, .int v3), (4, .int v4)] [] (hp s) (hr r)) (hd : 3 ≤ d) {v1 : Int32} {v2 : Int32} {v4 : Int32} {s : mS} {r : mQ} (h : q298_99 k5 v1 v2 v4 s = some r) : Ev L xs d 298 99 [(0, .ref 512), (1, .int v1), (2, .int v2), (4, .int v4)] [] (hp s) (hr r) := by
  unfold q298_99 at h
  refine Ev.iconst H298 i298_99 kI_0 ?_
  exact Ev.sub (l := [(0, .ref 512), (1, .int v1), (2, .int v2), (4, .int v4)]) rfl rfl (mm_sub_c rfl (mm_sub_c rfl (mm_sub_c rfl (mm_sub_c rfl mm_sub_n)))) (t298_100 (k5 := k5) hk5 hd h)
def q298_95 (k5 : Int32 → Int32 → Int32 → Int32 → mS → Option mQ) (v1 : Int32) (v2 : Int32) (v4 : Int32) (s : mS) : Option mQ := q298_100 k5 v1 v2 v4 (1 : Int32) s
theorem t298_95 {L : Nat} {xs : Nat → Int32} {d : Nat} {k5 : Int32 → Int32 → Int32 → Int32 → mS → Option mQ} (hk5 : ∀ (v1 : Int32) (v2 : Int32) (v3 : Int32) (v4 : Int32) (s : mS) (r : mQ), k5 v1 v2 v3 v4 s = some r → Ev L xs d 298 5 [(0, .ref 512), (1, .int v1), (2, .int v2), (3, .int v3), (4, .int v4)] [] (hp s) (hr r)) (hd : 3 ≤ d) {v1 : Int32} {v2 : Int32} {v4 : Int32} {s : mS} {r : mQ} (h : q298_95 k5 v1 v2 v4 s = some r) : Ev L xs d 298 95 [(0, .ref 512), (1, .int v1), (2, .int v2), (4, .int v4)] [] (hp s) (hr r) := by
  unfold q298_95 at h
  refine Ev.iconst H298 i298_95 kI_1 ?_
  refine Ev.goto H298 i298_96 (t := 100) (by decide) ?_
  exact Ev.sub (l := [(0, .ref 512), (1, .int v1), (2, .int v2), (4, .int v4)]) rfl rfl (mm_sub_c rfl (mm_sub_c rfl (mm_sub_c rfl (mm_sub_c rfl mm_sub_n)))) (t298_100 (k5 := k5) hk5 hd h)
def q298_82 (k5 : Int32 → Int32 → Int32 → Int32 → mS → Option mQ) (v1 : Int32) (v2 : Int32) (v4 : Int32) (v5 : Int32) (v7 : Int32) (s : mS) : Option mQ := if v5 = (-1 : Int32) then (q298_99 k5 v1 v2 v4 s) else (if v7 ≤ v5 then (q298_99 k5 v1 v2 v4 s) else (q298_95 k5 v1 v2 v4 s))
theorem t298_82 {L : Nat} {xs : Nat → Int32} {d : Nat} {k5 : Int32 → Int32 → Int32 → Int32 → mS → Option mQ} (hk5 : ∀ (v1 : Int32) (v2 : Int32) (v3 : Int32) (v4 : Int32) (s : mS) (r : mQ), k5 v1 v2 v3 v4 s = some r → Ev L xs d 298 5 [(0, .ref 512), (1, .int v1), (2, .int v2), (3, .int v3), (4, .int v4)] [] (hp s) (hr r)) (hd : 3 ≤ d) {v1 : Int32} {v2 : Int32} {v4 : Int32} {v5 : Int32} {v7 : Int32} {s : mS} {r : mQ} (h : q298_82 k5 v1 v2 v4 v5 v7 s = some r) : Ev L xs d 298 82 [(0, .ref 512), (1, .int v1), (2, .int v2), (4, .int v4), (5, .int v5), (7, .int v7)] [] (hp s) (hr r) := by
  unfold q298_82 at h
  refine Ev.iload H298 i298_82 rfl ?_
  refine Ev.iconst H298 i298_84 kI_m1 ?_
  refine Rd.ic_eq H298 i298_85 (t := 99) (by decide) h (fun hc h => ?_) (fun hc h => ?_)
  · exact Ev.sub (l := [(0, .ref 512), (1, .int v1), (2, .int v2), (4, .int v4)]) rfl rfl (mm_sub_c rfl (mm_sub_c rfl (mm_sub_c rfl (mm_sub_c rfl mm_sub_n)))) (t298_99 (k5 := k5) hk5 hd h)
  · refine Ev.iload H298 i298_88 rfl ?_
    refine Ev.iload H298 i298_90 rfl ?_
    refine Rd.ic_le H298 i298_92 (t := 99) (by decide) h (fun hc h => ?_) (fun hc h => ?_)
    · exact Ev.sub (l := [(0, .ref 512), (1, .int v1), (2, .int v2), (4, .int v4)]) rfl rfl (mm_sub_c rfl (mm_sub_c rfl (mm_sub_c rfl (mm_sub_c rfl mm_sub_n)))) (t298_99 (k5 := k5) hk5 hd h)
    · exact Ev.sub (l := [(0, .ref 512), (1, .int v1), (2, .int v2), (4, .int v4)]) rfl rfl (mm_sub_c rfl (mm_sub_c rfl (mm_sub_c rfl (mm_sub_c rfl mm_sub_n)))) (t298_95 (k5 := k5) hk5 hd h)
def q298_69 (k5 : Int32 → Int32 → Int32 → Int32 → mS → Option mQ) (v1 : Int32) (v2 : Int32) (v4 : Int32) (v5 : Int32) (v6 : Int32) (v7 : Int32) (s : mS) : Option mQ := if v6 = (-1 : Int32) then (q298_82 k5 v1 v2 v4 v5 v7 s) else (if v6 < v7 then (q298_95 k5 v1 v2 v4 s) else (q298_82 k5 v1 v2 v4 v5 v7 s))
theorem t298_69 {L : Nat} {xs : Nat → Int32} {d : Nat} {k5 : Int32 → Int32 → Int32 → Int32 → mS → Option mQ} (hk5 : ∀ (v1 : Int32) (v2 : Int32) (v3 : Int32) (v4 : Int32) (s : mS) (r : mQ), k5 v1 v2 v3 v4 s = some r → Ev L xs d 298 5 [(0, .ref 512), (1, .int v1), (2, .int v2), (3, .int v3), (4, .int v4)] [] (hp s) (hr r)) (hd : 3 ≤ d) {v1 : Int32} {v2 : Int32} {v4 : Int32} {v5 : Int32} {v6 : Int32} {v7 : Int32} {s : mS} {r : mQ} (h : q298_69 k5 v1 v2 v4 v5 v6 v7 s = some r) : Ev L xs d 298 69 [(0, .ref 512), (1, .int v1), (2, .int v2), (4, .int v4), (5, .int v5), (6, .int v6), (7, .int v7)] [] (hp s) (hr r) := by
  unfold q298_69 at h
  refine Ev.iload H298 i298_69 rfl ?_
  refine Ev.iconst H298 i298_71 kI_m1 ?_
  refine Rd.ic_eq H298 i298_72 (t := 82) (by decide) h (fun hc h => ?_) (fun hc h => ?_)
  · exact Ev.sub (l := [(0, .ref 512), (1, .int v1), (2, .int v2), (4, .int v4), (5, .int v5), (7, .int v7)]) rfl rfl (mm_sub_c rfl (mm_sub_c rfl (mm_sub_c rfl (mm_sub_c rfl (mm_sub_c rfl (mm_sub_c rfl mm_sub_n)))))) (t298_82 (k5 := k5) hk5 hd h)
  · refine Ev.iload H298 i298_75 rfl ?_
    refine Ev.iload H298 i298_77 rfl ?_
    refine Rd.ic_gt H298 i298_79 (t := 95) (by decide) h (fun hc h => ?_) (fun hc h => ?_)
    · exact Ev.sub (l := [(0, .ref 512), (1, .int v1), (2, .int v2), (4, .int v4)]) rfl rfl (mm_sub_c rfl (mm_sub_c rfl (mm_sub_c rfl (mm_sub_c rfl mm_sub_n)))) (t298_95 (k5 := k5) hk5 hd h)
    · exact Ev.sub (l := [(0, .ref 512), (1, .int v1), (2, .int v2), (4, .int v4), (5, .int v5), (7, .int v7)]) rfl rfl (mm_sub_c rfl (mm_sub_c rfl (mm_sub_c rfl (mm_sub_c rfl (mm_sub_c rfl (mm_sub_c rfl mm_sub_n)))))) (t298_82 (k5 := k5) hk5 hd h)
def q298_5 (k107 : Int32 → Int32 → Int32 → mS → Option mQ) : Nat → Int32 → Int32 → Int32 → Int32 → mS → Option mQ
  | 0, _, _, _, _, _ => none
  | n + 1, v1, v2, v3, v4, s => if (10 : Int32) ≤ v4 then (k107 v1 v2 v3 s) else (if ¬ v3 = 0 then (k107 v1 v2 v3 s) else (bN (q296 v1 v4 (1 : Int32) s) fun x3 s2 => bN (q296 v1 v4 (0 : Int32) s2) fun x5 s4 => bN (q296 v2 v4 (1 : Int32) s4) fun x7 s6 => bN (q296 v2 v4 (0 : Int32) s6) fun x9 s8 => if x3 = (-1 : Int32) then (q298_69 (q298_5 k107 n) v1 v2 v4 x3 x5 x7 s8) else (if x3 ≤ x9 then (q298_95 (q298_5 k107 n) v1 v2 v4 s8) else (q298_69 (q298_5 k107 n) v1 v2 v4 x3 x5 x7 s8))))
theorem t298_5 {L : Nat} {xs : Nat → Int32} {d : Nat} {k107 : Int32 → Int32 → Int32 → mS → Option mQ} (hk107 : ∀ (v1 : Int32) (v2 : Int32) (v3 : Int32) (s : mS) (r : mQ), k107 v1 v2 v3 s = some r → Ev L xs d 298 107 [(1, .int v1), (2, .int v2), (3, .int v3)] [] (hp s) (hr r)) (hd : 3 ≤ d) : ∀ (n : Nat) (v1 : Int32) (v2 : Int32) (v3 : Int32) (v4 : Int32) (s : mS) (r : mQ), q298_5 k107 n v1 v2 v3 v4 s = some r → Ev L xs d 298 5 [(0, .ref 512), (1, .int v1), (2, .int v2), (3, .int v3), (4, .int v4)] [] (hp s) (hr r) := by
  intro n
  induction n with
  | zero => intro v1 v2 v3 v4 s r h; rw [q298_5] at h; cases h
  | succ n ih =>
    intro v1 v2 v3 v4 s r h
    rw [q298_5] at h
    refine Ev.iload H298 i298_5 rfl ?_
    refine Ev.bipush H298 i298_7 kB_10 ?_
    refine Rd.ic_ge H298 i298_9 (t := 107) (by decide) h (fun hc h => ?_) (fun hc h => ?_)
    · exact Ev.sub (l := [(1, .int v1), (2, .int v2), (3, .int v3)]) rfl rfl (mm_sub_c rfl (mm_sub_c rfl (mm_sub_c rfl mm_sub_n))) (hk107 _ _ _ _ _ h)
    · refine Ev.iload_n H298 i298_12 rfl ?_
      refine Rd.if_ne H298 i298_13 (t := 107) (by decide) h (fun hc h => ?_) (fun hc h => ?_)
      · exact Ev.sub (l := [(1, .int v1), (2, .int v2), (3, .int v3)]) rfl rfl (mm_sub_c rfl (mm_sub_c rfl (mm_sub_c rfl mm_sub_n))) (hk107 _ _ _ _ _ h)
      · refine Ev.aload_n H298 i298_16 rfl ?_
        refine Ev.iload_n H298 i298_17 rfl ?_
        refine Ev.iload H298 i298_18 rfl ?_
        refine Ev.iconst H298 i298_20 kI_1 ?_
        refine Rd.cV3vN H298 i298_21 cal296 ob11 (Nat.le_of_ble_eq_true rfl) (Nat.le_of_ble_eq_true rfl) (Nat.lt_of_lt_of_le (by decide) hd) (fun q hq => c296 hq) h (fun x3 s2 h => ?_)
        refine Ev.istore H298 i298_24 (Nat.le_of_ble_eq_true rfl) (lv2 := [(5, .int x3), (0, .ref 512), (1, .int v1), (2, .int v2), (3, .int v3), (4, .int v4)]) rfl ?_
        refine Ev.aload_n H298 i298_26 rfl ?_
        refine Ev.iload_n H298 i298_27 rfl ?_
        refine Ev.iload H298 i298_28 rfl ?_
        refine Ev.iconst H298 i298_30 kI_0 ?_
        refine Rd.cV3vN H298 i298_31 cal296 ob11 (Nat.le_of_ble_eq_true rfl) (Nat.le_of_ble_eq_true rfl) (Nat.lt_of_lt_of_le (by decide) hd) (fun q hq => c296 hq) h (fun x5 s4 h => ?_)
        refine Ev.istore H298 i298_34 (Nat.le_of_ble_eq_true rfl) (lv2 := [(6, .int x5), (5, .int x3), (0, .ref 512), (1, .int v1), (2, .int v2), (3, .int v3), (4, .int v4)]) rfl ?_
        refine Ev.aload_n H298 i298_36 rfl ?_
        refine Ev.iload_n H298 i298_37 rfl ?_
        refine Ev.iload H298 i298_38 rfl ?_
        refine Ev.iconst H298 i298_40 kI_1 ?_
        refine Rd.cV3vN H298 i298_41 cal296 ob11 (Nat.le_of_ble_eq_true rfl) (Nat.le_of_ble_eq_true rfl) (Nat.lt_of_lt_of_le (by decide) hd) (fun q hq => c296 hq) h (fun x7 s6 h => ?_)
        refine Ev.istore H298 i298_44 (Nat.le_of_ble_eq_true rfl) (lv2 := [(7, .int x7), (6, .int x5), (5, .int x3), (0, .ref 512), (1, .int v1), (2, .int v2), (3, .int v3), (4, .int v4)]) rfl ?_
        refine Ev.aload_n H298 i298_46 rfl ?_
        refine Ev.iload_n H298 i298_47 rfl ?_
        refine Ev.iload H298 i298_48 rfl ?_
        refine Ev.iconst H298 i298_50 kI_0 ?_
        refine Rd.cV3vN H298 i298_51 cal296 ob11 (Nat.le_of_ble_eq_true rfl) (Nat.le_of_ble_eq_true rfl) (Nat.lt_of_lt_of_le (by decide) hd) (fun q hq => c296 hq) h (fun x9 s8 h => ?_)
        refine Ev.istore H298 i298_54 (Nat.le_of_ble_eq_true rfl) (lv2 := [(8, .int x9), (7, .int x7), (6, .int x5), (5, .int x3), (0, .ref 512), (1, .int v1), (2, .int v2), (3, .int v3), (4, .int v4)]) rfl ?_
        refine Ev.iload H298 i298_56 rfl ?_
        refine Ev.iconst H298 i298_58 kI_m1 ?_
        refine Rd.ic_eq H298 i298_59 (t := 69) (by decide) h (fun hc h => ?_) (fun hc h => ?_)
        · exact Ev.sub (l := [(0, .ref 512), (1, .int v1), (2, .int v2), (4, .int v4), (5, .int x3), (6, .int x5), (7, .int x7)]) rfl rfl (mm_sub_c rfl (mm_sub_c rfl (mm_sub_c rfl (mm_sub_c rfl (mm_sub_c rfl (mm_sub_c rfl (mm_sub_c rfl mm_sub_n))))))) (t298_69 (k5 := (q298_5 k107 n)) (fun _ _ _ _ _ _ h => ih _ _ _ _ _ _ h) hd h)
        · refine Ev.iload H298 i298_62 rfl ?_
          refine Ev.iload H298 i298_64 rfl ?_
          refine Rd.ic_ge H298 i298_66 (t := 95) (by decide) h (fun hc h => ?_) (fun hc h => ?_)
          · exact Ev.sub (l := [(0, .ref 512), (1, .int v1), (2, .int v2), (4, .int v4)]) rfl rfl (mm_sub_c rfl (mm_sub_c rfl (mm_sub_c rfl (mm_sub_c rfl mm_sub_n)))) (t298_95 (k5 := (q298_5 k107 n)) (fun _ _ _ _ _ _ h => ih _ _ _ _ _ _ h) hd h)
          · exact Ev.sub (l := [(0, .ref 512), (1, .int v1), (2, .int v2), (4, .int v4), (5, .int x3), (6, .int x5), (7, .int x7)]) rfl rfl (mm_sub_c rfl (mm_sub_c rfl (mm_sub_c rfl (mm_sub_c rfl (mm_sub_c rfl (mm_sub_c rfl (mm_sub_c rfl mm_sub_n))))))) (t298_69 (k5 := (q298_5 k107 n)) (fun _ _ _ _ _ _ h => ih _ _ _ _ _ _ h) hd h)
def q298_107 (v1 : Int32) (v2 : Int32) (v3 : Int32) (s : mS) : Option mQ := if v1 = v2 then (rv (0 : Int32) s) else (if v3 = 0 then (rv (0 : Int32) s) else (rv (1 : Int32) s))
theorem t298_107 {L : Nat} {xs : Nat → Int32} {d : Nat} (hd : 3 ≤ d) {v1 : Int32} {v2 : Int32} {v3 : Int32} {s : mS} {r : mQ} (h : q298_107 v1 v2 v3 s = some r) : Ev L xs d 298 107 [(1, .int v1), (2, .int v2), (3, .int v3)] [] (hp s) (hr r) := by
  unfold q298_107 at h
  refine Ev.iload_n H298 i298_107 rfl ?_
  refine Ev.iload_n H298 i298_108 rfl ?_
  refine Rd.ic_eq H298 i298_109 (t := 120) (by decide) h (fun hc h => ?_) (fun hc h => ?_)
  · refine Ev.iconst H298 i298_120 kI_0 ?_
    exact Rd.ireturnK H298 i298_121 rfl (Or.inl rfl) h
  · refine Ev.iload_n H298 i298_112 rfl ?_
    refine Rd.if_eq H298 i298_113 (t := 120) (by decide) h (fun hc h => ?_) (fun hc h => ?_)
    · refine Ev.iconst H298 i298_120 kI_0 ?_
      exact Rd.ireturnK H298 i298_121 rfl (Or.inl rfl) h
    · refine Ev.iconst H298 i298_116 kI_1 ?_
      refine Ev.goto H298 i298_117 (t := 121) (by decide) ?_
      exact Rd.ireturnK H298 i298_121 rfl (Or.inr rfl) h
/-- SerialGateModel.mustBeAhead(II)Z -/
def q298 (v1 : Int32) (v2 : Int32) (s : mS) : Option mQ := q298_5 (q298_107) 10000 v1 v2 (0 : Int32) (0 : Int32) s
theorem c298 {L : Nat} {xs : Nat → Int32} {v1 : Int32} {v2 : Int32} {s : mS} {r : mQ} (h : q298 v1 v2 s = some r) : ∀ d, 3 ≤ d → Cl L xs d 298 [.ref 512, .int v1, .int v2] (hp s) (hr r) := by
  intro d hd
  show Ev L xs d 298 0 [(0, .ref 512), (1, .int v1), (2, .int v2)] [] (hp s) (hr r)
  unfold q298 at h
  refine Ev.iconst H298 i298_0 kI_0 ?_
  refine Ev.istore_n H298 i298_1 (Nat.le_of_ble_eq_true rfl) (lv2 := [(3, .int (0 : Int32)), (0, .ref 512), (1, .int v1), (2, .int v2)]) rfl ?_
  refine Ev.iconst H298 i298_2 kI_0 ?_
  refine Ev.istore H298 i298_3 (Nat.le_of_ble_eq_true rfl) (lv2 := [(4, .int (0 : Int32)), (3, .int (0 : Int32)), (0, .ref 512), (1, .int v1), (2, .int v2)]) rfl ?_
  exact Ev.sub (l := [(0, .ref 512), (1, .int v1), (2, .int v2), (3, .int (0 : Int32)), (4, .int (0 : Int32))]) rfl rfl (mm_sub_c rfl (mm_sub_c rfl (mm_sub_c rfl (mm_sub_c rfl (mm_sub_c rfl mm_sub_n))))) (t298_5 (k107 := (q298_107)) (fun _ _ _ _ _ h => t298_107 hd h) hd 10000 _ _ _ _ _ _ h)
theorem i299_0 : mm_cd 299 0 = some (.iconst (-1), 1, 0, 0) := rfl
theorem i299_1 : mm_cd 299 1 = some (.istore_n 2, 1, 0, 0) := rfl
theorem i299_2 : mm_cd 299 2 = some (.bipush 11, 2, 0, 0) := rfl
theorem i299_4 : mm_cd 299 4 = some (.istore_n 3, 1, 0, 0) := rfl
theorem i299_5 : mm_cd 299 5 = some (.iload_n 3, 1, 0, 0) := rfl
theorem i299_6 : mm_cd 299 6 = some (.ifCond .lt 79, 3, 0, 0) := rfl
theorem i299_9 : mm_cd 299 9 = some (.iload_n 1, 1, 0, 0) := rfl
theorem i299_10 : mm_cd 299 10 = some (.iload_n 3, 1, 0, 0) := rfl
theorem i299_11 : mm_cd 299 11 = some (.invokestatic 79, 3, 0, 190) := rfl
theorem i299_14 : mm_cd 299 14 = some (.istore 4, 2, 0, 0) := rfl
theorem i299_16 : mm_cd 299 16 = some (.iconst 0, 1, 0, 0) := rfl
theorem i299_17 : mm_cd 299 17 = some (.istore 5, 2, 0, 0) := rfl
theorem i299_19 : mm_cd 299 19 = some (.iload 5, 2, 0, 0) := rfl
theorem i299_21 : mm_cd 299 21 = some (.aload_n 0, 1, 0, 0) := rfl
theorem i299_22 : mm_cd 299 22 = some (.getfield 13, 3, ((11 : Nat) : Int), 1) := rfl
theorem i299_25 : mm_cd 299 25 = some (.bipush 7, 2, 0, 0) := rfl
theorem i299_27 : mm_cd 299 27 = some (.iaload, 1, 0, 0) := rfl
theorem i299_28 : mm_cd 299 28 = some (.if_icmp .ge 40, 3, 0, 0) := rfl
theorem i299_31 : mm_cd 299 31 = some (.iload 4, 2, 0, 0) := rfl
theorem i299_33 : mm_cd 299 33 = some (.ifCond .eq 35, 3, 0, 0) := rfl
theorem i299_36 : mm_cd 299 36 = some (.iload_n 1, 1, 0, 0) := rfl
theorem i299_37 : mm_cd 299 37 = some (.iload 5, 2, 0, 0) := rfl
theorem i299_39 : mm_cd 299 39 = some (.invokestatic 79, 3, 0, 190) := rfl
theorem i299_42 : mm_cd 299 42 = some (.ifCond .eq 13, 3, 0, 0) := rfl
theorem i299_45 : mm_cd 299 45 = some (.aload_n 0, 1, 0, 0) := rfl
theorem i299_46 : mm_cd 299 46 = some (.iload 5, 2, 0, 0) := rfl
theorem i299_48 : mm_cd 299 48 = some (.iload_n 3, 1, 0, 0) := rfl
theorem i299_49 : mm_cd 299 49 = some (.invokevirtual 417, 3, 0, 298) := rfl
theorem i299_52 : mm_cd 299 52 = some (.ifCond .ne 7, 3, 0, 0) := rfl
theorem i299_55 : mm_cd 299 55 = some (.iconst 1, 1, 0, 0) := rfl
theorem i299_56 : mm_cd 299 56 = some (.goto 4, 3, 0, 0) := rfl
theorem i299_59 : mm_cd 299 59 = some (.iconst 0, 1, 0, 0) := rfl
theorem i299_60 : mm_cd 299 60 = some (.istore 4, 2, 0, 0) := rfl
theorem i299_62 : mm_cd 299 62 = some (.iinc 5 1, 3, 0, 0) := rfl
theorem i299_65 : mm_cd 299 65 = some (.goto (-46), 3, 0, 0) := rfl
theorem i299_68 : mm_cd 299 68 = some (.iload 4, 2, 0, 0) := rfl
theorem i299_70 : mm_cd 299 70 = some (.ifCond .eq 7, 3, 0, 0) := rfl
theorem i299_73 : mm_cd 299 73 = some (.iload_n 3, 1, 0, 0) := rfl
theorem i299_74 : mm_cd 299 74 = some (.goto 4, 3, 0, 0) := rfl
theorem i299_77 : mm_cd 299 77 = some (.iload_n 2, 1, 0, 0) := rfl
theorem i299_78 : mm_cd 299 78 = some (.istore_n 2, 1, 0, 0) := rfl
theorem i299_79 : mm_cd 299 79 = some (.iinc 3 (-1), 3, 0, 0) := rfl
theorem i299_82 : mm_cd 299 82 = some (.goto (-77), 3, 0, 0) := rfl
theorem i299_85 : mm_cd 299 85 = some (.iload_n 2, 1, 0, 0) := rfl
theorem i299_86 : mm_cd 299 86 = some (.ireturn, 1, 0, 0) := rfl
def q299_60 (k19 : Int32 → Int32 → Int32 → Int32 → Int32 → mS → Option mQ) (v1 : Int32) (v2 : Int32) (v3 : Int32) (v5 : Int32) (y0 : Int32) (s : mS) : Option mQ := bx (v5 + (1 : Int32)) fun x1 => k19 v1 v2 v3 y0 x1 s
theorem t299_60 {L : Nat} {xs : Nat → Int32} {d : Nat} {k19 : Int32 → Int32 → Int32 → Int32 → Int32 → mS → Option mQ} (hk19 : ∀ (v1 : Int32) (v2 : Int32) (v3 : Int32) (v4 : Int32) (v5 : Int32) (s : mS) (r : mQ), k19 v1 v2 v3 v4 v5 s = some r → Ev L xs d 299 19 [(0, .ref 512), (1, .int v1), (2, .int v2), (3, .int v3), (4, .int v4), (5, .int v5)] [] (hp s) (hr r)) (hd : 4 ≤ d) {v1 : Int32} {v2 : Int32} {v3 : Int32} {v5 : Int32} {y0 : Int32} {s : mS} {r : mQ} (h : q299_60 k19 v1 v2 v3 v5 y0 s = some r) : Ev L xs d 299 60 [(0, .ref 512), (1, .int v1), (2, .int v2), (3, .int v3), (5, .int v5)] [.int y0] (hp s) (hr r) := by
  unfold q299_60 at h
  refine Ev.istore H299 i299_60 (Nat.le_of_ble_eq_true rfl) (lv2 := [(4, .int y0), (0, .ref 512), (1, .int v1), (2, .int v2), (3, .int v3), (5, .int v5)]) rfl ?_
  refine Rd.iinc H299 i299_62 (Nat.le_of_ble_eq_true rfl) rfl kI_1 (lv2 := fun x1 => [(5, .int x1), (4, .int y0), (0, .ref 512), (1, .int v1), (2, .int v2), (3, .int v3)]) (fun _ => rfl) h (fun x1 h => ?_)
  refine Ev.goto H299 i299_65 (t := 19) (by decide) ?_
  exact Ev.sub (l := [(0, .ref 512), (1, .int v1), (2, .int v2), (3, .int v3), (4, .int y0), (5, .int x1)]) rfl rfl (mm_sub_c rfl (mm_sub_c rfl (mm_sub_c rfl (mm_sub_c rfl (mm_sub_c rfl (mm_sub_c rfl mm_sub_n)))))) (hk19 _ _ _ _ _ _ _ h)
def q299_55 (k19 : Int32 → Int32 → Int32 → Int32 → Int32 → mS → Option mQ) (v1 : Int32) (v2 : Int32) (v3 : Int32) (v5 : Int32) (s : mS) : Option mQ := q299_60 k19 v1 v2 v3 v5 (1 : Int32) s
theorem t299_55 {L : Nat} {xs : Nat → Int32} {d : Nat} {k19 : Int32 → Int32 → Int32 → Int32 → Int32 → mS → Option mQ} (hk19 : ∀ (v1 : Int32) (v2 : Int32) (v3 : Int32) (v4 : Int32) (v5 : Int32) (s : mS) (r : mQ), k19 v1 v2 v3 v4 v5 s = some r → Ev L xs d 299 19 [(0, .ref 512), (1, .int v1), (2, .int v2), (3, .int v3), (4, .int v4), (5, .int v5)] [] (hp s) (hr r)) (hd : 4 ≤ d) {v1 : Int32} {v2 : Int32} {v3 : Int32} {v5 : Int32} {s : mS} {r : mQ} (h : q299_55 k19 v1 v2 v3 v5 s = some r) : Ev L xs d 299 55 [(0, .ref 512), (1, .int v1), (2, .int v2), (3, .int v3), (5, .int v5)] [] (hp s) (hr r) := by
  unfold q299_55 at h
  refine Ev.iconst H299 i299_55 kI_1 ?_
  refine Ev.goto H299 i299_56 (t := 60) (by decide) ?_
  exact Ev.sub (l := [(0, .ref 512), (1, .int v1), (2, .int v2), (3, .int v3), (5, .int v5)]) rfl rfl (mm_sub_c rfl (mm_sub_c rfl (mm_sub_c rfl (mm_sub_c rfl (mm_sub_c rfl mm_sub_n))))) (t299_60 (k19 := k19) hk19 hd h)
def q299_19 (k68 : Int32 → Int32 → Int32 → Int32 → mS → Option mQ) : Nat → Int32 → Int32 → Int32 → Int32 → Int32 → mS → Option mQ
  | 0, _, _, _, _, _, _ => none
  | n + 1, v1, v2, v3, v4, v5, s => gA 2468 (7 : Int32) <| if (s.1 513 (7 : Int32).toNatClampNeg) ≤ v5 then (k68 v1 v2 v3 v4 s) else (if v4 = 0 then (k68 v1 v2 v3 v4 s) else (bN (q190 v1 v5 s) fun x3 s2 => if x3 = 0 then (q299_55 (q299_19 k68 n) v1 v2 v3 v5 s2) else (bN (q298 v5 v3 s2) fun x5 s4 => if ¬ x5 = 0 then (q299_60 (q299_19 k68 n) v1 v2 v3 v5 (0 : Int32) s4) else (q299_55 (q299_19 k68 n) v1 v2 v3 v5 s4))))
theorem t299_19 {L : Nat} {xs : Nat → Int32} {d : Nat} {k68 : Int32 → Int32 → Int32 → Int32 → mS → Option mQ} (hk68 : ∀ (v1 : Int32) (v2 : Int32) (v3 : Int32) (v4 : Int32) (s : mS) (r : mQ), k68 v1 v2 v3 v4 s = some r → Ev L xs d 299 68 [(0, .ref 512), (1, .int v1), (2, .int v2), (3, .int v3), (4, .int v4)] [] (hp s) (hr r)) (hd : 4 ≤ d) : ∀ (n : Nat) (v1 : Int32) (v2 : Int32) (v3 : Int32) (v4 : Int32) (v5 : Int32) (s : mS) (r : mQ), q299_19 k68 n v1 v2 v3 v4 v5 s = some r → Ev L xs d 299 19 [(0, .ref 512), (1, .int v1), (2, .int v2), (3, .int v3), (4, .int v4), (5, .int v5)] [] (hp s) (hr r) := by
  intro n
  induction n with
  | zero => intro v1 v2 v3 v4 v5 s r h; rw [q299_19] at h; cases h
  | succ n ih =>
    intro v1 v2 v3 v4 v5 s r h
    rw [q299_19] at h
    refine Ev.iload H299 i299_19 rfl ?_
    refine Ev.aload_n H299 i299_21 rfl ?_
    refine Rd.getR H299 i299_22 ob11 rfl ?_
    refine Ev.bipush H299 i299_25 kB_7 ?_
    refine Rd.iaload H299 i299_27 ar_513 h (fun h => ?_)
    refine Rd.ic_ge H299 i299_28 (t := 68) (by decide) h (fun hc h => ?_) (fun hc h => ?_)
    · exact Ev.sub (l := [(0, .ref 512), (1, .int v1), (2, .int v2), (3, .int v3), (4, .int v4)]) rfl rfl (mm_sub_c rfl (mm_sub_c rfl (mm_sub_c rfl (mm_sub_c rfl (mm_sub_c rfl mm_sub_n))))) (hk68 _ _ _ _ _ _ h)
    · refine Ev.iload H299 i299_31 rfl ?_
      refine Rd.if_eq H299 i299_33 (t := 68) (by decide) h (fun hc h => ?_) (fun hc h => ?_)
      · exact Ev.sub (l := [(0, .ref 512), (1, .int v1), (2, .int v2), (3, .int v3), (4, .int v4)]) rfl rfl (mm_sub_c rfl (mm_sub_c rfl (mm_sub_c rfl (mm_sub_c rfl (mm_sub_c rfl mm_sub_n))))) (hk68 _ _ _ _ _ _ h)
      · refine Ev.iload_n H299 i299_36 rfl ?_
        refine Ev.iload H299 i299_37 rfl ?_
        refine Rd.cS2vN H299 i299_39 cal190 (Nat.le_of_ble_eq_true rfl) (Nat.le_of_ble_eq_true rfl) (Nat.lt_of_lt_of_le (by decide) hd) (fun q hq => c190 hq) h (fun x3 s2 h => ?_)
        refine Rd.if_eq H299 i299_42 (t := 55) (by decide) h (fun hc h => ?_) (fun hc h => ?_)
        · exact Ev.sub (l := [(0, .ref 512), (1, .int v1), (2, .int v2), (3, .int v3), (5, .int v5)]) rfl rfl (mm_sub_c rfl (mm_sub_c rfl (mm_sub_c rfl (mm_sub_c rfl (mm_sub_c rfl mm_sub_n))))) (t299_55 (k19 := (q299_19 k68 n)) (fun _ _ _ _ _ _ _ h => ih _ _ _ _ _ _ _ h) hd h)
        · refine Ev.aload_n H299 i299_45 rfl ?_
          refine Ev.iload H299 i299_46 rfl ?_
          refine Ev.iload_n H299 i299_48 rfl ?_
          refine Rd.cV2vN H299 i299_49 cal298 ob11 (Nat.le_of_ble_eq_true rfl) (Nat.le_of_ble_eq_true rfl) (Nat.lt_of_lt_of_le (by decide) hd) (fun q hq => c298 hq) h (fun x5 s4 h => ?_)
          refine Rd.if_ne H299 i299_52 (t := 59) (by decide) h (fun hc h => ?_) (fun hc h => ?_)
          · refine Ev.iconst H299 i299_59 kI_0 ?_
            exact Ev.sub (l := [(0, .ref 512), (1, .int v1), (2, .int v2), (3, .int v3), (5, .int v5)]) rfl rfl (mm_sub_c rfl (mm_sub_c rfl (mm_sub_c rfl (mm_sub_c rfl (mm_sub_c rfl mm_sub_n))))) (t299_60 (k19 := (q299_19 k68 n)) (fun _ _ _ _ _ _ _ h => ih _ _ _ _ _ _ _ h) hd h)
          · exact Ev.sub (l := [(0, .ref 512), (1, .int v1), (2, .int v2), (3, .int v3), (5, .int v5)]) rfl rfl (mm_sub_c rfl (mm_sub_c rfl (mm_sub_c rfl (mm_sub_c rfl (mm_sub_c rfl mm_sub_n))))) (t299_55 (k19 := (q299_19 k68 n)) (fun _ _ _ _ _ _ _ h => ih _ _ _ _ _ _ _ h) hd h)
def q299_78 (k5 : Int32 → Int32 → Int32 → mS → Option mQ) (v1 : Int32) (v3 : Int32) (y0 : Int32) (s : mS) : Option mQ := bx (v3 + (-1 : Int32)) fun x6 => k5 v1 y0 x6 s
theorem t299_78 {L : Nat} {xs : Nat → Int32} {d : Nat} {k5 : Int32 → Int32 → Int32 → mS → Option mQ} (hk5 : ∀ (v1 : Int32) (v2 : Int32) (v3 : Int32) (s : mS) (r : mQ), k5 v1 v2 v3 s = some r → Ev L xs d 299 5 [(0, .ref 512), (1, .int v1), (2, .int v2), (3, .int v3)] [] (hp s) (hr r)) (hd : 4 ≤ d) {v1 : Int32} {v3 : Int32} {y0 : Int32} {s : mS} {r : mQ} (h : q299_78 k5 v1 v3 y0 s = some r) : Ev L xs d 299 78 [(0, .ref 512), (1, .int v1), (3, .int v3)] [.int y0] (hp s) (hr r) := by
  unfold q299_78 at h
  refine Ev.istore_n H299 i299_78 (Nat.le_of_ble_eq_true rfl) (lv2 := [(2, .int y0), (0, .ref 512), (1, .int v1), (3, .int v3)]) rfl ?_
  refine Rd.iinc H299 i299_79 (Nat.le_of_ble_eq_true rfl) rfl kI_m1 (lv2 := fun x6 => [(3, .int x6), (2, .int y0), (0, .ref 512), (1, .int v1)]) (fun _ => rfl) h (fun x6 h => ?_)
  refine Ev.goto H299 i299_82 (t := 5) (by decide) ?_
  exact Ev.sub (l := [(0, .ref 512), (1, .int v1), (2, .int y0), (3, .int x6)]) rfl rfl (mm_sub_c rfl (mm_sub_c rfl (mm_sub_c rfl (mm_sub_c rfl mm_sub_n)))) (hk5 _ _ _ _ _ h)
def q299_68 (k5 : Int32 → Int32 → Int32 → mS → Option mQ) (v1 : Int32) (v2 : Int32) (v3 : Int32) (v4 : Int32) (s : mS) : Option mQ := if v4 = 0 then (q299_78 k5 v1 v3 v2 s) else (q299_78 k5 v1 v3 v3 s)
theorem t299_68 {L : Nat} {xs : Nat → Int32} {d : Nat} {k5 : Int32 → Int32 → Int32 → mS → Option mQ} (hk5 : ∀ (v1 : Int32) (v2 : Int32) (v3 : Int32) (s : mS) (r : mQ), k5 v1 v2 v3 s = some r → Ev L xs d 299 5 [(0, .ref 512), (1, .int v1), (2, .int v2), (3, .int v3)] [] (hp s) (hr r)) (hd : 4 ≤ d) {v1 : Int32} {v2 : Int32} {v3 : Int32} {v4 : Int32} {s : mS} {r : mQ} (h : q299_68 k5 v1 v2 v3 v4 s = some r) : Ev L xs d 299 68 [(0, .ref 512), (1, .int v1), (2, .int v2), (3, .int v3), (4, .int v4)] [] (hp s) (hr r) := by
  unfold q299_68 at h
  refine Ev.iload H299 i299_68 rfl ?_
  refine Rd.if_eq H299 i299_70 (t := 77) (by decide) h (fun hc h => ?_) (fun hc h => ?_)
  · refine Ev.iload_n H299 i299_77 rfl ?_
    exact Ev.sub (l := [(0, .ref 512), (1, .int v1), (3, .int v3)]) rfl rfl (mm_sub_c rfl (mm_sub_c rfl (mm_sub_c rfl mm_sub_n))) (t299_78 (k5 := k5) hk5 hd h)
  · refine Ev.iload_n H299 i299_73 rfl ?_
    refine Ev.goto H299 i299_74 (t := 78) (by decide) ?_
    exact Ev.sub (l := [(0, .ref 512), (1, .int v1), (3, .int v3)]) rfl rfl (mm_sub_c rfl (mm_sub_c rfl (mm_sub_c rfl mm_sub_n))) (t299_78 (k5 := k5) hk5 hd h)
def q299_5 : Nat → Int32 → Int32 → Int32 → mS → Option mQ
  | 0, _, _, _, _ => none
  | n + 1, v1, v2, v3, s => if v3 < 0 then (rv v2 s) else (bN (q190 v1 v3 s) fun x8 s7 => q299_19 (q299_68 (q299_5 n)) 10000 v1 v2 v3 x8 (0 : Int32) s7)
theorem t299_5 {L : Nat} {xs : Nat → Int32} {d : Nat} (hd : 4 ≤ d) : ∀ (n : Nat) (v1 : Int32) (v2 : Int32) (v3 : Int32) (s : mS) (r : mQ), q299_5 n v1 v2 v3 s = some r → Ev L xs d 299 5 [(0, .ref 512), (1, .int v1), (2, .int v2), (3, .int v3)] [] (hp s) (hr r) := by
  intro n
  induction n with
  | zero => intro v1 v2 v3 s r h; rw [q299_5] at h; cases h
  | succ n ih =>
    intro v1 v2 v3 s r h
    rw [q299_5] at h
    refine Ev.iload_n H299 i299_5 rfl ?_
    refine Rd.if_lt H299 i299_6 (t := 85) (by decide) h (fun hc h => ?_) (fun hc h => ?_)
    · refine Ev.iload_n H299 i299_85 rfl ?_
      exact Rd.ireturn H299 i299_86 rfl h
    · refine Ev.iload_n H299 i299_9 rfl ?_
      refine Ev.iload_n H299 i299_10 rfl ?_
      refine Rd.cS2vN H299 i299_11 cal190 (Nat.le_of_ble_eq_true rfl) (Nat.le_of_ble_eq_true rfl) (Nat.lt_of_lt_of_le (by decide) hd) (fun q hq => c190 hq) h (fun x8 s7 h => ?_)
      refine Ev.istore H299 i299_14 (Nat.le_of_ble_eq_true rfl) (lv2 := [(4, .int x8), (0, .ref 512), (1, .int v1), (2, .int v2), (3, .int v3)]) rfl ?_
      refine Ev.iconst H299 i299_16 kI_0 ?_
      refine Ev.istore H299 i299_17 (Nat.le_of_ble_eq_true rfl) (lv2 := [(5, .int (0 : Int32)), (4, .int x8), (0, .ref 512), (1, .int v1), (2, .int v2), (3, .int v3)]) rfl ?_
      exact Ev.sub (l := [(0, .ref 512), (1, .int v1), (2, .int v2), (3, .int v3), (4, .int x8), (5, .int (0 : Int32))]) rfl rfl (mm_sub_c rfl (mm_sub_c rfl (mm_sub_c rfl (mm_sub_c rfl (mm_sub_c rfl (mm_sub_c rfl mm_sub_n)))))) (t299_19 (k68 := (q299_68 (q299_5 n))) (fun _ _ _ _ _ _ h => t299_68 (k5 := (q299_5 n)) (fun _ _ _ _ _ h => ih _ _ _ _ _ h) hd h) hd 10000 _ _ _ _ _ _ _ h)
/-- SerialGateModel.nextRow(I)I -/
def q299 (v1 : Int32) (s : mS) : Option mQ := q299_5 10000 v1 (-1 : Int32) (11 : Int32) s
theorem c299 {L : Nat} {xs : Nat → Int32} {v1 : Int32} {s : mS} {r : mQ} (h : q299 v1 s = some r) : ∀ d, 4 ≤ d → Cl L xs d 299 [.ref 512, .int v1] (hp s) (hr r) := by
  intro d hd
  show Ev L xs d 299 0 [(0, .ref 512), (1, .int v1)] [] (hp s) (hr r)
  unfold q299 at h
  refine Ev.iconst H299 i299_0 kI_m1 ?_
  refine Ev.istore_n H299 i299_1 (Nat.le_of_ble_eq_true rfl) (lv2 := [(2, .int (-1 : Int32)), (0, .ref 512), (1, .int v1)]) rfl ?_
  refine Ev.bipush H299 i299_2 kB_11 ?_
  refine Ev.istore_n H299 i299_4 (Nat.le_of_ble_eq_true rfl) (lv2 := [(3, .int (11 : Int32)), (2, .int (-1 : Int32)), (0, .ref 512), (1, .int v1)]) rfl ?_
  exact Ev.sub (l := [(0, .ref 512), (1, .int v1), (2, .int (-1 : Int32)), (3, .int (11 : Int32))]) rfl rfl (mm_sub_c rfl (mm_sub_c rfl (mm_sub_c rfl (mm_sub_c rfl mm_sub_n)))) (t299_5 hd 10000 _ _ _ _ _ h)
theorem i300_0 : mm_cd 300 0 = some (.aload_n 0, 1, 0, 0) := rfl
theorem i300_1 : mm_cd 300 1 = some (.iconst 0, 1, 0, 0) := rfl
theorem i300_2 : mm_cd 300 2 = some (.putfield 3, 3, ((11 : Nat) : Int), 0) := rfl
theorem i300_5 : mm_cd 300 5 = some (.iload_n 1, 1, 0, 0) := rfl
theorem i300_6 : mm_cd 300 6 = some (.iconst 0, 1, 0, 0) := rfl
theorem i300_7 : mm_cd 300 7 = some (.aload_n 0, 1, 0, 0) := rfl
theorem i300_8 : mm_cd 300 8 = some (.getfield 13, 3, ((11 : Nat) : Int), 1) := rfl
theorem i300_11 : mm_cd 300 11 = some (.bipush 7, 2, 0, 0) := rfl
theorem i300_13 : mm_cd 300 13 = some (.iaload, 1, 0, 0) := rfl
theorem i300_14 : mm_cd 300 14 = some (.iconst 1, 1, 0, 0) := rfl
theorem i300_15 : mm_cd 300 15 = some (.isub, 1, 0, 0) := rfl
theorem i300_16 : mm_cd 300 16 = some (.invokestatic 371, 3, 0, 189) := rfl
theorem i300_19 : mm_cd 300 19 = some (.ifCond .ne 5, 3, 0, 0) := rfl
theorem i300_22 : mm_cd 300 22 = some (.iconst (-1), 1, 0, 0) := rfl
theorem i300_23 : mm_cd 300 23 = some (.ireturn, 1, 0, 0) := rfl
theorem i300_24 : mm_cd 300 24 = some (.iconst 1, 1, 0, 0) := rfl
theorem i300_25 : mm_cd 300 25 = some (.aload_n 0, 1, 0, 0) := rfl
theorem i300_26 : mm_cd 300 26 = some (.getfield 13, 3, ((11 : Nat) : Int), 1) := rfl
theorem i300_29 : mm_cd 300 29 = some (.bipush 7, 2, 0, 0) := rfl
theorem i300_31 : mm_cd 300 31 = some (.iaload, 1, 0, 0) := rfl
theorem i300_32 : mm_cd 300 32 = some (.ishl, 1, 0, 0) := rfl
theorem i300_33 : mm_cd 300 33 = some (.iconst 1, 1, 0, 0) := rfl
theorem i300_34 : mm_cd 300 34 = some (.isub, 1, 0, 0) := rfl
theorem i300_35 : mm_cd 300 35 = some (.istore_n 2, 1, 0, 0) := rfl
theorem i300_36 : mm_cd 300 36 = some (.aload_n 0, 1, 0, 0) := rfl
theorem i300_37 : mm_cd 300 37 = some (.iload_n 2, 1, 0, 0) := rfl
theorem i300_38 : mm_cd 300 38 = some (.invokevirtual 420, 3, 0, 299) := rfl
theorem i300_41 : mm_cd 300 41 = some (.istore_n 3, 1, 0, 0) := rfl
theorem i300_42 : mm_cd 300 42 = some (.iconst 0, 1, 0, 0) := rfl
theorem i300_43 : mm_cd 300 43 = some (.istore 4, 2, 0, 0) := rfl
theorem i300_45 : mm_cd 300 45 = some (.iload 4, 2, 0, 0) := rfl
theorem i300_47 : mm_cd 300 47 = some (.iload_n 1, 1, 0, 0) := rfl
theorem i300_48 : mm_cd 300 48 = some (.if_icmp .ge 28, 3, 0, 0) := rfl
theorem i300_51 : mm_cd 300 51 = some (.iload_n 3, 1, 0, 0) := rfl
theorem i300_52 : mm_cd 300 52 = some (.iconst (-1), 1, 0, 0) := rfl
theorem i300_53 : mm_cd 300 53 = some (.if_icmp .eq 23, 3, 0, 0) := rfl
theorem i300_56 : mm_cd 300 56 = some (.iload_n 2, 1, 0, 0) := rfl
theorem i300_57 : mm_cd 300 57 = some (.iconst 1, 1, 0, 0) := rfl
theorem i300_58 : mm_cd 300 58 = some (.iload_n 3, 1, 0, 0) := rfl
theorem i300_59 : mm_cd 300 59 = some (.ishl, 1, 0, 0) := rfl
theorem i300_60 : mm_cd 300 60 = some (.iconst (-1), 1, 0, 0) := rfl
theorem i300_61 : mm_cd 300 61 = some (.ixor, 1, 0, 0) := rfl
theorem i300_62 : mm_cd 300 62 = some (.iand, 1, 0, 0) := rfl
theorem i300_63 : mm_cd 300 63 = some (.istore_n 2, 1, 0, 0) := rfl
theorem i300_64 : mm_cd 300 64 = some (.aload_n 0, 1, 0, 0) := rfl
theorem i300_65 : mm_cd 300 65 = some (.iload_n 2, 1, 0, 0) := rfl
theorem i300_66 : mm_cd 300 66 = some (.invokevirtual 420, 3, 0, 299) := rfl
theorem i300_69 : mm_cd 300 69 = some (.istore_n 3, 1, 0, 0) := rfl
theorem i300_70 : mm_cd 300 70 = some (.iinc 4 1, 3, 0, 0) := rfl
theorem i300_73 : mm_cd 300 73 = some (.goto (-28), 3, 0, 0) := rfl
theorem i300_76 : mm_cd 300 76 = some (.iload_n 3, 1, 0, 0) := rfl
theorem i300_77 : mm_cd 300 77 = some (.ireturn, 1, 0, 0) := rfl
def q300_45 : Nat → Int32 → Int32 → Int32 → Int32 → mS → Option mQ
  | 0, _, _, _, _, _ => none
  | n + 1, v1, v2, v3, v4, s => if v1 ≤ v4 then (rv v3 s) else (if v3 = (-1 : Int32) then (rv v3 s) else (bx (v2 &&& ((shlI (1 : Int32) v3) ^^^ (-1 : Int32))) fun x1 => bN (q299 x1 s) fun x3 s2 => bx (v4 + (1 : Int32)) fun x4 => q300_45 n v1 x1 x3 x4 s2))
theorem t300_45 {L : Nat} {xs : Nat → Int32} {d : Nat} (hd : 5 ≤ d) : ∀ (n : Nat) (v1 : Int32) (v2 : Int32) (v3 : Int32) (v4 : Int32) (s : mS) (r : mQ), q300_45 n v1 v2 v3 v4 s = some r → Ev L xs d 300 45 [(0, .ref 512), (1, .int v1), (2, .int v2), (3, .int v3), (4, .int v4)] [] (hp s) (hr r) := by
  intro n
  induction n with
  | zero => intro v1 v2 v3 v4 s r h; rw [q300_45] at h; cases h
  | succ n ih =>
    intro v1 v2 v3 v4 s r h
    rw [q300_45] at h
    refine Ev.iload H300 i300_45 rfl ?_
    refine Ev.iload_n H300 i300_47 rfl ?_
    refine Rd.ic_ge H300 i300_48 (t := 76) (by decide) h (fun hc h => ?_) (fun hc h => ?_)
    · refine Ev.iload_n H300 i300_76 rfl ?_
      exact Rd.ireturn H300 i300_77 rfl h
    · refine Ev.iload_n H300 i300_51 rfl ?_
      refine Ev.iconst H300 i300_52 kI_m1 ?_
      refine Rd.ic_eq H300 i300_53 (t := 76) (by decide) h (fun hc h => ?_) (fun hc h => ?_)
      · refine Ev.iload_n H300 i300_76 rfl ?_
        exact Rd.ireturn H300 i300_77 rfl h
      · refine Ev.iload_n H300 i300_56 rfl ?_
        refine Ev.iconst H300 i300_57 kI_1 ?_
        refine Ev.iload_n H300 i300_58 rfl ?_
        refine Rd.ishl H300 i300_59 ?_
        refine Ev.iconst H300 i300_60 kI_m1 ?_
        refine Ev.ixor H300 i300_61 ?_
        refine Ev.iand H300 i300_62 ?_
        refine Rd.istore_n H300 i300_63 (Nat.le_of_ble_eq_true rfl) (lv2 := fun x1 => [(2, .int x1), (0, .ref 512), (1, .int v1), (3, .int v3), (4, .int v4)]) (fun _ => rfl) h (fun x1 h => ?_)
        refine Ev.aload_n H300 i300_64 rfl ?_
        refine Ev.iload_n H300 i300_65 rfl ?_
        refine Rd.cV1vN H300 i300_66 cal299 ob11 (Nat.le_of_ble_eq_true rfl) (Nat.le_of_ble_eq_true rfl) (Nat.lt_of_lt_of_le (by decide) hd) (fun q hq => c299 hq) h (fun x3 s2 h => ?_)
        refine Ev.istore_n H300 i300_69 (Nat.le_of_ble_eq_true rfl) (lv2 := [(3, .int x3), (2, .int x1), (0, .ref 512), (1, .int v1), (4, .int v4)]) rfl ?_
        refine Rd.iinc H300 i300_70 (Nat.le_of_ble_eq_true rfl) rfl kI_1 (lv2 := fun x4 => [(4, .int x4), (3, .int x3), (2, .int x1), (0, .ref 512), (1, .int v1)]) (fun _ => rfl) h (fun x4 h => ?_)
        refine Ev.goto H300 i300_73 (t := 45) (by decide) ?_
        exact Ev.sub (l := [(0, .ref 512), (1, .int v1), (2, .int x1), (3, .int x3), (4, .int x4)]) rfl rfl (mm_sub_c rfl (mm_sub_c rfl (mm_sub_c rfl (mm_sub_c rfl (mm_sub_c rfl mm_sub_n))))) (ih _ _ _ _ _ _ h)
/-- SerialGateModel.serial(I)I -/
def q300 (v1 : Int32) (s : mS) : Option mQ := sp (sI s 512 0 (0 : Int32)) fun s5 => gA 2468 (7 : Int32) <| bN (q189 v1 (0 : Int32) ((s5.1 513 (7 : Int32).toNatClampNeg) - (1 : Int32)) s5) fun x7 s6 => if ¬ x7 = 0 then (gA 2468 (7 : Int32) <| bx ((shlI (1 : Int32) (s6.1 513 (7 : Int32).toNatClampNeg)) - (1 : Int32)) fun x8 => bN (q299 x8 s6) fun x10 s9 => q300_45 10000 v1 x8 x10 (0 : Int32) s9) else (rv (-1 : Int32) s6)
theorem c300 {L : Nat} {xs : Nat → Int32} {v1 : Int32} {s : mS} {r : mQ} (h : q300 v1 s = some r) : ∀ d, 5 ≤ d → Cl L xs d 300 [.ref 512, .int v1] (hp s) (hr r) := by
  intro d hd
  show Ev L xs d 300 0 [(0, .ref 512), (1, .int v1)] [] (hp s) (hr r)
  unfold q300 at h
  refine Ev.aload_n H300 i300_0 rfl ?_
  refine Ev.iconst H300 i300_1 kI_0 ?_
  refine Rd.putI H300 i300_2 ob11 rfl ty11_0.1 ty11_0.2 h (fun s5 h => ?_)
  refine Ev.iload_n H300 i300_5 rfl ?_
  refine Ev.iconst H300 i300_6 kI_0 ?_
  refine Ev.aload_n H300 i300_7 rfl ?_
  refine Rd.getR H300 i300_8 ob11 rfl ?_
  refine Ev.bipush H300 i300_11 kB_7 ?_
  refine Rd.iaload H300 i300_13 ar_513 h (fun h => ?_)
  refine Ev.iconst H300 i300_14 kI_1 ?_
  refine Ev.isub H300 i300_15 ?_
  refine Rd.cS3vN H300 i300_16 cal189 (Nat.le_of_ble_eq_true rfl) (Nat.le_of_ble_eq_true rfl) (Nat.lt_of_lt_of_le (by decide) hd) (fun q hq => c189 hq) h (fun x7 s6 h => ?_)
  refine Rd.if_ne H300 i300_19 (t := 24) (by decide) h (fun hc h => ?_) (fun hc h => ?_)
  · refine Ev.iconst H300 i300_24 kI_1 ?_
    refine Ev.aload_n H300 i300_25 rfl ?_
    refine Rd.getR H300 i300_26 ob11 rfl ?_
    refine Ev.bipush H300 i300_29 kB_7 ?_
    refine Rd.iaload H300 i300_31 ar_513 h (fun h => ?_)
    refine Rd.ishl H300 i300_32 ?_
    refine Ev.iconst H300 i300_33 kI_1 ?_
    refine Ev.isub H300 i300_34 ?_
    refine Rd.istore_n H300 i300_35 (Nat.le_of_ble_eq_true rfl) (lv2 := fun x8 => [(2, .int x8), (0, .ref 512), (1, .int v1)]) (fun _ => rfl) h (fun x8 h => ?_)
    refine Ev.aload_n H300 i300_36 rfl ?_
    refine Ev.iload_n H300 i300_37 rfl ?_
    refine Rd.cV1vN H300 i300_38 cal299 ob11 (Nat.le_of_ble_eq_true rfl) (Nat.le_of_ble_eq_true rfl) (Nat.lt_of_lt_of_le (by decide) hd) (fun q hq => c299 hq) h (fun x10 s9 h => ?_)
    refine Ev.istore_n H300 i300_41 (Nat.le_of_ble_eq_true rfl) (lv2 := [(3, .int x10), (2, .int x8), (0, .ref 512), (1, .int v1)]) rfl ?_
    refine Ev.iconst H300 i300_42 kI_0 ?_
    refine Ev.istore H300 i300_43 (Nat.le_of_ble_eq_true rfl) (lv2 := [(4, .int (0 : Int32)), (3, .int x10), (2, .int x8), (0, .ref 512), (1, .int v1)]) rfl ?_
    exact Ev.sub (l := [(0, .ref 512), (1, .int v1), (2, .int x8), (3, .int x10), (4, .int (0 : Int32))]) rfl rfl (mm_sub_c rfl (mm_sub_c rfl (mm_sub_c rfl (mm_sub_c rfl (mm_sub_c rfl mm_sub_n))))) (t300_45 hd 10000 _ _ _ _ _ _ h)
  · refine Ev.iconst H300 i300_22 kI_m1 ?_
    exact Rd.ireturn H300 i300_23 rfl h
theorem i303_0 : mm_cd 303 0 = some (.aload_n 0, 1, 0, 0) := rfl
theorem i303_1 : mm_cd 303 1 = some (.iconst 0, 1, 0, 0) := rfl
theorem i303_2 : mm_cd 303 2 = some (.putfield 3, 3, ((11 : Nat) : Int), 0) := rfl
theorem i303_5 : mm_cd 303 5 = some (.aload_n 0, 1, 0, 0) := rfl
theorem i303_6 : mm_cd 303 6 = some (.aload_n 0, 1, 0, 0) := rfl
theorem i303_7 : mm_cd 303 7 = some (.iload_n 1, 1, 0, 0) := rfl
theorem i303_8 : mm_cd 303 8 = some (.invokevirtual 380, 3, 0, 275) := rfl
theorem i303_11 : mm_cd 303 11 = some (.ifCond .ne 11, 3, 0, 0) := rfl
theorem i303_14 : mm_cd 303 14 = some (.aload_n 0, 1, 0, 0) := rfl
theorem i303_15 : mm_cd 303 15 = some (.iload_n 2, 1, 0, 0) := rfl
theorem i303_16 : mm_cd 303 16 = some (.invokevirtual 380, 3, 0, 275) := rfl
theorem i303_19 : mm_cd 303 19 = some (.ifCond .eq 7, 3, 0, 0) := rfl
theorem i303_22 : mm_cd 303 22 = some (.iconst 1, 1, 0, 0) := rfl
theorem i303_23 : mm_cd 303 23 = some (.goto 4, 3, 0, 0) := rfl
theorem i303_26 : mm_cd 303 26 = some (.iconst 0, 1, 0, 0) := rfl
theorem i303_27 : mm_cd 303 27 = some (.iconst 1, 1, 0, 0) := rfl
theorem i303_28 : mm_cd 303 28 = some (.invokevirtual 249, 3, 0, 188) := rfl
theorem i303_31 : mm_cd 303 31 = some (.ifCond .ne 21, 3, 0, 0) := rfl
theorem i303_34 : mm_cd 303 34 = some (.aload_n 0, 1, 0, 0) := rfl
theorem i303_35 : mm_cd 303 35 = some (.iload_n 1, 1, 0, 0) := rfl
theorem i303_36 : mm_cd 303 36 = some (.iload_n 2, 1, 0, 0) := rfl
theorem i303_37 : mm_cd 303 37 = some (.if_icmp .ne 7, 3, 0, 0) := rfl
theorem i303_40 : mm_cd 303 40 = some (.iconst 1, 1, 0, 0) := rfl
theorem i303_41 : mm_cd 303 41 = some (.goto 4, 3, 0, 0) := rfl
theorem i303_44 : mm_cd 303 44 = some (.iconst 0, 1, 0, 0) := rfl
theorem i303_45 : mm_cd 303 45 = some (.iconst 2, 1, 0, 0) := rfl
theorem i303_46 : mm_cd 303 46 = some (.invokevirtual 249, 3, 0, 188) := rfl
theorem i303_49 : mm_cd 303 49 = some (.ifCond .eq 7, 3, 0, 0) := rfl
theorem i303_52 : mm_cd 303 52 = some (.iconst 1, 1, 0, 0) := rfl
theorem i303_53 : mm_cd 303 53 = some (.goto 4, 3, 0, 0) := rfl
theorem i303_56 : mm_cd 303 56 = some (.iconst 0, 1, 0, 0) := rfl
theorem i303_57 : mm_cd 303 57 = some (.ireturn, 1, 0, 0) := rfl
def q303_52 (s : mS) : Option mQ := rv (1 : Int32) s
theorem t303_52 {L : Nat} {xs : Nat → Int32} {d : Nat} (hd : 2 ≤ d) {s : mS} {r : mQ} (h : q303_52 s = some r) : Ev L xs d 303 52 [] [] (hp s) (hr r) := by
  unfold q303_52 at h
  refine Ev.iconst H303 i303_52 kI_1 ?_
  refine Ev.goto H303 i303_53 (t := 57) (by decide) ?_
  exact Rd.ireturnK H303 i303_57 rfl (Or.inr rfl) h
def q303_45 (y1 : Int32) (s : mS) : Option mQ := bN (q188 y1 (2 : Int32) s) fun x2 s1 => if x2 = 0 then (rv (0 : Int32) s1) else (q303_52 s1)
theorem t303_45 {L : Nat} {xs : Nat → Int32} {d : Nat} (hd : 2 ≤ d) {y1 : Int32} {s : mS} {r : mQ} (h : q303_45 y1 s = some r) : Ev L xs d 303 45 [] [.int y1, .ref 512] (hp s) (hr r) := by
  unfold q303_45 at h
  refine Ev.iconst H303 i303_45 kI_2 ?_
  refine Rd.cV2vN H303 i303_46 cal188 ob11 (Nat.le_of_ble_eq_true rfl) (Nat.le_of_ble_eq_true rfl) (Nat.lt_of_lt_of_le (by decide) hd) (fun q hq => c188 hq) h (fun x2 s1 h => ?_)
  refine Rd.if_eq H303 i303_49 (t := 56) (by decide) h (fun hc h => ?_) (fun hc h => ?_)
  · refine Ev.iconst H303 i303_56 kI_0 ?_
    exact Rd.ireturnK H303 i303_57 rfl (Or.inl rfl) h
  · exact Ev.sub (l := []) rfl rfl mm_sub_n (t303_52 hd h)
def q303_27 (v1 : Int32) (v2 : Int32) (y1 : Int32) (s : mS) : Option mQ := bN (q188 y1 (1 : Int32) s) fun x4 s3 => if ¬ x4 = 0 then (q303_52 s3) else (if ¬ v1 = v2 then (q303_45 (0 : Int32) s3) else (q303_45 (1 : Int32) s3))
theorem t303_27 {L : Nat} {xs : Nat → Int32} {d : Nat} (hd : 2 ≤ d) {v1 : Int32} {v2 : Int32} {y1 : Int32} {s : mS} {r : mQ} (h : q303_27 v1 v2 y1 s = some r) : Ev L xs d 303 27 [(0, .ref 512), (1, .int v1), (2, .int v2)] [.int y1, .ref 512] (hp s) (hr r) := by
  unfold q303_27 at h
  refine Ev.iconst H303 i303_27 kI_1 ?_
  refine Rd.cV2vN H303 i303_28 cal188 ob11 (Nat.le_of_ble_eq_true rfl) (Nat.le_of_ble_eq_true rfl) (Nat.lt_of_lt_of_le (by decide) hd) (fun q hq => c188 hq) h (fun x4 s3 h => ?_)
  refine Rd.if_ne H303 i303_31 (t := 52) (by decide) h (fun hc h => ?_) (fun hc h => ?_)
  · exact Ev.sub (l := []) rfl rfl mm_sub_n (t303_52 hd h)
  · refine Ev.aload_n H303 i303_34 rfl ?_
    refine Ev.iload_n H303 i303_35 rfl ?_
    refine Ev.iload_n H303 i303_36 rfl ?_
    refine Rd.ic_ne H303 i303_37 (t := 44) (by decide) h (fun hc h => ?_) (fun hc h => ?_)
    · refine Ev.iconst H303 i303_44 kI_0 ?_
      exact Ev.sub (l := []) rfl rfl mm_sub_n (t303_45 hd h)
    · refine Ev.iconst H303 i303_40 kI_1 ?_
      refine Ev.goto H303 i303_41 (t := 45) (by decide) ?_
      exact Ev.sub (l := []) rfl rfl mm_sub_n (t303_45 hd h)
def q303_22 (v1 : Int32) (v2 : Int32) (s : mS) : Option mQ := q303_27 v1 v2 (1 : Int32) s
theorem t303_22 {L : Nat} {xs : Nat → Int32} {d : Nat} (hd : 2 ≤ d) {v1 : Int32} {v2 : Int32} {s : mS} {r : mQ} (h : q303_22 v1 v2 s = some r) : Ev L xs d 303 22 [(0, .ref 512), (1, .int v1), (2, .int v2)] [.ref 512] (hp s) (hr r) := by
  unfold q303_22 at h
  refine Ev.iconst H303 i303_22 kI_1 ?_
  refine Ev.goto H303 i303_23 (t := 27) (by decide) ?_
  exact Ev.sub (l := [(0, .ref 512), (1, .int v1), (2, .int v2)]) rfl rfl (mm_sub_c rfl (mm_sub_c rfl (mm_sub_c rfl mm_sub_n))) (t303_27 hd h)
/-- SerialGateModel.noTwo(II)Z -/
def q303 (v1 : Int32) (v2 : Int32) (s : mS) : Option mQ := sp (sI s 512 0 (0 : Int32)) fun s5 => bN (q275 v1 s5) fun x7 s6 => if ¬ x7 = 0 then (q303_22 v1 v2 s6) else (bN (q275 v2 s6) fun x9 s8 => if x9 = 0 then (q303_27 v1 v2 (0 : Int32) s8) else (q303_22 v1 v2 s8))
theorem c303 {L : Nat} {xs : Nat → Int32} {v1 : Int32} {v2 : Int32} {s : mS} {r : mQ} (h : q303 v1 v2 s = some r) : ∀ d, 2 ≤ d → Cl L xs d 303 [.ref 512, .int v1, .int v2] (hp s) (hr r) := by
  intro d hd
  show Ev L xs d 303 0 [(0, .ref 512), (1, .int v1), (2, .int v2)] [] (hp s) (hr r)
  unfold q303 at h
  refine Ev.aload_n H303 i303_0 rfl ?_
  refine Ev.iconst H303 i303_1 kI_0 ?_
  refine Rd.putI H303 i303_2 ob11 rfl ty11_0.1 ty11_0.2 h (fun s5 h => ?_)
  refine Ev.aload_n H303 i303_5 rfl ?_
  refine Ev.aload_n H303 i303_6 rfl ?_
  refine Ev.iload_n H303 i303_7 rfl ?_
  refine Rd.cV1vN H303 i303_8 cal275 ob11 (Nat.le_of_ble_eq_true rfl) (Nat.le_of_ble_eq_true rfl) (Nat.lt_of_lt_of_le (by decide) hd) (fun q hq => c275 hq) h (fun x7 s6 h => ?_)
  refine Rd.if_ne H303 i303_11 (t := 22) (by decide) h (fun hc h => ?_) (fun hc h => ?_)
  · exact Ev.sub (l := [(0, .ref 512), (1, .int v1), (2, .int v2)]) rfl rfl (mm_sub_c rfl (mm_sub_c rfl (mm_sub_c rfl mm_sub_n))) (t303_22 hd h)
  · refine Ev.aload_n H303 i303_14 rfl ?_
    refine Ev.iload_n H303 i303_15 rfl ?_
    refine Rd.cV1vN H303 i303_16 cal275 ob11 (Nat.le_of_ble_eq_true rfl) (Nat.le_of_ble_eq_true rfl) (Nat.lt_of_lt_of_le (by decide) hd) (fun q hq => c275 hq) h (fun x9 s8 h => ?_)
    refine Rd.if_eq H303 i303_19 (t := 26) (by decide) h (fun hc h => ?_) (fun hc h => ?_)
    · refine Ev.iconst H303 i303_26 kI_0 ?_
      exact Ev.sub (l := [(0, .ref 512), (1, .int v1), (2, .int v2)]) rfl rfl (mm_sub_c rfl (mm_sub_c rfl (mm_sub_c rfl mm_sub_n))) (t303_27 hd h)
    · exact Ev.sub (l := [(0, .ref 512), (1, .int v1), (2, .int v2)]) rfl rfl (mm_sub_c rfl (mm_sub_c rfl (mm_sub_c rfl mm_sub_n))) (t303_22 hd h)
theorem i304_0 : mm_cd 304 0 = some (.aload_n 0, 1, 0, 0) := rfl
theorem i304_1 : mm_cd 304 1 = some (.iload_n 1, 1, 0, 0) := rfl
theorem i304_2 : mm_cd 304 2 = some (.iload_n 2, 1, 0, 0) := rfl
theorem i304_3 : mm_cd 304 3 = some (.invokevirtual 426, 3, 0, 303) := rfl
theorem i304_6 : mm_cd 304 6 = some (.ifCond .ne 16, 3, 0, 0) := rfl
theorem i304_9 : mm_cd 304 9 = some (.aload_n 0, 1, 0, 0) := rfl
theorem i304_10 : mm_cd 304 10 = some (.iload_n 1, 1, 0, 0) := rfl
theorem i304_11 : mm_cd 304 11 = some (.iload_n 2, 1, 0, 0) := rfl
theorem i304_12 : mm_cd 304 12 = some (.invokevirtual 429, 3, 0, 302) := rfl
theorem i304_15 : mm_cd 304 15 = some (.ifCond .eq 7, 3, 0, 0) := rfl
theorem i304_18 : mm_cd 304 18 = some (.iconst 1, 1, 0, 0) := rfl
theorem i304_19 : mm_cd 304 19 = some (.goto 4, 3, 0, 0) := rfl
theorem i304_22 : mm_cd 304 22 = some (.iconst 0, 1, 0, 0) := rfl
theorem i304_23 : mm_cd 304 23 = some (.ireturn, 1, 0, 0) := rfl
/-- SerialGateModel.clash(II)Z -/
def q304 (v1 : Int32) (v2 : Int32) (s : mS) : Option mQ := bN (q303 v1 v2 s) fun x2 s1 => if ¬ x2 = 0 then (rv (0 : Int32) s1) else (bN (q302 v1 v2 s1) fun x4 s3 => if x4 = 0 then (rv (0 : Int32) s3) else (rv (1 : Int32) s3))
theorem c304 {L : Nat} {xs : Nat → Int32} {v1 : Int32} {v2 : Int32} {s : mS} {r : mQ} (h : q304 v1 v2 s = some r) : ∀ d, 4 ≤ d → Cl L xs d 304 [.ref 512, .int v1, .int v2] (hp s) (hr r) := by
  intro d hd
  show Ev L xs d 304 0 [(0, .ref 512), (1, .int v1), (2, .int v2)] [] (hp s) (hr r)
  unfold q304 at h
  refine Ev.aload_n H304 i304_0 rfl ?_
  refine Ev.iload_n H304 i304_1 rfl ?_
  refine Ev.iload_n H304 i304_2 rfl ?_
  refine Rd.cV2vN H304 i304_3 cal303 ob11 (Nat.le_of_ble_eq_true rfl) (Nat.le_of_ble_eq_true rfl) (Nat.lt_of_lt_of_le (by decide) hd) (fun q hq => c303 hq) h (fun x2 s1 h => ?_)
  refine Rd.if_ne H304 i304_6 (t := 22) (by decide) h (fun hc h => ?_) (fun hc h => ?_)
  · refine Ev.iconst H304 i304_22 kI_0 ?_
    exact Rd.ireturnK H304 i304_23 rfl (Or.inl rfl) h
  · refine Ev.aload_n H304 i304_9 rfl ?_
    refine Ev.iload_n H304 i304_10 rfl ?_
    refine Ev.iload_n H304 i304_11 rfl ?_
    refine Rd.cV2vN H304 i304_12 cal302 ob11 (Nat.le_of_ble_eq_true rfl) (Nat.le_of_ble_eq_true rfl) (Nat.lt_of_lt_of_le (by decide) hd) (fun q hq => c302 hq) h (fun x4 s3 h => ?_)
    refine Rd.if_eq H304 i304_15 (t := 22) (by decide) h (fun hc h => ?_) (fun hc h => ?_)
    · refine Ev.iconst H304 i304_22 kI_0 ?_
      exact Rd.ireturnK H304 i304_23 rfl (Or.inl rfl) h
    · refine Ev.iconst H304 i304_18 kI_1 ?_
      refine Ev.goto H304 i304_19 (t := 23) (by decide) ?_
      exact Rd.ireturnK H304 i304_23 rfl (Or.inr rfl) h
theorem i305_0 : mm_cd 305 0 = some (.iconst 1, 1, 0, 0) := rfl
theorem i305_1 : mm_cd 305 1 = some (.istore_n 2, 1, 0, 0) := rfl
theorem i305_2 : mm_cd 305 2 = some (.iconst 0, 1, 0, 0) := rfl
theorem i305_3 : mm_cd 305 3 = some (.istore_n 3, 1, 0, 0) := rfl
theorem i305_4 : mm_cd 305 4 = some (.iload_n 3, 1, 0, 0) := rfl
theorem i305_5 : mm_cd 305 5 = some (.aload_n 0, 1, 0, 0) := rfl
theorem i305_6 : mm_cd 305 6 = some (.invokevirtual 129, 3, 0, 198) := rfl
theorem i305_9 : mm_cd 305 9 = some (.if_icmp .ge 61, 3, 0, 0) := rfl
theorem i305_12 : mm_cd 305 12 = some (.iconst 0, 1, 0, 0) := rfl
theorem i305_13 : mm_cd 305 13 = some (.istore 4, 2, 0, 0) := rfl
theorem i305_15 : mm_cd 305 15 = some (.iload 4, 2, 0, 0) := rfl
theorem i305_17 : mm_cd 305 17 = some (.iload_n 3, 1, 0, 0) := rfl
theorem i305_18 : mm_cd 305 18 = some (.if_icmp .ge 46, 3, 0, 0) := rfl
theorem i305_21 : mm_cd 305 21 = some (.iload_n 2, 1, 0, 0) := rfl
theorem i305_22 : mm_cd 305 22 = some (.ifCond .eq 34, 3, 0, 0) := rfl
theorem i305_25 : mm_cd 305 25 = some (.iload_n 1, 1, 0, 0) := rfl
theorem i305_26 : mm_cd 305 26 = some (.iload_n 3, 1, 0, 0) := rfl
theorem i305_27 : mm_cd 305 27 = some (.invokestatic 79, 3, 0, 190) := rfl
theorem i305_30 : mm_cd 305 30 = some (.ifCond .eq 22, 3, 0, 0) := rfl
theorem i305_33 : mm_cd 305 33 = some (.iload_n 1, 1, 0, 0) := rfl
theorem i305_34 : mm_cd 305 34 = some (.iload 4, 2, 0, 0) := rfl
theorem i305_36 : mm_cd 305 36 = some (.invokestatic 79, 3, 0, 190) := rfl
theorem i305_39 : mm_cd 305 39 = some (.ifCond .eq 13, 3, 0, 0) := rfl
theorem i305_42 : mm_cd 305 42 = some (.aload_n 0, 1, 0, 0) := rfl
theorem i305_43 : mm_cd 305 43 = some (.iload_n 3, 1, 0, 0) := rfl
theorem i305_44 : mm_cd 305 44 = some (.iload 4, 2, 0, 0) := rfl
theorem i305_46 : mm_cd 305 46 = some (.invokevirtual 429, 3, 0, 302) := rfl
theorem i305_49 : mm_cd 305 49 = some (.ifCond .ne 7, 3, 0, 0) := rfl
theorem i305_52 : mm_cd 305 52 = some (.iconst 1, 1, 0, 0) := rfl
theorem i305_53 : mm_cd 305 53 = some (.goto 4, 3, 0, 0) := rfl
theorem i305_56 : mm_cd 305 56 = some (.iconst 0, 1, 0, 0) := rfl
theorem i305_57 : mm_cd 305 57 = some (.istore_n 2, 1, 0, 0) := rfl
theorem i305_58 : mm_cd 305 58 = some (.iinc 4 1, 3, 0, 0) := rfl
theorem i305_61 : mm_cd 305 61 = some (.goto (-46), 3, 0, 0) := rfl
theorem i305_64 : mm_cd 305 64 = some (.iinc 3 1, 3, 0, 0) := rfl
theorem i305_67 : mm_cd 305 67 = some (.goto (-63), 3, 0, 0) := rfl
theorem i305_70 : mm_cd 305 70 = some (.iload_n 2, 1, 0, 0) := rfl
theorem i305_71 : mm_cd 305 71 = some (.ireturn, 1, 0, 0) := rfl
def q305_57 (k15 : Int32 → Int32 → Int32 → Int32 → mS → Option mQ) (v1 : Int32) (v3 : Int32) (v4 : Int32) (y0 : Int32) (s : mS) : Option mQ := bx (v4 + (1 : Int32)) fun x1 => k15 v1 y0 v3 x1 s
theorem t305_57 {L : Nat} {xs : Nat → Int32} {d : Nat} {k15 : Int32 → Int32 → Int32 → Int32 → mS → Option mQ} (hk15 : ∀ (v1 : Int32) (v2 : Int32) (v3 : Int32) (v4 : Int32) (s : mS) (r : mQ), k15 v1 v2 v3 v4 s = some r → Ev L xs d 305 15 [(0, .ref 512), (1, .int v1), (2, .int v2), (3, .int v3), (4, .int v4)] [] (hp s) (hr r)) (hd : 4 ≤ d) {v1 : Int32} {v3 : Int32} {v4 : Int32} {y0 : Int32} {s : mS} {r : mQ} (h : q305_57 k15 v1 v3 v4 y0 s = some r) : Ev L xs d 305 57 [(0, .ref 512), (1, .int v1), (3, .int v3), (4, .int v4)] [.int y0] (hp s) (hr r) := by
  unfold q305_57 at h
  refine Ev.istore_n H305 i305_57 (Nat.le_of_ble_eq_true rfl) (lv2 := [(2, .int y0), (0, .ref 512), (1, .int v1), (3, .int v3), (4, .int v4)]) rfl ?_
  refine Rd.iinc H305 i305_58 (Nat.le_of_ble_eq_true rfl) rfl kI_1 (lv2 := fun x1 => [(4, .int x1), (2, .int y0), (0, .ref 512), (1, .int v1), (3, .int v3)]) (fun _ => rfl) h (fun x1 h => ?_)
  refine Ev.goto H305 i305_61 (t := 15) (by decide) ?_
  exact Ev.sub (l := [(0, .ref 512), (1, .int v1), (2, .int y0), (3, .int v3), (4, .int x1)]) rfl rfl (mm_sub_c rfl (mm_sub_c rfl (mm_sub_c rfl (mm_sub_c rfl (mm_sub_c rfl mm_sub_n))))) (hk15 _ _ _ _ _ _ h)
def q305_56 (k15 : Int32 → Int32 → Int32 → Int32 → mS → Option mQ) (v1 : Int32) (v3 : Int32) (v4 : Int32) (s : mS) : Option mQ := q305_57 k15 v1 v3 v4 (0 : Int32) s
theorem t305_56 {L : Nat} {xs : Nat → Int32} {d : Nat} {k15 : Int32 → Int32 → Int32 → Int32 → mS → Option mQ} (hk15 : ∀ (v1 : Int32) (v2 : Int32) (v3 : Int32) (v4 : Int32) (s : mS) (r : mQ), k15 v1 v2 v3 v4 s = some r → Ev L xs d 305 15 [(0, .ref 512), (1, .int v1), (2, .int v2), (3, .int v3), (4, .int v4)] [] (hp s) (hr r)) (hd : 4 ≤ d) {v1 : Int32} {v3 : Int32} {v4 : Int32} {s : mS} {r : mQ} (h : q305_56 k15 v1 v3 v4 s = some r) : Ev L xs d 305 56 [(0, .ref 512), (1, .int v1), (3, .int v3), (4, .int v4)] [] (hp s) (hr r) := by
  unfold q305_56 at h
  refine Ev.iconst H305 i305_56 kI_0 ?_
  exact Ev.sub (l := [(0, .ref 512), (1, .int v1), (3, .int v3), (4, .int v4)]) rfl rfl (mm_sub_c rfl (mm_sub_c rfl (mm_sub_c rfl (mm_sub_c rfl mm_sub_n)))) (t305_57 (k15 := k15) hk15 hd h)
def q305_52 (k15 : Int32 → Int32 → Int32 → Int32 → mS → Option mQ) (v1 : Int32) (v3 : Int32) (v4 : Int32) (s : mS) : Option mQ := q305_57 k15 v1 v3 v4 (1 : Int32) s
theorem t305_52 {L : Nat} {xs : Nat → Int32} {d : Nat} {k15 : Int32 → Int32 → Int32 → Int32 → mS → Option mQ} (hk15 : ∀ (v1 : Int32) (v2 : Int32) (v3 : Int32) (v4 : Int32) (s : mS) (r : mQ), k15 v1 v2 v3 v4 s = some r → Ev L xs d 305 15 [(0, .ref 512), (1, .int v1), (2, .int v2), (3, .int v3), (4, .int v4)] [] (hp s) (hr r)) (hd : 4 ≤ d) {v1 : Int32} {v3 : Int32} {v4 : Int32} {s : mS} {r : mQ} (h : q305_52 k15 v1 v3 v4 s = some r) : Ev L xs d 305 52 [(0, .ref 512), (1, .int v1), (3, .int v3), (4, .int v4)] [] (hp s) (hr r) := by
  unfold q305_52 at h
  refine Ev.iconst H305 i305_52 kI_1 ?_
  refine Ev.goto H305 i305_53 (t := 57) (by decide) ?_
  exact Ev.sub (l := [(0, .ref 512), (1, .int v1), (3, .int v3), (4, .int v4)]) rfl rfl (mm_sub_c rfl (mm_sub_c rfl (mm_sub_c rfl (mm_sub_c rfl mm_sub_n)))) (t305_57 (k15 := k15) hk15 hd h)
def q305_15 (k64 : Int32 → Int32 → Int32 → mS → Option mQ) : Nat → Int32 → Int32 → Int32 → Int32 → mS → Option mQ
  | 0, _, _, _, _, _ => none
  | n + 1, v1, v2, v3, v4, s => if v3 ≤ v4 then (k64 v1 v2 v3 s) else (if v2 = 0 then (q305_56 (q305_15 k64 n) v1 v3 v4 s) else (bN (q190 v1 v3 s) fun x3 s2 => if x3 = 0 then (q305_52 (q305_15 k64 n) v1 v3 v4 s2) else (bN (q190 v1 v4 s2) fun x5 s4 => if x5 = 0 then (q305_52 (q305_15 k64 n) v1 v3 v4 s4) else (bN (q302 v3 v4 s4) fun x7 s6 => if ¬ x7 = 0 then (q305_56 (q305_15 k64 n) v1 v3 v4 s6) else (q305_52 (q305_15 k64 n) v1 v3 v4 s6)))))
theorem t305_15 {L : Nat} {xs : Nat → Int32} {d : Nat} {k64 : Int32 → Int32 → Int32 → mS → Option mQ} (hk64 : ∀ (v1 : Int32) (v2 : Int32) (v3 : Int32) (s : mS) (r : mQ), k64 v1 v2 v3 s = some r → Ev L xs d 305 64 [(0, .ref 512), (1, .int v1), (2, .int v2), (3, .int v3)] [] (hp s) (hr r)) (hd : 4 ≤ d) : ∀ (n : Nat) (v1 : Int32) (v2 : Int32) (v3 : Int32) (v4 : Int32) (s : mS) (r : mQ), q305_15 k64 n v1 v2 v3 v4 s = some r → Ev L xs d 305 15 [(0, .ref 512), (1, .int v1), (2, .int v2), (3, .int v3), (4, .int v4)] [] (hp s) (hr r) := by
  intro n
  induction n with
  | zero => intro v1 v2 v3 v4 s r h; rw [q305_15] at h; cases h
  | succ n ih =>
    intro v1 v2 v3 v4 s r h
    rw [q305_15] at h
    refine Ev.iload H305 i305_15 rfl ?_
    refine Ev.iload_n H305 i305_17 rfl ?_
    refine Rd.ic_ge H305 i305_18 (t := 64) (by decide) h (fun hc h => ?_) (fun hc h => ?_)
    · exact Ev.sub (l := [(0, .ref 512), (1, .int v1), (2, .int v2), (3, .int v3)]) rfl rfl (mm_sub_c rfl (mm_sub_c rfl (mm_sub_c rfl (mm_sub_c rfl mm_sub_n)))) (hk64 _ _ _ _ _ h)
    · refine Ev.iload_n H305 i305_21 rfl ?_
      refine Rd.if_eq H305 i305_22 (t := 56) (by decide) h (fun hc h => ?_) (fun hc h => ?_)
      · exact Ev.sub (l := [(0, .ref 512), (1, .int v1), (3, .int v3), (4, .int v4)]) rfl rfl (mm_sub_c rfl (mm_sub_c rfl (mm_sub_c rfl (mm_sub_c rfl mm_sub_n)))) (t305_56 (k15 := (q305_15 k64 n)) (fun _ _ _ _ _ _ h => ih _ _ _ _ _ _ h) hd h)
      · refine Ev.iload_n H305 i305_25 rfl ?_
        refine Ev.iload_n H305 i305_26 rfl ?_
        refine Rd.cS2vN H305 i305_27 cal190 (Nat.le_of_ble_eq_true rfl) (Nat.le_of_ble_eq_true rfl) (Nat.lt_of_lt_of_le (by decide) hd) (fun q hq => c190 hq) h (fun x3 s2 h => ?_)
        refine Rd.if_eq H305 i305_30 (t := 52) (by decide) h (fun hc h => ?_) (fun hc h => ?_)
        · exact Ev.sub (l := [(0, .ref 512), (1, .int v1), (3, .int v3), (4, .int v4)]) rfl rfl (mm_sub_c rfl (mm_sub_c rfl (mm_sub_c rfl (mm_sub_c rfl mm_sub_n)))) (t305_52 (k15 := (q305_15 k64 n)) (fun _ _ _ _ _ _ h => ih _ _ _ _ _ _ h) hd h)
        · refine Ev.iload_n H305 i305_33 rfl ?_
          refine Ev.iload H305 i305_34 rfl ?_
          refine Rd.cS2vN H305 i305_36 cal190 (Nat.le_of_ble_eq_true rfl) (Nat.le_of_ble_eq_true rfl) (Nat.lt_of_lt_of_le (by decide) hd) (fun q hq => c190 hq) h (fun x5 s4 h => ?_)
          refine Rd.if_eq H305 i305_39 (t := 52) (by decide) h (fun hc h => ?_) (fun hc h => ?_)
          · exact Ev.sub (l := [(0, .ref 512), (1, .int v1), (3, .int v3), (4, .int v4)]) rfl rfl (mm_sub_c rfl (mm_sub_c rfl (mm_sub_c rfl (mm_sub_c rfl mm_sub_n)))) (t305_52 (k15 := (q305_15 k64 n)) (fun _ _ _ _ _ _ h => ih _ _ _ _ _ _ h) hd h)
          · refine Ev.aload_n H305 i305_42 rfl ?_
            refine Ev.iload_n H305 i305_43 rfl ?_
            refine Ev.iload H305 i305_44 rfl ?_
            refine Rd.cV2vN H305 i305_46 cal302 ob11 (Nat.le_of_ble_eq_true rfl) (Nat.le_of_ble_eq_true rfl) (Nat.lt_of_lt_of_le (by decide) hd) (fun q hq => c302 hq) h (fun x7 s6 h => ?_)
            refine Rd.if_ne H305 i305_49 (t := 56) (by decide) h (fun hc h => ?_) (fun hc h => ?_)
            · exact Ev.sub (l := [(0, .ref 512), (1, .int v1), (3, .int v3), (4, .int v4)]) rfl rfl (mm_sub_c rfl (mm_sub_c rfl (mm_sub_c rfl (mm_sub_c rfl mm_sub_n)))) (t305_56 (k15 := (q305_15 k64 n)) (fun _ _ _ _ _ _ h => ih _ _ _ _ _ _ h) hd h)
            · exact Ev.sub (l := [(0, .ref 512), (1, .int v1), (3, .int v3), (4, .int v4)]) rfl rfl (mm_sub_c rfl (mm_sub_c rfl (mm_sub_c rfl (mm_sub_c rfl mm_sub_n)))) (t305_52 (k15 := (q305_15 k64 n)) (fun _ _ _ _ _ _ h => ih _ _ _ _ _ _ h) hd h)
def q305_64 (k4 : Int32 → Int32 → Int32 → mS → Option mQ) (v1 : Int32) (v2 : Int32) (v3 : Int32) (s : mS) : Option mQ := bx (v3 + (1 : Int32)) fun x8 => k4 v1 v2 x8 s
theorem t305_64 {L : Nat} {xs : Nat → Int32} {d : Nat} {k4 : Int32 → Int32 → Int32 → mS → Option mQ} (hk4 : ∀ (v1 : Int32) (v2 : Int32) (v3 : Int32) (s : mS) (r : mQ), k4 v1 v2 v3 s = some r → Ev L xs d 305 4 [(0, .ref 512), (1, .int v1), (2, .int v2), (3, .int v3)] [] (hp s) (hr r)) (hd : 4 ≤ d) {v1 : Int32} {v2 : Int32} {v3 : Int32} {s : mS} {r : mQ} (h : q305_64 k4 v1 v2 v3 s = some r) : Ev L xs d 305 64 [(0, .ref 512), (1, .int v1), (2, .int v2), (3, .int v3)] [] (hp s) (hr r) := by
  unfold q305_64 at h
  refine Rd.iinc H305 i305_64 (Nat.le_of_ble_eq_true rfl) rfl kI_1 (lv2 := fun x8 => [(3, .int x8), (0, .ref 512), (1, .int v1), (2, .int v2)]) (fun _ => rfl) h (fun x8 h => ?_)
  refine Ev.goto H305 i305_67 (t := 4) (by decide) ?_
  exact Ev.sub (l := [(0, .ref 512), (1, .int v1), (2, .int v2), (3, .int x8)]) rfl rfl (mm_sub_c rfl (mm_sub_c rfl (mm_sub_c rfl (mm_sub_c rfl mm_sub_n)))) (hk4 _ _ _ _ _ h)
def q305_4 : Nat → Int32 → Int32 → Int32 → mS → Option mQ
  | 0, _, _, _, _ => none
  | n + 1, v1, v2, v3, s => bN (q198 s) fun x10 s9 => if x10 ≤ v3 then (gB v2 <| rv v2 s9) else (q305_15 (q305_64 (q305_4 n)) 10000 v1 v2 v3 (0 : Int32) s9)
theorem t305_4 {L : Nat} {xs : Nat → Int32} {d : Nat} (hd : 4 ≤ d) : ∀ (n : Nat) (v1 : Int32) (v2 : Int32) (v3 : Int32) (s : mS) (r : mQ), q305_4 n v1 v2 v3 s = some r → Ev L xs d 305 4 [(0, .ref 512), (1, .int v1), (2, .int v2), (3, .int v3)] [] (hp s) (hr r) := by
  intro n
  induction n with
  | zero => intro v1 v2 v3 s r h; rw [q305_4] at h; cases h
  | succ n ih =>
    intro v1 v2 v3 s r h
    rw [q305_4] at h
    refine Ev.iload_n H305 i305_4 rfl ?_
    refine Ev.aload_n H305 i305_5 rfl ?_
    refine Rd.cV0vN H305 i305_6 cal198 ob11 (Nat.le_of_ble_eq_true rfl) (Nat.le_of_ble_eq_true rfl) (Nat.lt_of_lt_of_le (by decide) hd) (fun q hq => c198 hq) h (fun x10 s9 h => ?_)
    refine Rd.ic_ge H305 i305_9 (t := 70) (by decide) h (fun hc h => ?_) (fun hc h => ?_)
    · refine Ev.iload_n H305 i305_70 rfl ?_
      exact Rd.ireturnZ H305 i305_71 rfl h
    · refine Ev.iconst H305 i305_12 kI_0 ?_
      refine Ev.istore H305 i305_13 (Nat.le_of_ble_eq_true rfl) (lv2 := [(4, .int (0 : Int32)), (0, .ref 512), (1, .int v1), (2, .int v2), (3, .int v3)]) rfl ?_
      exact Ev.sub (l := [(0, .ref 512), (1, .int v1), (2, .int v2), (3, .int v3), (4, .int (0 : Int32))]) rfl rfl (mm_sub_c rfl (mm_sub_c rfl (mm_sub_c rfl (mm_sub_c rfl (mm_sub_c rfl mm_sub_n))))) (t305_15 (k64 := (q305_64 (q305_4 n))) (fun _ _ _ _ _ h => t305_64 (k4 := (q305_4 n)) (fun _ _ _ _ _ h => ih _ _ _ _ _ h) hd h) hd 10000 _ _ _ _ _ _ h)
/-- SerialGateModel.noneClash(I)Z -/
def q305 (v1 : Int32) (s : mS) : Option mQ := q305_4 10000 v1 (1 : Int32) (0 : Int32) s
theorem c305 {L : Nat} {xs : Nat → Int32} {v1 : Int32} {s : mS} {r : mQ} (h : q305 v1 s = some r) : ∀ d, 4 ≤ d → Cl L xs d 305 [.ref 512, .int v1] (hp s) (hr r) := by
  intro d hd
  show Ev L xs d 305 0 [(0, .ref 512), (1, .int v1)] [] (hp s) (hr r)
  unfold q305 at h
  refine Ev.iconst H305 i305_0 kI_1 ?_
  refine Ev.istore_n H305 i305_1 (Nat.le_of_ble_eq_true rfl) (lv2 := [(2, .int (1 : Int32)), (0, .ref 512), (1, .int v1)]) rfl ?_
  refine Ev.iconst H305 i305_2 kI_0 ?_
  refine Ev.istore_n H305 i305_3 (Nat.le_of_ble_eq_true rfl) (lv2 := [(3, .int (0 : Int32)), (2, .int (1 : Int32)), (0, .ref 512), (1, .int v1)]) rfl ?_
  exact Ev.sub (l := [(0, .ref 512), (1, .int v1), (2, .int (1 : Int32)), (3, .int (0 : Int32))]) rfl rfl (mm_sub_c rfl (mm_sub_c rfl (mm_sub_c rfl (mm_sub_c rfl mm_sub_n)))) (t305_4 hd 10000 _ _ _ _ _ h)
theorem i306_0 : mm_cd 306 0 = some (.aload_n 0, 1, 0, 0) := rfl
theorem i306_1 : mm_cd 306 1 = some (.iconst 0, 1, 0, 0) := rfl
theorem i306_2 : mm_cd 306 2 = some (.putfield 3, 3, ((11 : Nat) : Int), 0) := rfl
theorem i306_5 : mm_cd 306 5 = some (.iconst 0, 1, 0, 0) := rfl
theorem i306_6 : mm_cd 306 6 = some (.istore_n 1, 1, 0, 0) := rfl
theorem i306_7 : mm_cd 306 7 = some (.iconst 1, 1, 0, 0) := rfl
theorem i306_8 : mm_cd 306 8 = some (.istore_n 2, 1, 0, 0) := rfl
theorem i306_9 : mm_cd 306 9 = some (.iload_n 2, 1, 0, 0) := rfl
theorem i306_10 : mm_cd 306 10 = some (.iconst 1, 1, 0, 0) := rfl
theorem i306_11 : mm_cd 306 11 = some (.aload_n 0, 1, 0, 0) := rfl
theorem i306_12 : mm_cd 306 12 = some (.invokevirtual 129, 3, 0, 198) := rfl
theorem i306_15 : mm_cd 306 15 = some (.ishl, 1, 0, 0) := rfl
theorem i306_16 : mm_cd 306 16 = some (.if_icmp .ge 34, 3, 0, 0) := rfl
theorem i306_19 : mm_cd 306 19 = some (.iload_n 2, 1, 0, 0) := rfl
theorem i306_20 : mm_cd 306 20 = some (.invokestatic 258, 3, 0, 343) := rfl
theorem i306_23 : mm_cd 306 23 = some (.iload_n 1, 1, 0, 0) := rfl
theorem i306_24 : mm_cd 306 24 = some (.invokestatic 258, 3, 0, 343) := rfl
theorem i306_27 : mm_cd 306 27 = some (.if_icmp .le 15, 3, 0, 0) := rfl
theorem i306_30 : mm_cd 306 30 = some (.aload_n 0, 1, 0, 0) := rfl
theorem i306_31 : mm_cd 306 31 = some (.iload_n 2, 1, 0, 0) := rfl
theorem i306_32 : mm_cd 306 32 = some (.invokevirtual 432, 3, 0, 305) := rfl
theorem i306_35 : mm_cd 306 35 = some (.ifCond .eq 7, 3, 0, 0) := rfl
theorem i306_38 : mm_cd 306 38 = some (.iload_n 2, 1, 0, 0) := rfl
theorem i306_39 : mm_cd 306 39 = some (.goto 4, 3, 0, 0) := rfl
theorem i306_42 : mm_cd 306 42 = some (.iload_n 1, 1, 0, 0) := rfl
theorem i306_43 : mm_cd 306 43 = some (.istore_n 1, 1, 0, 0) := rfl
theorem i306_44 : mm_cd 306 44 = some (.iinc 2 1, 3, 0, 0) := rfl
theorem i306_47 : mm_cd 306 47 = some (.goto (-38), 3, 0, 0) := rfl
theorem i306_50 : mm_cd 306 50 = some (.iload_n 1, 1, 0, 0) := rfl
theorem i306_51 : mm_cd 306 51 = some (.ireturn, 1, 0, 0) := rfl
def q306_43 (k9 : Int32 → Int32 → mS → Option mQ) (v2 : Int32) (y0 : Int32) (s : mS) : Option mQ := bx (v2 + (1 : Int32)) fun x1 => k9 y0 x1 s
theorem t306_43 {L : Nat} {xs : Nat → Int32} {d : Nat} {k9 : Int32 → Int32 → mS → Option mQ} (hk9 : ∀ (v1 : Int32) (v2 : Int32) (s : mS) (r : mQ), k9 v1 v2 s = some r → Ev L xs d 306 9 [(0, .ref 512), (1, .int v1), (2, .int v2)] [] (hp s) (hr r)) (hd : 5 ≤ d) {v2 : Int32} {y0 : Int32} {s : mS} {r : mQ} (h : q306_43 k9 v2 y0 s = some r) : Ev L xs d 306 43 [(0, .ref 512), (2, .int v2)] [.int y0] (hp s) (hr r) := by
  unfold q306_43 at h
  refine Ev.istore_n H306 i306_43 (Nat.le_of_ble_eq_true rfl) (lv2 := [(1, .int y0), (0, .ref 512), (2, .int v2)]) rfl ?_
  refine Rd.iinc H306 i306_44 (Nat.le_of_ble_eq_true rfl) rfl kI_1 (lv2 := fun x1 => [(2, .int x1), (1, .int y0), (0, .ref 512)]) (fun _ => rfl) h (fun x1 h => ?_)
  refine Ev.goto H306 i306_47 (t := 9) (by decide) ?_
  exact Ev.sub (l := [(0, .ref 512), (1, .int y0), (2, .int x1)]) rfl rfl (mm_sub_c rfl (mm_sub_c rfl (mm_sub_c rfl mm_sub_n))) (hk9 _ _ _ _ h)
def q306_42 (k9 : Int32 → Int32 → mS → Option mQ) (v1 : Int32) (v2 : Int32) (s : mS) : Option mQ := q306_43 k9 v2 v1 s
theorem t306_42 {L : Nat} {xs : Nat → Int32} {d : Nat} {k9 : Int32 → Int32 → mS → Option mQ} (hk9 : ∀ (v1 : Int32) (v2 : Int32) (s : mS) (r : mQ), k9 v1 v2 s = some r → Ev L xs d 306 9 [(0, .ref 512), (1, .int v1), (2, .int v2)] [] (hp s) (hr r)) (hd : 5 ≤ d) {v1 : Int32} {v2 : Int32} {s : mS} {r : mQ} (h : q306_42 k9 v1 v2 s = some r) : Ev L xs d 306 42 [(0, .ref 512), (1, .int v1), (2, .int v2)] [] (hp s) (hr r) := by
  unfold q306_42 at h
  refine Ev.iload_n H306 i306_42 rfl ?_
  exact Ev.sub (l := [(0, .ref 512), (2, .int v2)]) rfl rfl (mm_sub_c rfl (mm_sub_c rfl mm_sub_n)) (t306_43 (k9 := k9) hk9 hd h)
def q306_9 : Nat → Int32 → Int32 → mS → Option mQ
  | 0, _, _, _ => none
  | n + 1, v1, v2, s => bN (q198 s) fun x3 s2 => if (shlI (1 : Int32) x3) ≤ v2 then (rv v1 s2) else (bN (q343 v2 s2) fun x5 s4 => bN (q343 v1 s4) fun x7 s6 => if x5 ≤ x7 then (q306_42 (q306_9 n) v1 v2 s6) else (bN (q305 v2 s6) fun x9 s8 => if x9 = 0 then (q306_42 (q306_9 n) v1 v2 s8) else (q306_43 (q306_9 n) v2 v2 s8)))
theorem t306_9 {L : Nat} {xs : Nat → Int32} {d : Nat} (hd : 5 ≤ d) : ∀ (n : Nat) (v1 : Int32) (v2 : Int32) (s : mS) (r : mQ), q306_9 n v1 v2 s = some r → Ev L xs d 306 9 [(0, .ref 512), (1, .int v1), (2, .int v2)] [] (hp s) (hr r) := by
  intro n
  induction n with
  | zero => intro v1 v2 s r h; rw [q306_9] at h; cases h
  | succ n ih =>
    intro v1 v2 s r h
    rw [q306_9] at h
    refine Ev.iload_n H306 i306_9 rfl ?_
    refine Ev.iconst H306 i306_10 kI_1 ?_
    refine Ev.aload_n H306 i306_11 rfl ?_
    refine Rd.cV0vN H306 i306_12 cal198 ob11 (Nat.le_of_ble_eq_true rfl) (Nat.le_of_ble_eq_true rfl) (Nat.lt_of_lt_of_le (by decide) hd) (fun q hq => c198 hq) h (fun x3 s2 h => ?_)
    refine Rd.ishl H306 i306_15 ?_
    refine Rd.ic_ge H306 i306_16 (t := 50) (by decide) h (fun hc h => ?_) (fun hc h => ?_)
    · refine Ev.iload_n H306 i306_50 rfl ?_
      exact Rd.ireturn H306 i306_51 rfl h
    · refine Ev.iload_n H306 i306_19 rfl ?_
      refine Rd.cS1vN H306 i306_20 cal343 (Nat.le_of_ble_eq_true rfl) (Nat.le_of_ble_eq_true rfl) (Nat.lt_of_lt_of_le (by decide) hd) (fun q hq => c343 hq) h (fun x5 s4 h => ?_)
      refine Ev.iload_n H306 i306_23 rfl ?_
      refine Rd.cS1vN H306 i306_24 cal343 (Nat.le_of_ble_eq_true rfl) (Nat.le_of_ble_eq_true rfl) (Nat.lt_of_lt_of_le (by decide) hd) (fun q hq => c343 hq) h (fun x7 s6 h => ?_)
      refine Rd.ic_le H306 i306_27 (t := 42) (by decide) h (fun hc h => ?_) (fun hc h => ?_)
      · exact Ev.sub (l := [(0, .ref 512), (1, .int v1), (2, .int v2)]) rfl rfl (mm_sub_c rfl (mm_sub_c rfl (mm_sub_c rfl mm_sub_n))) (t306_42 (k9 := (q306_9 n)) (fun _ _ _ _ h => ih _ _ _ _ h) hd h)
      · refine Ev.aload_n H306 i306_30 rfl ?_
        refine Ev.iload_n H306 i306_31 rfl ?_
        refine Rd.cV1vN H306 i306_32 cal305 ob11 (Nat.le_of_ble_eq_true rfl) (Nat.le_of_ble_eq_true rfl) (Nat.lt_of_lt_of_le (by decide) hd) (fun q hq => c305 hq) h (fun x9 s8 h => ?_)
        refine Rd.if_eq H306 i306_35 (t := 42) (by decide) h (fun hc h => ?_) (fun hc h => ?_)
        · exact Ev.sub (l := [(0, .ref 512), (1, .int v1), (2, .int v2)]) rfl rfl (mm_sub_c rfl (mm_sub_c rfl (mm_sub_c rfl mm_sub_n))) (t306_42 (k9 := (q306_9 n)) (fun _ _ _ _ h => ih _ _ _ _ h) hd h)
        · refine Ev.iload_n H306 i306_38 rfl ?_
          refine Ev.goto H306 i306_39 (t := 43) (by decide) ?_
          exact Ev.sub (l := [(0, .ref 512), (2, .int v2)]) rfl rfl (mm_sub_c rfl (mm_sub_c rfl mm_sub_n)) (t306_43 (k9 := (q306_9 n)) (fun _ _ _ _ h => ih _ _ _ _ h) hd h)
/-- SerialGateModel.apart()I -/
def q306 (s : mS) : Option mQ := sp (sI s 512 0 (0 : Int32)) fun s10 => q306_9 10000 (0 : Int32) (1 : Int32) s10
theorem c306 {L : Nat} {xs : Nat → Int32} {s : mS} {r : mQ} (h : q306 s = some r) : ∀ d, 5 ≤ d → Cl L xs d 306 [.ref 512] (hp s) (hr r) := by
  intro d hd
  show Ev L xs d 306 0 [(0, .ref 512)] [] (hp s) (hr r)
  unfold q306 at h
  refine Ev.aload_n H306 i306_0 rfl ?_
  refine Ev.iconst H306 i306_1 kI_0 ?_
  refine Rd.putI H306 i306_2 ob11 rfl ty11_0.1 ty11_0.2 h (fun s10 h => ?_)
  refine Ev.iconst H306 i306_5 kI_0 ?_
  refine Ev.istore_n H306 i306_6 (Nat.le_of_ble_eq_true rfl) (lv2 := [(1, .int (0 : Int32)), (0, .ref 512)]) rfl ?_
  refine Ev.iconst H306 i306_7 kI_1 ?_
  refine Ev.istore_n H306 i306_8 (Nat.le_of_ble_eq_true rfl) (lv2 := [(2, .int (1 : Int32)), (1, .int (0 : Int32)), (0, .ref 512)]) rfl ?_
  exact Ev.sub (l := [(0, .ref 512), (1, .int (0 : Int32)), (2, .int (1 : Int32))]) rfl rfl (mm_sub_c rfl (mm_sub_c rfl (mm_sub_c rfl mm_sub_n))) (t306_9 hd 10000 _ _ _ _ h)
theorem i309_0 : mm_cd 309 0 = some (.aload_n 0, 1, 0, 0) := rfl
theorem i309_1 : mm_cd 309 1 = some (.iconst 0, 1, 0, 0) := rfl
theorem i309_2 : mm_cd 309 2 = some (.putfield 3, 3, ((11 : Nat) : Int), 0) := rfl
theorem i309_5 : mm_cd 309 5 = some (.aload_n 0, 1, 0, 0) := rfl
theorem i309_6 : mm_cd 309 6 = some (.invokevirtual 383, 3, 0, 308) := rfl
theorem i309_9 : mm_cd 309 9 = some (.aload_n 0, 1, 0, 0) := rfl
theorem i309_10 : mm_cd 309 10 = some (.getfield 435, 3, ((11 : Nat) : Int), 20) := rfl
theorem i309_13 : mm_cd 309 13 = some (.ireturn, 1, 0, 0) := rfl
/-- SerialGateModel.rounds()I -/
def q309 (s : mS) : Option mQ := sp (sI s 512 0 (0 : Int32)) fun s1 => bM (q308 s1) fun s2 => rv (s2.1 512 20) s2
theorem c309 {L : Nat} {xs : Nat → Int32} {s : mS} {r : mQ} (h : q309 s = some r) : ∀ d, 6 ≤ d → Cl L xs d 309 [.ref 512] (hp s) (hr r) := by
  intro d hd
  show Ev L xs d 309 0 [(0, .ref 512)] [] (hp s) (hr r)
  unfold q309 at h
  refine Ev.aload_n H309 i309_0 rfl ?_
  refine Ev.iconst H309 i309_1 kI_0 ?_
  refine Rd.putI H309 i309_2 ob11 rfl ty11_0.1 ty11_0.2 h (fun s1 h => ?_)
  refine Ev.aload_n H309 i309_5 rfl ?_
  refine Rd.cV0uN H309 i309_6 cal308 ob11 (Nat.le_of_ble_eq_true rfl) (Nat.le_of_ble_eq_true rfl) (Nat.lt_of_lt_of_le (by decide) hd) (fun q hq => c308 hq) h (fun s2 h => ?_)
  refine Ev.aload_n H309 i309_9 rfl ?_
  refine Rd.getI H309 i309_10 ob11 rfl ?_
  exact Rd.ireturn H309 i309_13 rfl h
theorem i310_0 : mm_cd 310 0 = some (.iconst 1, 1, 0, 0) := rfl
theorem i310_1 : mm_cd 310 1 = some (.istore_n 2, 1, 0, 0) := rfl
theorem i310_2 : mm_cd 310 2 = some (.iconst 0, 1, 0, 0) := rfl
theorem i310_3 : mm_cd 310 3 = some (.istore_n 3, 1, 0, 0) := rfl
theorem i310_4 : mm_cd 310 4 = some (.iload_n 3, 1, 0, 0) := rfl
theorem i310_5 : mm_cd 310 5 = some (.aload_n 0, 1, 0, 0) := rfl
theorem i310_6 : mm_cd 310 6 = some (.invokevirtual 129, 3, 0, 198) := rfl
theorem i310_9 : mm_cd 310 9 = some (.if_icmp .ge 37, 3, 0, 0) := rfl
theorem i310_12 : mm_cd 310 12 = some (.iload_n 2, 1, 0, 0) := rfl
theorem i310_13 : mm_cd 310 13 = some (.ifCond .eq 33, 3, 0, 0) := rfl
theorem i310_16 : mm_cd 310 16 = some (.aload_n 0, 1, 0, 0) := rfl
theorem i310_17 : mm_cd 310 17 = some (.iload_n 3, 1, 0, 0) := rfl
theorem i310_18 : mm_cd 310 18 = some (.invokevirtual 423, 3, 0, 301) := rfl
theorem i310_21 : mm_cd 310 21 = some (.ifCond .eq 13, 3, 0, 0) := rfl
theorem i310_24 : mm_cd 310 24 = some (.aload_n 0, 1, 0, 0) := rfl
theorem i310_25 : mm_cd 310 25 = some (.iload_n 3, 1, 0, 0) := rfl
theorem i310_26 : mm_cd 310 26 = some (.invokevirtual 423, 3, 0, 301) := rfl
theorem i310_29 : mm_cd 310 29 = some (.iload_n 1, 1, 0, 0) := rfl
theorem i310_30 : mm_cd 310 30 = some (.iand, 1, 0, 0) := rfl
theorem i310_31 : mm_cd 310 31 = some (.ifCond .eq 7, 3, 0, 0) := rfl
theorem i310_34 : mm_cd 310 34 = some (.iconst 1, 1, 0, 0) := rfl
theorem i310_35 : mm_cd 310 35 = some (.goto 4, 3, 0, 0) := rfl
theorem i310_38 : mm_cd 310 38 = some (.iconst 0, 1, 0, 0) := rfl
theorem i310_39 : mm_cd 310 39 = some (.istore_n 2, 1, 0, 0) := rfl
theorem i310_40 : mm_cd 310 40 = some (.iinc 3 1, 3, 0, 0) := rfl
theorem i310_43 : mm_cd 310 43 = some (.goto (-39), 3, 0, 0) := rfl
theorem i310_46 : mm_cd 310 46 = some (.iload_n 2, 1, 0, 0) := rfl
theorem i310_47 : mm_cd 310 47 = some (.ireturn, 1, 0, 0) := rfl
def q310_39 (k4 : Int32 → Int32 → Int32 → mS → Option mQ) (v1 : Int32) (v3 : Int32) (y0 : Int32) (s : mS) : Option mQ := bx (v3 + (1 : Int32)) fun x1 => k4 v1 y0 x1 s
theorem t310_39 {L : Nat} {xs : Nat → Int32} {d : Nat} {k4 : Int32 → Int32 → Int32 → mS → Option mQ} (hk4 : ∀ (v1 : Int32) (v2 : Int32) (v3 : Int32) (s : mS) (r : mQ), k4 v1 v2 v3 s = some r → Ev L xs d 310 4 [(0, .ref 512), (1, .int v1), (2, .int v2), (3, .int v3)] [] (hp s) (hr r)) (hd : 3 ≤ d) {v1 : Int32} {v3 : Int32} {y0 : Int32} {s : mS} {r : mQ} (h : q310_39 k4 v1 v3 y0 s = some r) : Ev L xs d 310 39 [(0, .ref 512), (1, .int v1), (3, .int v3)] [.int y0] (hp s) (hr r) := by
  unfold q310_39 at h
  refine Ev.istore_n H310 i310_39 (Nat.le_of_ble_eq_true rfl) (lv2 := [(2, .int y0), (0, .ref 512), (1, .int v1), (3, .int v3)]) rfl ?_
  refine Rd.iinc H310 i310_40 (Nat.le_of_ble_eq_true rfl) rfl kI_1 (lv2 := fun x1 => [(3, .int x1), (2, .int y0), (0, .ref 512), (1, .int v1)]) (fun _ => rfl) h (fun x1 h => ?_)
  refine Ev.goto H310 i310_43 (t := 4) (by decide) ?_
  exact Ev.sub (l := [(0, .ref 512), (1, .int v1), (2, .int y0), (3, .int x1)]) rfl rfl (mm_sub_c rfl (mm_sub_c rfl (mm_sub_c rfl (mm_sub_c rfl mm_sub_n)))) (hk4 _ _ _ _ _ h)
def q310_34 (k4 : Int32 → Int32 → Int32 → mS → Option mQ) (v1 : Int32) (v3 : Int32) (s : mS) : Option mQ := q310_39 k4 v1 v3 (1 : Int32) s
theorem t310_34 {L : Nat} {xs : Nat → Int32} {d : Nat} {k4 : Int32 → Int32 → Int32 → mS → Option mQ} (hk4 : ∀ (v1 : Int32) (v2 : Int32) (v3 : Int32) (s : mS) (r : mQ), k4 v1 v2 v3 s = some r → Ev L xs d 310 4 [(0, .ref 512), (1, .int v1), (2, .int v2), (3, .int v3)] [] (hp s) (hr r)) (hd : 3 ≤ d) {v1 : Int32} {v3 : Int32} {s : mS} {r : mQ} (h : q310_34 k4 v1 v3 s = some r) : Ev L xs d 310 34 [(0, .ref 512), (1, .int v1), (3, .int v3)] [] (hp s) (hr r) := by
  unfold q310_34 at h
  refine Ev.iconst H310 i310_34 kI_1 ?_
  refine Ev.goto H310 i310_35 (t := 39) (by decide) ?_
  exact Ev.sub (l := [(0, .ref 512), (1, .int v1), (3, .int v3)]) rfl rfl (mm_sub_c rfl (mm_sub_c rfl (mm_sub_c rfl mm_sub_n))) (t310_39 (k4 := k4) hk4 hd h)
def q310_4 : Nat → Int32 → Int32 → Int32 → mS → Option mQ
  | 0, _, _, _, _ => none
  | n + 1, v1, v2, v3, s => bN (q198 s) fun x3 s2 => if x3 ≤ v3 then (gB v2 <| rv v2 s2) else (if v2 = 0 then (gB v2 <| rv v2 s2) else (bN (q301 v3 s2) fun x5 s4 => if x5 = 0 then (q310_34 (q310_4 n) v1 v3 s4) else (bN (q301 v3 s4) fun x7 s6 => if (x7 &&& v1) = 0 then (q310_39 (q310_4 n) v1 v3 (0 : Int32) s6) else (q310_34 (q310_4 n) v1 v3 s6))))
theorem t310_4 {L : Nat} {xs : Nat → Int32} {d : Nat} (hd : 3 ≤ d) : ∀ (n : Nat) (v1 : Int32) (v2 : Int32) (v3 : Int32) (s : mS) (r : mQ), q310_4 n v1 v2 v3 s = some r → Ev L xs d 310 4 [(0, .ref 512), (1, .int v1), (2, .int v2), (3, .int v3)] [] (hp s) (hr r) := by
  intro n
  induction n with
  | zero => intro v1 v2 v3 s r h; rw [q310_4] at h; cases h
  | succ n ih =>
    intro v1 v2 v3 s r h
    rw [q310_4] at h
    refine Ev.iload_n H310 i310_4 rfl ?_
    refine Ev.aload_n H310 i310_5 rfl ?_
    refine Rd.cV0vN H310 i310_6 cal198 ob11 (Nat.le_of_ble_eq_true rfl) (Nat.le_of_ble_eq_true rfl) (Nat.lt_of_lt_of_le (by decide) hd) (fun q hq => c198 hq) h (fun x3 s2 h => ?_)
    refine Rd.ic_ge H310 i310_9 (t := 46) (by decide) h (fun hc h => ?_) (fun hc h => ?_)
    · refine Ev.iload_n H310 i310_46 rfl ?_
      exact Rd.ireturnZ H310 i310_47 rfl h
    · refine Ev.iload_n H310 i310_12 rfl ?_
      refine Rd.if_eq H310 i310_13 (t := 46) (by decide) h (fun hc h => ?_) (fun hc h => ?_)
      · refine Ev.iload_n H310 i310_46 rfl ?_
        exact Rd.ireturnZ H310 i310_47 rfl h
      · refine Ev.aload_n H310 i310_16 rfl ?_
        refine Ev.iload_n H310 i310_17 rfl ?_
        refine Rd.cV1vN H310 i310_18 cal301 ob11 (Nat.le_of_ble_eq_true rfl) (Nat.le_of_ble_eq_true rfl) (Nat.lt_of_lt_of_le (by decide) hd) (fun q hq => c301 hq) h (fun x5 s4 h => ?_)
        refine Rd.if_eq H310 i310_21 (t := 34) (by decide) h (fun hc h => ?_) (fun hc h => ?_)
        · exact Ev.sub (l := [(0, .ref 512), (1, .int v1), (3, .int v3)]) rfl rfl (mm_sub_c rfl (mm_sub_c rfl (mm_sub_c rfl mm_sub_n))) (t310_34 (k4 := (q310_4 n)) (fun _ _ _ _ _ h => ih _ _ _ _ _ h) hd h)
        · refine Ev.aload_n H310 i310_24 rfl ?_
          refine Ev.iload_n H310 i310_25 rfl ?_
          refine Rd.cV1vN H310 i310_26 cal301 ob11 (Nat.le_of_ble_eq_true rfl) (Nat.le_of_ble_eq_true rfl) (Nat.lt_of_lt_of_le (by decide) hd) (fun q hq => c301 hq) h (fun x7 s6 h => ?_)
          refine Ev.iload_n H310 i310_29 rfl ?_
          refine Ev.iand H310 i310_30 ?_
          refine Rd.if_eq H310 i310_31 (t := 38) (by decide) h (fun hc h => ?_) (fun hc h => ?_)
          · refine Ev.iconst H310 i310_38 kI_0 ?_
            exact Ev.sub (l := [(0, .ref 512), (1, .int v1), (3, .int v3)]) rfl rfl (mm_sub_c rfl (mm_sub_c rfl (mm_sub_c rfl mm_sub_n))) (t310_39 (k4 := (q310_4 n)) (fun _ _ _ _ _ h => ih _ _ _ _ _ h) hd h)
          · exact Ev.sub (l := [(0, .ref 512), (1, .int v1), (3, .int v3)]) rfl rfl (mm_sub_c rfl (mm_sub_c rfl (mm_sub_c rfl mm_sub_n))) (t310_34 (k4 := (q310_4 n)) (fun _ _ _ _ _ h => ih _ _ _ _ _ h) hd h)
/-- SerialGateModel.isCover(I)Z -/
def q310 (v1 : Int32) (s : mS) : Option mQ := q310_4 10000 v1 (1 : Int32) (0 : Int32) s
theorem c310 {L : Nat} {xs : Nat → Int32} {v1 : Int32} {s : mS} {r : mQ} (h : q310 v1 s = some r) : ∀ d, 3 ≤ d → Cl L xs d 310 [.ref 512, .int v1] (hp s) (hr r) := by
  intro d hd
  show Ev L xs d 310 0 [(0, .ref 512), (1, .int v1)] [] (hp s) (hr r)
  unfold q310 at h
  refine Ev.iconst H310 i310_0 kI_1 ?_
  refine Ev.istore_n H310 i310_1 (Nat.le_of_ble_eq_true rfl) (lv2 := [(2, .int (1 : Int32)), (0, .ref 512), (1, .int v1)]) rfl ?_
  refine Ev.iconst H310 i310_2 kI_0 ?_
  refine Ev.istore_n H310 i310_3 (Nat.le_of_ble_eq_true rfl) (lv2 := [(3, .int (0 : Int32)), (2, .int (1 : Int32)), (0, .ref 512), (1, .int v1)]) rfl ?_
  exact Ev.sub (l := [(0, .ref 512), (1, .int v1), (2, .int (1 : Int32)), (3, .int (0 : Int32))]) rfl rfl (mm_sub_c rfl (mm_sub_c rfl (mm_sub_c rfl (mm_sub_c rfl mm_sub_n)))) (t310_4 hd 10000 _ _ _ _ _ h)
theorem i311_0 : mm_cd 311 0 = some (.aload_n 0, 1, 0, 0) := rfl
theorem i311_1 : mm_cd 311 1 = some (.iconst 0, 1, 0, 0) := rfl
theorem i311_2 : mm_cd 311 2 = some (.putfield 3, 3, ((11 : Nat) : Int), 0) := rfl
theorem i311_5 : mm_cd 311 5 = some (.iconst (-1), 1, 0, 0) := rfl
theorem i311_6 : mm_cd 311 6 = some (.istore_n 1, 1, 0, 0) := rfl
theorem i311_7 : mm_cd 311 7 = some (.iconst 0, 1, 0, 0) := rfl
theorem i311_8 : mm_cd 311 8 = some (.istore_n 2, 1, 0, 0) := rfl
theorem i311_9 : mm_cd 311 9 = some (.iload_n 2, 1, 0, 0) := rfl
theorem i311_10 : mm_cd 311 10 = some (.sipush 1024, 3, 0, 0) := rfl
theorem i311_13 : mm_cd 311 13 = some (.if_icmp .ge 39, 3, 0, 0) := rfl
theorem i311_16 : mm_cd 311 16 = some (.iload_n 1, 1, 0, 0) := rfl
theorem i311_17 : mm_cd 311 17 = some (.iconst (-1), 1, 0, 0) := rfl
theorem i311_18 : mm_cd 311 18 = some (.if_icmp .eq 14, 3, 0, 0) := rfl
theorem i311_21 : mm_cd 311 21 = some (.iload_n 2, 1, 0, 0) := rfl
theorem i311_22 : mm_cd 311 22 = some (.invokestatic 258, 3, 0, 343) := rfl
theorem i311_25 : mm_cd 311 25 = some (.iload_n 1, 1, 0, 0) := rfl
theorem i311_26 : mm_cd 311 26 = some (.invokestatic 258, 3, 0, 343) := rfl
theorem i311_29 : mm_cd 311 29 = some (.if_icmp .ge 15, 3, 0, 0) := rfl
theorem i311_32 : mm_cd 311 32 = some (.aload_n 0, 1, 0, 0) := rfl
theorem i311_33 : mm_cd 311 33 = some (.iload_n 2, 1, 0, 0) := rfl
theorem i311_34 : mm_cd 311 34 = some (.invokevirtual 441, 3, 0, 310) := rfl
theorem i311_37 : mm_cd 311 37 = some (.ifCond .eq 7, 3, 0, 0) := rfl
theorem i311_40 : mm_cd 311 40 = some (.iload_n 2, 1, 0, 0) := rfl
theorem i311_41 : mm_cd 311 41 = some (.goto 4, 3, 0, 0) := rfl
theorem i311_44 : mm_cd 311 44 = some (.iload_n 1, 1, 0, 0) := rfl
theorem i311_45 : mm_cd 311 45 = some (.istore_n 1, 1, 0, 0) := rfl
theorem i311_46 : mm_cd 311 46 = some (.iinc 2 1, 3, 0, 0) := rfl
theorem i311_49 : mm_cd 311 49 = some (.goto (-40), 3, 0, 0) := rfl
theorem i311_52 : mm_cd 311 52 = some (.iload_n 1, 1, 0, 0) := rfl
theorem i311_53 : mm_cd 311 53 = some (.ireturn, 1, 0, 0) := rfl
def q311_45 (k9 : Int32 → Int32 → mS → Option mQ) (v2 : Int32) (y0 : Int32) (s : mS) : Option mQ := bx (v2 + (1 : Int32)) fun x1 => k9 y0 x1 s
theorem t311_45 {L : Nat} {xs : Nat → Int32} {d : Nat} {k9 : Int32 → Int32 → mS → Option mQ} (hk9 : ∀ (v1 : Int32) (v2 : Int32) (s : mS) (r : mQ), k9 v1 v2 s = some r → Ev L xs d 311 9 [(0, .ref 512), (1, .int v1), (2, .int v2)] [] (hp s) (hr r)) (hd : 4 ≤ d) {v2 : Int32} {y0 : Int32} {s : mS} {r : mQ} (h : q311_45 k9 v2 y0 s = some r) : Ev L xs d 311 45 [(0, .ref 512), (2, .int v2)] [.int y0] (hp s) (hr r) := by
  unfold q311_45 at h
  refine Ev.istore_n H311 i311_45 (Nat.le_of_ble_eq_true rfl) (lv2 := [(1, .int y0), (0, .ref 512), (2, .int v2)]) rfl ?_
  refine Rd.iinc H311 i311_46 (Nat.le_of_ble_eq_true rfl) rfl kI_1 (lv2 := fun x1 => [(2, .int x1), (1, .int y0), (0, .ref 512)]) (fun _ => rfl) h (fun x1 h => ?_)
  refine Ev.goto H311 i311_49 (t := 9) (by decide) ?_
  exact Ev.sub (l := [(0, .ref 512), (1, .int y0), (2, .int x1)]) rfl rfl (mm_sub_c rfl (mm_sub_c rfl (mm_sub_c rfl mm_sub_n))) (hk9 _ _ _ _ h)
def q311_44 (k9 : Int32 → Int32 → mS → Option mQ) (v1 : Int32) (v2 : Int32) (s : mS) : Option mQ := q311_45 k9 v2 v1 s
theorem t311_44 {L : Nat} {xs : Nat → Int32} {d : Nat} {k9 : Int32 → Int32 → mS → Option mQ} (hk9 : ∀ (v1 : Int32) (v2 : Int32) (s : mS) (r : mQ), k9 v1 v2 s = some r → Ev L xs d 311 9 [(0, .ref 512), (1, .int v1), (2, .int v2)] [] (hp s) (hr r)) (hd : 4 ≤ d) {v1 : Int32} {v2 : Int32} {s : mS} {r : mQ} (h : q311_44 k9 v1 v2 s = some r) : Ev L xs d 311 44 [(0, .ref 512), (1, .int v1), (2, .int v2)] [] (hp s) (hr r) := by
  unfold q311_44 at h
  refine Ev.iload_n H311 i311_44 rfl ?_
  exact Ev.sub (l := [(0, .ref 512), (2, .int v2)]) rfl rfl (mm_sub_c rfl (mm_sub_c rfl mm_sub_n)) (t311_45 (k9 := k9) hk9 hd h)
def q311_32 (k9 : Int32 → Int32 → mS → Option mQ) (v1 : Int32) (v2 : Int32) (s : mS) : Option mQ := bN (q310 v2 s) fun x3 s2 => if x3 = 0 then (q311_44 k9 v1 v2 s2) else (q311_45 k9 v2 v2 s2)
theorem t311_32 {L : Nat} {xs : Nat → Int32} {d : Nat} {k9 : Int32 → Int32 → mS → Option mQ} (hk9 : ∀ (v1 : Int32) (v2 : Int32) (s : mS) (r : mQ), k9 v1 v2 s = some r → Ev L xs d 311 9 [(0, .ref 512), (1, .int v1), (2, .int v2)] [] (hp s) (hr r)) (hd : 4 ≤ d) {v1 : Int32} {v2 : Int32} {s : mS} {r : mQ} (h : q311_32 k9 v1 v2 s = some r) : Ev L xs d 311 32 [(0, .ref 512), (1, .int v1), (2, .int v2)] [] (hp s) (hr r) := by
  unfold q311_32 at h
  refine Ev.aload_n H311 i311_32 rfl ?_
  refine Ev.iload_n H311 i311_33 rfl ?_
  refine Rd.cV1vN H311 i311_34 cal310 ob11 (Nat.le_of_ble_eq_true rfl) (Nat.le_of_ble_eq_true rfl) (Nat.lt_of_lt_of_le (by decide) hd) (fun q hq => c310 hq) h (fun x3 s2 h => ?_)
  refine Rd.if_eq H311 i311_37 (t := 44) (by decide) h (fun hc h => ?_) (fun hc h => ?_)
  · exact Ev.sub (l := [(0, .ref 512), (1, .int v1), (2, .int v2)]) rfl rfl (mm_sub_c rfl (mm_sub_c rfl (mm_sub_c rfl mm_sub_n))) (t311_44 (k9 := k9) hk9 hd h)
  · refine Ev.iload_n H311 i311_40 rfl ?_
    refine Ev.goto H311 i311_41 (t := 45) (by decide) ?_
    exact Ev.sub (l := [(0, .ref 512), (2, .int v2)]) rfl rfl (mm_sub_c rfl (mm_sub_c rfl mm_sub_n)) (t311_45 (k9 := k9) hk9 hd h)
def q311_9 : Nat → Int32 → Int32 → mS → Option mQ
  | 0, _, _, _ => none
  | n + 1, v1, v2, s => if (1024 : Int32) ≤ v2 then (rv v1 s) else (if v1 = (-1 : Int32) then (q311_32 (q311_9 n) v1 v2 s) else (bN (q343 v2 s) fun x5 s4 => bN (q343 v1 s4) fun x7 s6 => if x7 ≤ x5 then (q311_44 (q311_9 n) v1 v2 s6) else (q311_32 (q311_9 n) v1 v2 s6)))
theorem t311_9 {L : Nat} {xs : Nat → Int32} {d : Nat} (hd : 4 ≤ d) : ∀ (n : Nat) (v1 : Int32) (v2 : Int32) (s : mS) (r : mQ), q311_9 n v1 v2 s = some r → Ev L xs d 311 9 [(0, .ref 512), (1, .int v1), (2, .int v2)] [] (hp s) (hr r) := by
  intro n
  induction n with
  | zero => intro v1 v2 s r h; rw [q311_9] at h; cases h
  | succ n ih =>
    intro v1 v2 s r h
    rw [q311_9] at h
    refine Ev.iload_n H311 i311_9 rfl ?_
    refine Ev.sipush H311 i311_10 kS_1024 ?_
    refine Rd.ic_ge H311 i311_13 (t := 52) (by decide) h (fun hc h => ?_) (fun hc h => ?_)
    · refine Ev.iload_n H311 i311_52 rfl ?_
      exact Rd.ireturn H311 i311_53 rfl h
    · refine Ev.iload_n H311 i311_16 rfl ?_
      refine Ev.iconst H311 i311_17 kI_m1 ?_
      refine Rd.ic_eq H311 i311_18 (t := 32) (by decide) h (fun hc h => ?_) (fun hc h => ?_)
      · exact Ev.sub (l := [(0, .ref 512), (1, .int v1), (2, .int v2)]) rfl rfl (mm_sub_c rfl (mm_sub_c rfl (mm_sub_c rfl mm_sub_n))) (t311_32 (k9 := (q311_9 n)) (fun _ _ _ _ h => ih _ _ _ _ h) hd h)
      · refine Ev.iload_n H311 i311_21 rfl ?_
        refine Rd.cS1vN H311 i311_22 cal343 (Nat.le_of_ble_eq_true rfl) (Nat.le_of_ble_eq_true rfl) (Nat.lt_of_lt_of_le (by decide) hd) (fun q hq => c343 hq) h (fun x5 s4 h => ?_)
        refine Ev.iload_n H311 i311_25 rfl ?_
        refine Rd.cS1vN H311 i311_26 cal343 (Nat.le_of_ble_eq_true rfl) (Nat.le_of_ble_eq_true rfl) (Nat.lt_of_lt_of_le (by decide) hd) (fun q hq => c343 hq) h (fun x7 s6 h => ?_)
        refine Rd.ic_ge H311 i311_29 (t := 44) (by decide) h (fun hc h => ?_) (fun hc h => ?_)
        · exact Ev.sub (l := [(0, .ref 512), (1, .int v1), (2, .int v2)]) rfl rfl (mm_sub_c rfl (mm_sub_c rfl (mm_sub_c rfl mm_sub_n))) (t311_44 (k9 := (q311_9 n)) (fun _ _ _ _ h => ih _ _ _ _ h) hd h)
        · exact Ev.sub (l := [(0, .ref 512), (1, .int v1), (2, .int v2)]) rfl rfl (mm_sub_c rfl (mm_sub_c rfl (mm_sub_c rfl mm_sub_n))) (t311_32 (k9 := (q311_9 n)) (fun _ _ _ _ h => ih _ _ _ _ h) hd h)
/-- SerialGateModel.cover()I -/
def q311 (s : mS) : Option mQ := sp (sI s 512 0 (0 : Int32)) fun s8 => q311_9 10000 (-1 : Int32) (0 : Int32) s8
theorem c311 {L : Nat} {xs : Nat → Int32} {s : mS} {r : mQ} (h : q311 s = some r) : ∀ d, 4 ≤ d → Cl L xs d 311 [.ref 512] (hp s) (hr r) := by
  intro d hd
  show Ev L xs d 311 0 [(0, .ref 512)] [] (hp s) (hr r)
  unfold q311 at h
  refine Ev.aload_n H311 i311_0 rfl ?_
  refine Ev.iconst H311 i311_1 kI_0 ?_
  refine Rd.putI H311 i311_2 ob11 rfl ty11_0.1 ty11_0.2 h (fun s8 h => ?_)
  refine Ev.iconst H311 i311_5 kI_m1 ?_
  refine Ev.istore_n H311 i311_6 (Nat.le_of_ble_eq_true rfl) (lv2 := [(1, .int (-1 : Int32)), (0, .ref 512)]) rfl ?_
  refine Ev.iconst H311 i311_7 kI_0 ?_
  refine Ev.istore_n H311 i311_8 (Nat.le_of_ble_eq_true rfl) (lv2 := [(2, .int (0 : Int32)), (1, .int (-1 : Int32)), (0, .ref 512)]) rfl ?_
  exact Ev.sub (l := [(0, .ref 512), (1, .int (-1 : Int32)), (2, .int (0 : Int32))]) rfl rfl (mm_sub_c rfl (mm_sub_c rfl (mm_sub_c rfl mm_sub_n))) (t311_9 hd 10000 _ _ _ _ h)
theorem i312_0 : mm_cd 312 0 = some (.aload_n 0, 1, 0, 0) := rfl
theorem i312_1 : mm_cd 312 1 = some (.getfield 90, 3, ((11 : Nat) : Int), 11) := rfl
theorem i312_4 : mm_cd 312 4 = some (.iconst 2, 1, 0, 0) := rfl
theorem i312_5 : mm_cd 312 5 = some (.irem, 1, 0, 0) := rfl
theorem i312_6 : mm_cd 312 6 = some (.ifCond .ne 16, 3, 0, 0) := rfl
theorem i312_9 : mm_cd 312 9 = some (.aload_n 0, 1, 0, 0) := rfl
theorem i312_10 : mm_cd 312 10 = some (.getfield 90, 3, ((11 : Nat) : Int), 11) := rfl
theorem i312_13 : mm_cd 312 13 = some (.bipush 40, 2, 0, 0) := rfl
theorem i312_15 : mm_cd 312 15 = some (.if_icmp .gt 7, 3, 0, 0) := rfl
theorem i312_18 : mm_cd 312 18 = some (.iconst 1, 1, 0, 0) := rfl
theorem i312_19 : mm_cd 312 19 = some (.goto 4, 3, 0, 0) := rfl
theorem i312_22 : mm_cd 312 22 = some (.iconst 0, 1, 0, 0) := rfl
theorem i312_23 : mm_cd 312 23 = some (.istore_n 1, 1, 0, 0) := rfl
theorem i312_24 : mm_cd 312 24 = some (.iconst 0, 1, 0, 0) := rfl
theorem i312_25 : mm_cd 312 25 = some (.istore_n 2, 1, 0, 0) := rfl
theorem i312_26 : mm_cd 312 26 = some (.iload_n 2, 1, 0, 0) := rfl
theorem i312_27 : mm_cd 312 27 = some (.aload_n 0, 1, 0, 0) := rfl
theorem i312_28 : mm_cd 312 28 = some (.getfield 90, 3, ((11 : Nat) : Int), 11) := rfl
theorem i312_31 : mm_cd 312 31 = some (.if_icmp .ge 50, 3, 0, 0) := rfl
theorem i312_34 : mm_cd 312 34 = some (.iload_n 1, 1, 0, 0) := rfl
theorem i312_35 : mm_cd 312 35 = some (.ifCond .eq 46, 3, 0, 0) := rfl
theorem i312_38 : mm_cd 312 38 = some (.aload_n 0, 1, 0, 0) := rfl
theorem i312_39 : mm_cd 312 39 = some (.getfield 29, 3, ((11 : Nat) : Int), 8) := rfl
theorem i312_42 : mm_cd 312 42 = some (.iload_n 2, 1, 0, 0) := rfl
theorem i312_43 : mm_cd 312 43 = some (.baload, 1, 0, 0) := rfl
theorem i312_44 : mm_cd 312 44 = some (.iconst 0, 1, 0, 0) := rfl
theorem i312_45 : mm_cd 312 45 = some (.bipush 19, 2, 0, 0) := rfl
theorem i312_47 : mm_cd 312 47 = some (.invokestatic 371, 3, 0, 189) := rfl
theorem i312_50 : mm_cd 312 50 = some (.ifCond .eq 23, 3, 0, 0) := rfl
theorem i312_53 : mm_cd 312 53 = some (.aload_n 0, 1, 0, 0) := rfl
theorem i312_54 : mm_cd 312 54 = some (.getfield 29, 3, ((11 : Nat) : Int), 8) := rfl
theorem i312_57 : mm_cd 312 57 = some (.iload_n 2, 1, 0, 0) := rfl
theorem i312_58 : mm_cd 312 58 = some (.iconst 1, 1, 0, 0) := rfl
theorem i312_59 : mm_cd 312 59 = some (.iadd, 1, 0, 0) := rfl
theorem i312_60 : mm_cd 312 60 = some (.baload, 1, 0, 0) := rfl
theorem i312_61 : mm_cd 312 61 = some (.iconst 0, 1, 0, 0) := rfl
theorem i312_62 : mm_cd 312 62 = some (.iconst 1, 1, 0, 0) := rfl
theorem i312_63 : mm_cd 312 63 = some (.invokestatic 371, 3, 0, 189) := rfl
theorem i312_66 : mm_cd 312 66 = some (.ifCond .eq 7, 3, 0, 0) := rfl
theorem i312_69 : mm_cd 312 69 = some (.iconst 1, 1, 0, 0) := rfl
theorem i312_70 : mm_cd 312 70 = some (.goto 4, 3, 0, 0) := rfl
theorem i312_73 : mm_cd 312 73 = some (.iconst 0, 1, 0, 0) := rfl
theorem i312_74 : mm_cd 312 74 = some (.istore_n 1, 1, 0, 0) := rfl
theorem i312_75 : mm_cd 312 75 = some (.iinc 2 2, 3, 0, 0) := rfl
theorem i312_78 : mm_cd 312 78 = some (.goto (-52), 3, 0, 0) := rfl
theorem i312_81 : mm_cd 312 81 = some (.iload_n 1, 1, 0, 0) := rfl
theorem i312_82 : mm_cd 312 82 = some (.ireturn, 1, 0, 0) := rfl
def q312_74 (k26 : Int32 → Int32 → mS → Option mQ) (v2 : Int32) (y0 : Int32) (s : mS) : Option mQ := bx (v2 + (2 : Int32)) fun x1 => k26 y0 x1 s
theorem t312_74 {L : Nat} {xs : Nat → Int32} {d : Nat} {k26 : Int32 → Int32 → mS → Option mQ} (hk26 : ∀ (v1 : Int32) (v2 : Int32) (s : mS) (r : mQ), k26 v1 v2 s = some r → Ev L xs d 312 26 [(0, .ref 512), (1, .int v1), (2, .int v2)] [] (hp s) (hr r)) (hd : 1 ≤ d) {v2 : Int32} {y0 : Int32} {s : mS} {r : mQ} (h : q312_74 k26 v2 y0 s = some r) : Ev L xs d 312 74 [(0, .ref 512), (2, .int v2)] [.int y0] (hp s) (hr r) := by
  unfold q312_74 at h
  refine Ev.istore_n H312 i312_74 (Nat.le_of_ble_eq_true rfl) (lv2 := [(1, .int y0), (0, .ref 512), (2, .int v2)]) rfl ?_
  refine Rd.iinc H312 i312_75 (Nat.le_of_ble_eq_true rfl) rfl kI_2 (lv2 := fun x1 => [(2, .int x1), (1, .int y0), (0, .ref 512)]) (fun _ => rfl) h (fun x1 h => ?_)
  refine Ev.goto H312 i312_78 (t := 26) (by decide) ?_
  exact Ev.sub (l := [(0, .ref 512), (1, .int y0), (2, .int x1)]) rfl rfl (mm_sub_c rfl (mm_sub_c rfl (mm_sub_c rfl mm_sub_n))) (hk26 _ _ _ _ h)
def q312_73 (k26 : Int32 → Int32 → mS → Option mQ) (v2 : Int32) (s : mS) : Option mQ := q312_74 k26 v2 (0 : Int32) s
theorem t312_73 {L : Nat} {xs : Nat → Int32} {d : Nat} {k26 : Int32 → Int32 → mS → Option mQ} (hk26 : ∀ (v1 : Int32) (v2 : Int32) (s : mS) (r : mQ), k26 v1 v2 s = some r → Ev L xs d 312 26 [(0, .ref 512), (1, .int v1), (2, .int v2)] [] (hp s) (hr r)) (hd : 1 ≤ d) {v2 : Int32} {s : mS} {r : mQ} (h : q312_73 k26 v2 s = some r) : Ev L xs d 312 73 [(0, .ref 512), (2, .int v2)] [] (hp s) (hr r) := by
  unfold q312_73 at h
  refine Ev.iconst H312 i312_73 kI_0 ?_
  exact Ev.sub (l := [(0, .ref 512), (2, .int v2)]) rfl rfl (mm_sub_c rfl (mm_sub_c rfl mm_sub_n)) (t312_74 (k26 := k26) hk26 hd h)
def q312_26 : Nat → Int32 → Int32 → mS → Option mQ
  | 0, _, _, _ => none
  | n + 1, v1, v2, s => if (s.1 512 11) ≤ v2 then (gB v1 <| rv v1 s) else (if v1 = 0 then (gB v1 <| rv v1 s) else (gA 400 v2 <| bN (q189 (s.1 518 v2.toNatClampNeg) (0 : Int32) (19 : Int32) s) fun x3 s2 => if x3 = 0 then (q312_73 (q312_26 n) v2 s2) else (gA 400 (v2 + (1 : Int32)) <| bN (q189 (s2.1 518 (v2 + (1 : Int32)).toNatClampNeg) (0 : Int32) (1 : Int32) s2) fun x5 s4 => if x5 = 0 then (q312_73 (q312_26 n) v2 s4) else (q312_74 (q312_26 n) v2 (1 : Int32) s4))))
theorem t312_26 {L : Nat} {xs : Nat → Int32} {d : Nat} (hd : 1 ≤ d) : ∀ (n : Nat) (v1 : Int32) (v2 : Int32) (s : mS) (r : mQ), q312_26 n v1 v2 s = some r → Ev L xs d 312 26 [(0, .ref 512), (1, .int v1), (2, .int v2)] [] (hp s) (hr r) := by
  intro n
  induction n with
  | zero => intro v1 v2 s r h; rw [q312_26] at h; cases h
  | succ n ih =>
    intro v1 v2 s r h
    rw [q312_26] at h
    refine Ev.iload_n H312 i312_26 rfl ?_
    refine Ev.aload_n H312 i312_27 rfl ?_
    refine Rd.getI H312 i312_28 ob11 rfl ?_
    refine Rd.ic_ge H312 i312_31 (t := 81) (by decide) h (fun hc h => ?_) (fun hc h => ?_)
    · refine Ev.iload_n H312 i312_81 rfl ?_
      exact Rd.ireturnZ H312 i312_82 rfl h
    · refine Ev.iload_n H312 i312_34 rfl ?_
      refine Rd.if_eq H312 i312_35 (t := 81) (by decide) h (fun hc h => ?_) (fun hc h => ?_)
      · refine Ev.iload_n H312 i312_81 rfl ?_
        exact Rd.ireturnZ H312 i312_82 rfl h
      · refine Ev.aload_n H312 i312_38 rfl ?_
        refine Rd.getR H312 i312_39 ob11 rfl ?_
        refine Ev.iload_n H312 i312_42 rfl ?_
        refine Rd.baload H312 i312_43 ar_518 h (fun h => ?_)
        refine Ev.iconst H312 i312_44 kI_0 ?_
        refine Ev.bipush H312 i312_45 kB_19 ?_
        refine Rd.cS3vN H312 i312_47 cal189 (Nat.le_of_ble_eq_true rfl) (Nat.le_of_ble_eq_true rfl) (Nat.lt_of_lt_of_le (by decide) hd) (fun q hq => c189 hq) h (fun x3 s2 h => ?_)
        refine Rd.if_eq H312 i312_50 (t := 73) (by decide) h (fun hc h => ?_) (fun hc h => ?_)
        · exact Ev.sub (l := [(0, .ref 512), (2, .int v2)]) rfl rfl (mm_sub_c rfl (mm_sub_c rfl mm_sub_n)) (t312_73 (k26 := (q312_26 n)) (fun _ _ _ _ h => ih _ _ _ _ h) hd h)
        · refine Ev.aload_n H312 i312_53 rfl ?_
          refine Rd.getR H312 i312_54 ob11 rfl ?_
          refine Ev.iload_n H312 i312_57 rfl ?_
          refine Ev.iconst H312 i312_58 kI_1 ?_
          refine Ev.iadd H312 i312_59 ?_
          refine Rd.baload H312 i312_60 ar_518 h (fun h => ?_)
          refine Ev.iconst H312 i312_61 kI_0 ?_
          refine Ev.iconst H312 i312_62 kI_1 ?_
          refine Rd.cS3vN H312 i312_63 cal189 (Nat.le_of_ble_eq_true rfl) (Nat.le_of_ble_eq_true rfl) (Nat.lt_of_lt_of_le (by decide) hd) (fun q hq => c189 hq) h (fun x5 s4 h => ?_)
          refine Rd.if_eq H312 i312_66 (t := 73) (by decide) h (fun hc h => ?_) (fun hc h => ?_)
          · exact Ev.sub (l := [(0, .ref 512), (2, .int v2)]) rfl rfl (mm_sub_c rfl (mm_sub_c rfl mm_sub_n)) (t312_73 (k26 := (q312_26 n)) (fun _ _ _ _ h => ih _ _ _ _ h) hd h)
          · refine Ev.iconst H312 i312_69 kI_1 ?_
            refine Ev.goto H312 i312_70 (t := 74) (by decide) ?_
            exact Ev.sub (l := [(0, .ref 512), (2, .int v2)]) rfl rfl (mm_sub_c rfl (mm_sub_c rfl mm_sub_n)) (t312_74 (k26 := (q312_26 n)) (fun _ _ _ _ h => ih _ _ _ _ h) hd h)
def q312_23 (y0 : Int32) (s : mS) : Option mQ := q312_26 10000 y0 (0 : Int32) s
theorem t312_23 {L : Nat} {xs : Nat → Int32} {d : Nat} (hd : 1 ≤ d) {y0 : Int32} {s : mS} {r : mQ} (h : q312_23 y0 s = some r) : Ev L xs d 312 23 [(0, .ref 512)] [.int y0] (hp s) (hr r) := by
  unfold q312_23 at h
  refine Ev.istore_n H312 i312_23 (Nat.le_of_ble_eq_true rfl) (lv2 := [(1, .int y0), (0, .ref 512)]) rfl ?_
  refine Ev.iconst H312 i312_24 kI_0 ?_
  refine Ev.istore_n H312 i312_25 (Nat.le_of_ble_eq_true rfl) (lv2 := [(2, .int (0 : Int32)), (1, .int y0), (0, .ref 512)]) rfl ?_
  exact Ev.sub (l := [(0, .ref 512), (1, .int y0), (2, .int (0 : Int32))]) rfl rfl (mm_sub_c rfl (mm_sub_c rfl (mm_sub_c rfl mm_sub_n))) (t312_26 hd 10000 _ _ _ _ h)
def q312_22 (s : mS) : Option mQ := q312_23 (0 : Int32) s
theorem t312_22 {L : Nat} {xs : Nat → Int32} {d : Nat} (hd : 1 ≤ d) {s : mS} {r : mQ} (h : q312_22 s = some r) : Ev L xs d 312 22 [(0, .ref 512)] [] (hp s) (hr r) := by
  unfold q312_22 at h
  refine Ev.iconst H312 i312_22 kI_0 ?_
  exact Ev.sub (l := [(0, .ref 512)]) rfl rfl (mm_sub_c rfl mm_sub_n) (t312_23 hd h)
/-- SerialGateModel.areTold()Z -/
def q312 (s : mS) : Option mQ := gZ (2 : Int32) <| if ¬ (rmI (s.1 512 11) (2 : Int32)) = 0 then (q312_22 s) else (if (40 : Int32) < (s.1 512 11) then (q312_22 s) else (q312_23 (1 : Int32) s))
theorem c312 {L : Nat} {xs : Nat → Int32} {s : mS} {r : mQ} (h : q312 s = some r) : ∀ d, 1 ≤ d → Cl L xs d 312 [.ref 512] (hp s) (hr r) := by
  intro d hd
  show Ev L xs d 312 0 [(0, .ref 512)] [] (hp s) (hr r)
  unfold q312 at h
  refine Ev.aload_n H312 i312_0 rfl ?_
  refine Rd.getI H312 i312_1 ob11 rfl ?_
  refine Ev.iconst H312 i312_4 kI_2 ?_
  refine Rd.irem H312 i312_5 h (fun h => ?_)
  refine Rd.if_ne H312 i312_6 (t := 22) (by decide) h (fun hc h => ?_) (fun hc h => ?_)
  · exact Ev.sub (l := [(0, .ref 512)]) rfl rfl (mm_sub_c rfl mm_sub_n) (t312_22 hd h)
  · refine Ev.aload_n H312 i312_9 rfl ?_
    refine Rd.getI H312 i312_10 ob11 rfl ?_
    refine Ev.bipush H312 i312_13 kB_40 ?_
    refine Rd.ic_gt H312 i312_15 (t := 22) (by decide) h (fun hc h => ?_) (fun hc h => ?_)
    · exact Ev.sub (l := [(0, .ref 512)]) rfl rfl (mm_sub_c rfl mm_sub_n) (t312_22 hd h)
    · refine Ev.iconst H312 i312_18 kI_1 ?_
      refine Ev.goto H312 i312_19 (t := 23) (by decide) ?_
      exact Ev.sub (l := [(0, .ref 512)]) rfl rfl (mm_sub_c rfl mm_sub_n) (t312_23 hd h)
theorem i313_0 : mm_cd 313 0 = some (.aload_n 0, 1, 0, 0) := rfl
theorem i313_1 : mm_cd 313 1 = some (.iload_n 1, 1, 0, 0) := rfl
theorem i313_2 : mm_cd 313 2 = some (.iload_n 2, 1, 0, 0) := rfl
theorem i313_3 : mm_cd 313 3 = some (.bipush 10, 2, 0, 0) := rfl
theorem i313_5 : mm_cd 313 5 = some (.idiv, 1, 0, 0) := rfl
theorem i313_6 : mm_cd 313 6 = some (.invokevirtual 72, 3, 0, 202) := rfl
theorem i313_9 : mm_cd 313 9 = some (.iload_n 2, 1, 0, 0) := rfl
theorem i313_10 : mm_cd 313 10 = some (.bipush 10, 2, 0, 0) := rfl
theorem i313_12 : mm_cd 313 12 = some (.irem, 1, 0, 0) := rfl
theorem i313_13 : mm_cd 313 13 = some (.ishr, 1, 0, 0) := rfl
theorem i313_14 : mm_cd 313 14 = some (.iconst 1, 1, 0, 0) := rfl
theorem i313_15 : mm_cd 313 15 = some (.iand, 1, 0, 0) := rfl
theorem i313_16 : mm_cd 313 16 = some (.ireturn, 1, 0, 0) := rfl
/-- SerialGateModel.does(II)I -/
def q313 (v1 : Int32) (v2 : Int32) (s : mS) : Option mQ := gZ (10 : Int32) <| bN (q202 v1 (v2 / (10 : Int32)) s) fun x2 s1 => gZ (10 : Int32) <| rv ((shrI x2 (rmI v2 (10 : Int32))) &&& (1 : Int32)) s1
theorem c313 {L : Nat} {xs : Nat → Int32} {v1 : Int32} {v2 : Int32} {s : mS} {r : mQ} (h : q313 v1 v2 s = some r) : ∀ d, 2 ≤ d → Cl L xs d 313 [.ref 512, .int v1, .int v2] (hp s) (hr r) := by
  intro d hd
  show Ev L xs d 313 0 [(0, .ref 512), (1, .int v1), (2, .int v2)] [] (hp s) (hr r)
  unfold q313 at h
  refine Ev.aload_n H313 i313_0 rfl ?_
  refine Ev.iload_n H313 i313_1 rfl ?_
  refine Ev.iload_n H313 i313_2 rfl ?_
  refine Ev.bipush H313 i313_3 kB_10 ?_
  refine Rd.idiv H313 i313_5 h (fun h => ?_)
  refine Rd.cV2vN H313 i313_6 cal202 ob11 (Nat.le_of_ble_eq_true rfl) (Nat.le_of_ble_eq_true rfl) (Nat.lt_of_lt_of_le (by decide) hd) (fun q hq => c202 hq) h (fun x2 s1 h => ?_)
  refine Ev.iload_n H313 i313_9 rfl ?_
  refine Ev.bipush H313 i313_10 kB_10 ?_
  refine Rd.irem H313 i313_12 h (fun h => ?_)
  refine Rd.ishr H313 i313_13 ?_
  refine Ev.iconst H313 i313_14 kI_1 ?_
  refine Ev.iand H313 i313_15 ?_
  exact Rd.ireturn H313 i313_16 rfl h
theorem i314_0 : mm_cd 314 0 = some (.iconst 0, 1, 0, 0) := rfl
theorem i314_1 : mm_cd 314 1 = some (.istore_n 2, 1, 0, 0) := rfl
theorem i314_2 : mm_cd 314 2 = some (.iconst 0, 1, 0, 0) := rfl
theorem i314_3 : mm_cd 314 3 = some (.istore_n 3, 1, 0, 0) := rfl
theorem i314_4 : mm_cd 314 4 = some (.iload_n 3, 1, 0, 0) := rfl
theorem i314_5 : mm_cd 314 5 = some (.aload_n 0, 1, 0, 0) := rfl
theorem i314_6 : mm_cd 314 6 = some (.getfield 90, 3, ((11 : Nat) : Int), 11) := rfl
theorem i314_9 : mm_cd 314 9 = some (.if_icmp .ge 39, 3, 0, 0) := rfl
theorem i314_12 : mm_cd 314 12 = some (.iload_n 2, 1, 0, 0) := rfl
theorem i314_13 : mm_cd 314 13 = some (.aload_n 0, 1, 0, 0) := rfl
theorem i314_14 : mm_cd 314 14 = some (.iload_n 1, 1, 0, 0) := rfl
theorem i314_15 : mm_cd 314 15 = some (.aload_n 0, 1, 0, 0) := rfl
theorem i314_16 : mm_cd 314 16 = some (.getfield 29, 3, ((11 : Nat) : Int), 8) := rfl
theorem i314_19 : mm_cd 314 19 = some (.iload_n 3, 1, 0, 0) := rfl
theorem i314_20 : mm_cd 314 20 = some (.baload, 1, 0, 0) := rfl
theorem i314_21 : mm_cd 314 21 = some (.invokevirtual 444, 3, 0, 313) := rfl
theorem i314_24 : mm_cd 314 24 = some (.aload_n 0, 1, 0, 0) := rfl
theorem i314_25 : mm_cd 314 25 = some (.getfield 29, 3, ((11 : Nat) : Int), 8) := rfl
theorem i314_28 : mm_cd 314 28 = some (.iload_n 3, 1, 0, 0) := rfl
theorem i314_29 : mm_cd 314 29 = some (.iconst 1, 1, 0, 0) := rfl
theorem i314_30 : mm_cd 314 30 = some (.iadd, 1, 0, 0) := rfl
theorem i314_31 : mm_cd 314 31 = some (.baload, 1, 0, 0) := rfl
theorem i314_32 : mm_cd 314 32 = some (.if_icmp .ne 7, 3, 0, 0) := rfl
theorem i314_35 : mm_cd 314 35 = some (.iconst 0, 1, 0, 0) := rfl
theorem i314_36 : mm_cd 314 36 = some (.goto 4, 3, 0, 0) := rfl
theorem i314_39 : mm_cd 314 39 = some (.iconst 1, 1, 0, 0) := rfl
theorem i314_40 : mm_cd 314 40 = some (.iadd, 1, 0, 0) := rfl
theorem i314_41 : mm_cd 314 41 = some (.istore_n 2, 1, 0, 0) := rfl
theorem i314_42 : mm_cd 314 42 = some (.iinc 3 2, 3, 0, 0) := rfl
theorem i314_45 : mm_cd 314 45 = some (.goto (-41), 3, 0, 0) := rfl
theorem i314_48 : mm_cd 314 48 = some (.iload_n 2, 1, 0, 0) := rfl
theorem i314_49 : mm_cd 314 49 = some (.ireturn, 1, 0, 0) := rfl
def q314_40 (k4 : Int32 → Int32 → Int32 → mS → Option mQ) (v1 : Int32) (v3 : Int32) (y0 : Int32) (y1 : Int32) (s : mS) : Option mQ := bx (y0 + y1) fun x1 => bx (v3 + (2 : Int32)) fun x2 => k4 v1 x1 x2 s
theorem t314_40 {L : Nat} {xs : Nat → Int32} {d : Nat} {k4 : Int32 → Int32 → Int32 → mS → Option mQ} (hk4 : ∀ (v1 : Int32) (v2 : Int32) (v3 : Int32) (s : mS) (r : mQ), k4 v1 v2 v3 s = some r → Ev L xs d 314 4 [(0, .ref 512), (1, .int v1), (2, .int v2), (3, .int v3)] [] (hp s) (hr r)) (hd : 3 ≤ d) {v1 : Int32} {v3 : Int32} {y0 : Int32} {y1 : Int32} {s : mS} {r : mQ} (h : q314_40 k4 v1 v3 y0 y1 s = some r) : Ev L xs d 314 40 [(0, .ref 512), (1, .int v1), (3, .int v3)] [.int y1, .int y0] (hp s) (hr r) := by
  unfold q314_40 at h
  refine Ev.iadd H314 i314_40 ?_
  refine Rd.istore_n H314 i314_41 (Nat.le_of_ble_eq_true rfl) (lv2 := fun x1 => [(2, .int x1), (0, .ref 512), (1, .int v1), (3, .int v3)]) (fun _ => rfl) h (fun x1 h => ?_)
  refine Rd.iinc H314 i314_42 (Nat.le_of_ble_eq_true rfl) rfl kI_2 (lv2 := fun x2 => [(3, .int x2), (2, .int x1), (0, .ref 512), (1, .int v1)]) (fun _ => rfl) h (fun x2 h => ?_)
  refine Ev.goto H314 i314_45 (t := 4) (by decide) ?_
  exact Ev.sub (l := [(0, .ref 512), (1, .int v1), (2, .int x1), (3, .int x2)]) rfl rfl (mm_sub_c rfl (mm_sub_c rfl (mm_sub_c rfl (mm_sub_c rfl mm_sub_n)))) (hk4 _ _ _ _ _ h)
def q314_4 : Nat → Int32 → Int32 → Int32 → mS → Option mQ
  | 0, _, _, _, _ => none
  | n + 1, v1, v2, v3, s => if (s.1 512 11) ≤ v3 then (rv v2 s) else (gA 400 v3 <| bN (q313 v1 (s.1 518 v3.toNatClampNeg) s) fun x4 s3 => gA 400 (v3 + (1 : Int32)) <| if ¬ x4 = (s3.1 518 (v3 + (1 : Int32)).toNatClampNeg) then (q314_40 (q314_4 n) v1 v3 v2 (1 : Int32) s3) else (q314_40 (q314_4 n) v1 v3 v2 (0 : Int32) s3))
theorem t314_4 {L : Nat} {xs : Nat → Int32} {d : Nat} (hd : 3 ≤ d) : ∀ (n : Nat) (v1 : Int32) (v2 : Int32) (v3 : Int32) (s : mS) (r : mQ), q314_4 n v1 v2 v3 s = some r → Ev L xs d 314 4 [(0, .ref 512), (1, .int v1), (2, .int v2), (3, .int v3)] [] (hp s) (hr r) := by
  intro n
  induction n with
  | zero => intro v1 v2 v3 s r h; rw [q314_4] at h; cases h
  | succ n ih =>
    intro v1 v2 v3 s r h
    rw [q314_4] at h
    refine Ev.iload_n H314 i314_4 rfl ?_
    refine Ev.aload_n H314 i314_5 rfl ?_
    refine Rd.getI H314 i314_6 ob11 rfl ?_
    refine Rd.ic_ge H314 i314_9 (t := 48) (by decide) h (fun hc h => ?_) (fun hc h => ?_)
    · refine Ev.iload_n H314 i314_48 rfl ?_
      exact Rd.ireturn H314 i314_49 rfl h
    · refine Ev.iload_n H314 i314_12 rfl ?_
      refine Ev.aload_n H314 i314_13 rfl ?_
      refine Ev.iload_n H314 i314_14 rfl ?_
      refine Ev.aload_n H314 i314_15 rfl ?_
      refine Rd.getR H314 i314_16 ob11 rfl ?_
      refine Ev.iload_n H314 i314_19 rfl ?_
      refine Rd.baload H314 i314_20 ar_518 h (fun h => ?_)
      refine Rd.cV2vN H314 i314_21 cal313 ob11 (Nat.le_of_ble_eq_true rfl) (Nat.le_of_ble_eq_true rfl) (Nat.lt_of_lt_of_le (by decide) hd) (fun q hq => c313 hq) h (fun x4 s3 h => ?_)
      refine Ev.aload_n H314 i314_24 rfl ?_
      refine Rd.getR H314 i314_25 ob11 rfl ?_
      refine Ev.iload_n H314 i314_28 rfl ?_
      refine Ev.iconst H314 i314_29 kI_1 ?_
      refine Ev.iadd H314 i314_30 ?_
      refine Rd.baload H314 i314_31 ar_518 h (fun h => ?_)
      refine Rd.ic_ne H314 i314_32 (t := 39) (by decide) h (fun hc h => ?_) (fun hc h => ?_)
      · refine Ev.iconst H314 i314_39 kI_1 ?_
        exact Ev.sub (l := [(0, .ref 512), (1, .int v1), (3, .int v3)]) rfl rfl (mm_sub_c rfl (mm_sub_c rfl (mm_sub_c rfl mm_sub_n))) (t314_40 (k4 := (q314_4 n)) (fun _ _ _ _ _ h => ih _ _ _ _ _ h) hd h)
      · refine Ev.iconst H314 i314_35 kI_0 ?_
        refine Ev.goto H314 i314_36 (t := 40) (by decide) ?_
        exact Ev.sub (l := [(0, .ref 512), (1, .int v1), (3, .int v3)]) rfl rfl (mm_sub_c rfl (mm_sub_c rfl (mm_sub_c rfl mm_sub_n))) (t314_40 (k4 := (q314_4 n)) (fun _ _ _ _ _ h => ih _ _ _ _ _ h) hd h)
/-- SerialGateModel.wrongRows(I)I -/
def q314 (v1 : Int32) (s : mS) : Option mQ := q314_4 10000 v1 (0 : Int32) (0 : Int32) s
theorem c314 {L : Nat} {xs : Nat → Int32} {v1 : Int32} {s : mS} {r : mQ} (h : q314 v1 s = some r) : ∀ d, 3 ≤ d → Cl L xs d 314 [.ref 512, .int v1] (hp s) (hr r) := by
  intro d hd
  show Ev L xs d 314 0 [(0, .ref 512), (1, .int v1)] [] (hp s) (hr r)
  unfold q314 at h
  refine Ev.iconst H314 i314_0 kI_0 ?_
  refine Ev.istore_n H314 i314_1 (Nat.le_of_ble_eq_true rfl) (lv2 := [(2, .int (0 : Int32)), (0, .ref 512), (1, .int v1)]) rfl ?_
  refine Ev.iconst H314 i314_2 kI_0 ?_
  refine Ev.istore_n H314 i314_3 (Nat.le_of_ble_eq_true rfl) (lv2 := [(3, .int (0 : Int32)), (2, .int (0 : Int32)), (0, .ref 512), (1, .int v1)]) rfl ?_
  exact Ev.sub (l := [(0, .ref 512), (1, .int v1), (2, .int (0 : Int32)), (3, .int (0 : Int32))]) rfl rfl (mm_sub_c rfl (mm_sub_c rfl (mm_sub_c rfl (mm_sub_c rfl mm_sub_n)))) (t314_4 hd 10000 _ _ _ _ _ h)
theorem i315_0 : mm_cd 315 0 = some (.iconst 0, 1, 0, 0) := rfl
theorem i315_1 : mm_cd 315 1 = some (.istore_n 2, 1, 0, 0) := rfl
theorem i315_2 : mm_cd 315 2 = some (.iconst 0, 1, 0, 0) := rfl
theorem i315_3 : mm_cd 315 3 = some (.istore_n 3, 1, 0, 0) := rfl
theorem i315_4 : mm_cd 315 4 = some (.iload_n 3, 1, 0, 0) := rfl
theorem i315_5 : mm_cd 315 5 = some (.aload_n 0, 1, 0, 0) := rfl
theorem i315_6 : mm_cd 315 6 = some (.invokevirtual 129, 3, 0, 198) := rfl
theorem i315_9 : mm_cd 315 9 = some (.if_icmp .ge 28, 3, 0, 0) := rfl
theorem i315_12 : mm_cd 315 12 = some (.iload_n 2, 1, 0, 0) := rfl
theorem i315_13 : mm_cd 315 13 = some (.aload_n 0, 1, 0, 0) := rfl
theorem i315_14 : mm_cd 315 14 = some (.iload_n 3, 1, 0, 0) := rfl
theorem i315_15 : mm_cd 315 15 = some (.invokevirtual 447, 3, 0, 314) := rfl
theorem i315_18 : mm_cd 315 18 = some (.iload_n 1, 1, 0, 0) := rfl
theorem i315_19 : mm_cd 315 19 = some (.if_icmp .gt 9, 3, 0, 0) := rfl
theorem i315_22 : mm_cd 315 22 = some (.iconst 1, 1, 0, 0) := rfl
theorem i315_23 : mm_cd 315 23 = some (.iload_n 3, 1, 0, 0) := rfl
theorem i315_24 : mm_cd 315 24 = some (.ishl, 1, 0, 0) := rfl
theorem i315_25 : mm_cd 315 25 = some (.goto 4, 3, 0, 0) := rfl
theorem i315_28 : mm_cd 315 28 = some (.iconst 0, 1, 0, 0) := rfl
theorem i315_29 : mm_cd 315 29 = some (.ior, 1, 0, 0) := rfl
theorem i315_30 : mm_cd 315 30 = some (.istore_n 2, 1, 0, 0) := rfl
theorem i315_31 : mm_cd 315 31 = some (.iinc 3 1, 3, 0, 0) := rfl
theorem i315_34 : mm_cd 315 34 = some (.goto (-30), 3, 0, 0) := rfl
theorem i315_37 : mm_cd 315 37 = some (.iload_n 2, 1, 0, 0) := rfl
theorem i315_38 : mm_cd 315 38 = some (.ireturn, 1, 0, 0) := rfl
def q315_29 (k4 : Int32 → Int32 → Int32 → mS → Option mQ) (v1 : Int32) (v3 : Int32) (y0 : Int32) (y1 : Int32) (s : mS) : Option mQ := bx (y0 ||| y1) fun x1 => bx (v3 + (1 : Int32)) fun x2 => k4 v1 x1 x2 s
theorem t315_29 {L : Nat} {xs : Nat → Int32} {d : Nat} {k4 : Int32 → Int32 → Int32 → mS → Option mQ} (hk4 : ∀ (v1 : Int32) (v2 : Int32) (v3 : Int32) (s : mS) (r : mQ), k4 v1 v2 v3 s = some r → Ev L xs d 315 4 [(0, .ref 512), (1, .int v1), (2, .int v2), (3, .int v3)] [] (hp s) (hr r)) (hd : 4 ≤ d) {v1 : Int32} {v3 : Int32} {y0 : Int32} {y1 : Int32} {s : mS} {r : mQ} (h : q315_29 k4 v1 v3 y0 y1 s = some r) : Ev L xs d 315 29 [(0, .ref 512), (1, .int v1), (3, .int v3)] [.int y1, .int y0] (hp s) (hr r) := by
  unfold q315_29 at h
  refine Ev.ior H315 i315_29 ?_
  refine Rd.istore_n H315 i315_30 (Nat.le_of_ble_eq_true rfl) (lv2 := fun x1 => [(2, .int x1), (0, .ref 512), (1, .int v1), (3, .int v3)]) (fun _ => rfl) h (fun x1 h => ?_)
  refine Rd.iinc H315 i315_31 (Nat.le_of_ble_eq_true rfl) rfl kI_1 (lv2 := fun x2 => [(3, .int x2), (2, .int x1), (0, .ref 512), (1, .int v1)]) (fun _ => rfl) h (fun x2 h => ?_)
  refine Ev.goto H315 i315_34 (t := 4) (by decide) ?_
  exact Ev.sub (l := [(0, .ref 512), (1, .int v1), (2, .int x1), (3, .int x2)]) rfl rfl (mm_sub_c rfl (mm_sub_c rfl (mm_sub_c rfl (mm_sub_c rfl mm_sub_n)))) (hk4 _ _ _ _ _ h)
def q315_4 : Nat → Int32 → Int32 → Int32 → mS → Option mQ
  | 0, _, _, _, _ => none
  | n + 1, v1, v2, v3, s => bN (q198 s) fun x4 s3 => if x4 ≤ v3 then (rv v2 s3) else (bN (q314 v3 s3) fun x6 s5 => if v1 < x6 then (q315_29 (q315_4 n) v1 v3 v2 (0 : Int32) s5) else (q315_29 (q315_4 n) v1 v3 v2 (shlI (1 : Int32) v3) s5))
theorem t315_4 {L : Nat} {xs : Nat → Int32} {d : Nat} (hd : 4 ≤ d) : ∀ (n : Nat) (v1 : Int32) (v2 : Int32) (v3 : Int32) (s : mS) (r : mQ), q315_4 n v1 v2 v3 s = some r → Ev L xs d 315 4 [(0, .ref 512), (1, .int v1), (2, .int v2), (3, .int v3)] [] (hp s) (hr r) := by
  intro n
  induction n with
  | zero => intro v1 v2 v3 s r h; rw [q315_4] at h; cases h
  | succ n ih =>
    intro v1 v2 v3 s r h
    rw [q315_4] at h
    refine Ev.iload_n H315 i315_4 rfl ?_
    refine Ev.aload_n H315 i315_5 rfl ?_
    refine Rd.cV0vN H315 i315_6 cal198 ob11 (Nat.le_of_ble_eq_true rfl) (Nat.le_of_ble_eq_true rfl) (Nat.lt_of_lt_of_le (by decide) hd) (fun q hq => c198 hq) h (fun x4 s3 h => ?_)
    refine Rd.ic_ge H315 i315_9 (t := 37) (by decide) h (fun hc h => ?_) (fun hc h => ?_)
    · refine Ev.iload_n H315 i315_37 rfl ?_
      exact Rd.ireturn H315 i315_38 rfl h
    · refine Ev.iload_n H315 i315_12 rfl ?_
      refine Ev.aload_n H315 i315_13 rfl ?_
      refine Ev.iload_n H315 i315_14 rfl ?_
      refine Rd.cV1vN H315 i315_15 cal314 ob11 (Nat.le_of_ble_eq_true rfl) (Nat.le_of_ble_eq_true rfl) (Nat.lt_of_lt_of_le (by decide) hd) (fun q hq => c314 hq) h (fun x6 s5 h => ?_)
      refine Ev.iload_n H315 i315_18 rfl ?_
      refine Rd.ic_gt H315 i315_19 (t := 28) (by decide) h (fun hc h => ?_) (fun hc h => ?_)
      · refine Ev.iconst H315 i315_28 kI_0 ?_
        exact Ev.sub (l := [(0, .ref 512), (1, .int v1), (3, .int v3)]) rfl rfl (mm_sub_c rfl (mm_sub_c rfl (mm_sub_c rfl mm_sub_n))) (t315_29 (k4 := (q315_4 n)) (fun _ _ _ _ _ h => ih _ _ _ _ _ h) hd h)
      · refine Ev.iconst H315 i315_22 kI_1 ?_
        refine Ev.iload_n H315 i315_23 rfl ?_
        refine Rd.ishl H315 i315_24 ?_
        refine Ev.goto H315 i315_25 (t := 29) (by decide) ?_
        exact Ev.sub (l := [(0, .ref 512), (1, .int v1), (3, .int v3)]) rfl rfl (mm_sub_c rfl (mm_sub_c rfl (mm_sub_c rfl mm_sub_n))) (t315_29 (k4 := (q315_4 n)) (fun _ _ _ _ _ h => ih _ _ _ _ _ h) hd h)
/-- SerialGateModel.thatFit(I)I -/
def q315 (v1 : Int32) (s : mS) : Option mQ := q315_4 10000 v1 (0 : Int32) (0 : Int32) s
theorem c315 {L : Nat} {xs : Nat → Int32} {v1 : Int32} {s : mS} {r : mQ} (h : q315 v1 s = some r) : ∀ d, 4 ≤ d → Cl L xs d 315 [.ref 512, .int v1] (hp s) (hr r) := by
  intro d hd
  show Ev L xs d 315 0 [(0, .ref 512), (1, .int v1)] [] (hp s) (hr r)
  unfold q315 at h
  refine Ev.iconst H315 i315_0 kI_0 ?_
  refine Ev.istore_n H315 i315_1 (Nat.le_of_ble_eq_true rfl) (lv2 := [(2, .int (0 : Int32)), (0, .ref 512), (1, .int v1)]) rfl ?_
  refine Ev.iconst H315 i315_2 kI_0 ?_
  refine Ev.istore_n H315 i315_3 (Nat.le_of_ble_eq_true rfl) (lv2 := [(3, .int (0 : Int32)), (2, .int (0 : Int32)), (0, .ref 512), (1, .int v1)]) rfl ?_
  exact Ev.sub (l := [(0, .ref 512), (1, .int v1), (2, .int (0 : Int32)), (3, .int (0 : Int32))]) rfl rfl (mm_sub_c rfl (mm_sub_c rfl (mm_sub_c rfl (mm_sub_c rfl mm_sub_n)))) (t315_4 hd 10000 _ _ _ _ _ h)
theorem i316_0 : mm_cd 316 0 = some (.aload_n 0, 1, 0, 0) := rfl
theorem i316_1 : mm_cd 316 1 = some (.invokevirtual 238, 3, 0, 224) := rfl
theorem i316_4 : mm_cd 316 4 = some (.aload_n 0, 1, 0, 0) := rfl
theorem i316_5 : mm_cd 316 5 = some (.aload_n 0, 1, 0, 0) := rfl
theorem i316_6 : mm_cd 316 6 = some (.invokevirtual 450, 3, 0, 312) := rfl
theorem i316_9 : mm_cd 316 9 = some (.ifCond .ne 7, 3, 0, 0) := rfl
theorem i316_12 : mm_cd 316 12 = some (.iconst 1, 1, 0, 0) := rfl
theorem i316_13 : mm_cd 316 13 = some (.goto 4, 3, 0, 0) := rfl
theorem i316_16 : mm_cd 316 16 = some (.iconst 0, 1, 0, 0) := rfl
theorem i316_17 : mm_cd 316 17 = some (.iconst 1, 1, 0, 0) := rfl
theorem i316_18 : mm_cd 316 18 = some (.invokevirtual 249, 3, 0, 188) := rfl
theorem i316_21 : mm_cd 316 21 = some (.ifCond .eq 7, 3, 0, 0) := rfl
theorem i316_24 : mm_cd 316 24 = some (.iconst 0, 1, 0, 0) := rfl
theorem i316_25 : mm_cd 316 25 = some (.goto 8, 3, 0, 0) := rfl
theorem i316_28 : mm_cd 316 28 = some (.aload_n 0, 1, 0, 0) := rfl
theorem i316_29 : mm_cd 316 29 = some (.iconst 1, 1, 0, 0) := rfl
theorem i316_30 : mm_cd 316 30 = some (.invokevirtual 453, 3, 0, 315) := rfl
theorem i316_33 : mm_cd 316 33 = some (.ireturn, 1, 0, 0) := rfl
def q316_17 (y1 : Int32) (s : mS) : Option mQ := bN (q188 y1 (1 : Int32) s) fun x2 s1 => if x2 = 0 then (bN (q315 (1 : Int32) s1) fun x4 s3 => rv x4 s3) else (rv (0 : Int32) s1)
theorem t316_17 {L : Nat} {xs : Nat → Int32} {d : Nat} (hd : 5 ≤ d) {y1 : Int32} {s : mS} {r : mQ} (h : q316_17 y1 s = some r) : Ev L xs d 316 17 [(0, .ref 512)] [.int y1, .ref 512] (hp s) (hr r) := by
  unfold q316_17 at h
  refine Ev.iconst H316 i316_17 kI_1 ?_
  refine Rd.cV2vN H316 i316_18 cal188 ob11 (Nat.le_of_ble_eq_true rfl) (Nat.le_of_ble_eq_true rfl) (Nat.lt_of_lt_of_le (by decide) hd) (fun q hq => c188 hq) h (fun x2 s1 h => ?_)
  refine Rd.if_eq H316 i316_21 (t := 28) (by decide) h (fun hc h => ?_) (fun hc h => ?_)
  · refine Ev.aload_n H316 i316_28 rfl ?_
    refine Ev.iconst H316 i316_29 kI_1 ?_
    refine Rd.cV1vN H316 i316_30 cal315 ob11 (Nat.le_of_ble_eq_true rfl) (Nat.le_of_ble_eq_true rfl) (Nat.lt_of_lt_of_le (by decide) hd) (fun q hq => c315 hq) h (fun x4 s3 h => ?_)
    exact Rd.ireturn H316 i316_33 rfl h
  · refine Ev.iconst H316 i316_24 kI_0 ?_
    refine Ev.goto H316 i316_25 (t := 33) (by decide) ?_
    exact Rd.ireturn H316 i316_33 rfl h
/-- SerialGateModel.who()I -/
def q316 (s : mS) : Option mQ := bM (q224 s) fun s5 => bN (q312 s5) fun x7 s6 => if ¬ x7 = 0 then (q316_17 (0 : Int32) s6) else (q316_17 (1 : Int32) s6)
theorem c316 {L : Nat} {xs : Nat → Int32} {s : mS} {r : mQ} (h : q316 s = some r) : ∀ d, 5 ≤ d → Cl L xs d 316 [.ref 512] (hp s) (hr r) := by
  intro d hd
  show Ev L xs d 316 0 [(0, .ref 512)] [] (hp s) (hr r)
  unfold q316 at h
  refine Ev.aload_n H316 i316_0 rfl ?_
  refine Rd.cV0uN H316 i316_1 cal224 ob11 (Nat.le_of_ble_eq_true rfl) (Nat.le_of_ble_eq_true rfl) (Nat.lt_of_lt_of_le (by decide) hd) (fun q hq => c224 hq) h (fun s5 h => ?_)
  refine Ev.aload_n H316 i316_4 rfl ?_
  refine Ev.aload_n H316 i316_5 rfl ?_
  refine Rd.cV0vN H316 i316_6 cal312 ob11 (Nat.le_of_ble_eq_true rfl) (Nat.le_of_ble_eq_true rfl) (Nat.lt_of_lt_of_le (by decide) hd) (fun q hq => c312 hq) h (fun x7 s6 h => ?_)
  refine Rd.if_ne H316 i316_9 (t := 16) (by decide) h (fun hc h => ?_) (fun hc h => ?_)
  · refine Ev.iconst H316 i316_16 kI_0 ?_
    exact Ev.sub (l := [(0, .ref 512)]) rfl rfl (mm_sub_c rfl mm_sub_n) (t316_17 hd h)
  · refine Ev.iconst H316 i316_12 kI_1 ?_
    refine Ev.goto H316 i316_13 (t := 17) (by decide) ?_
    exact Ev.sub (l := [(0, .ref 512)]) rfl rfl (mm_sub_c rfl mm_sub_n) (t316_17 hd h)
theorem i317_0 : mm_cd 317 0 = some (.aload_n 0, 1, 0, 0) := rfl
theorem i317_1 : mm_cd 317 1 = some (.invokevirtual 238, 3, 0, 224) := rfl
theorem i317_4 : mm_cd 317 4 = some (.aload_n 0, 1, 0, 0) := rfl
theorem i317_5 : mm_cd 317 5 = some (.aload_n 0, 1, 0, 0) := rfl
theorem i317_6 : mm_cd 317 6 = some (.invokevirtual 450, 3, 0, 312) := rfl
theorem i317_9 : mm_cd 317 9 = some (.ifCond .ne 7, 3, 0, 0) := rfl
theorem i317_12 : mm_cd 317 12 = some (.iconst 1, 1, 0, 0) := rfl
theorem i317_13 : mm_cd 317 13 = some (.goto 4, 3, 0, 0) := rfl
theorem i317_16 : mm_cd 317 16 = some (.iconst 0, 1, 0, 0) := rfl
theorem i317_17 : mm_cd 317 17 = some (.iconst 1, 1, 0, 0) := rfl
theorem i317_18 : mm_cd 317 18 = some (.invokevirtual 249, 3, 0, 188) := rfl
theorem i317_21 : mm_cd 317 21 = some (.ifCond .eq 5, 3, 0, 0) := rfl
theorem i317_24 : mm_cd 317 24 = some (.iconst 0, 1, 0, 0) := rfl
theorem i317_25 : mm_cd 317 25 = some (.ireturn, 1, 0, 0) := rfl
theorem i317_26 : mm_cd 317 26 = some (.aload_n 0, 1, 0, 0) := rfl
theorem i317_27 : mm_cd 317 27 = some (.iconst 0, 1, 0, 0) := rfl
theorem i317_28 : mm_cd 317 28 = some (.invokevirtual 453, 3, 0, 315) := rfl
theorem i317_31 : mm_cd 317 31 = some (.ifCond .eq 11, 3, 0, 0) := rfl
theorem i317_34 : mm_cd 317 34 = some (.aload_n 0, 1, 0, 0) := rfl
theorem i317_35 : mm_cd 317 35 = some (.iconst 0, 1, 0, 0) := rfl
theorem i317_36 : mm_cd 317 36 = some (.invokevirtual 453, 3, 0, 315) := rfl
theorem i317_39 : mm_cd 317 39 = some (.goto 8, 3, 0, 0) := rfl
theorem i317_42 : mm_cd 317 42 = some (.aload_n 0, 1, 0, 0) := rfl
theorem i317_43 : mm_cd 317 43 = some (.iconst 1, 1, 0, 0) := rfl
theorem i317_44 : mm_cd 317 44 = some (.invokevirtual 453, 3, 0, 315) := rfl
theorem i317_47 : mm_cd 317 47 = some (.istore_n 1, 1, 0, 0) := rfl
theorem i317_48 : mm_cd 317 48 = some (.iload_n 1, 1, 0, 0) := rfl
theorem i317_49 : mm_cd 317 49 = some (.ifCond .ne 7, 3, 0, 0) := rfl
theorem i317_52 : mm_cd 317 52 = some (.iconst (-1), 1, 0, 0) := rfl
theorem i317_53 : mm_cd 317 53 = some (.goto 7, 3, 0, 0) := rfl
theorem i317_56 : mm_cd 317 56 = some (.iload_n 1, 1, 0, 0) := rfl
theorem i317_57 : mm_cd 317 57 = some (.invokestatic 322, 3, 0, 269) := rfl
theorem i317_60 : mm_cd 317 60 = some (.ireturn, 1, 0, 0) := rfl
def q317_47 (y0 : Int32) (s : mS) : Option mQ := if ¬ y0 = 0 then (bN (q269 y0 s) fun x2 s1 => rv x2 s1) else (rv (-1 : Int32) s)
theorem t317_47 {L : Nat} {xs : Nat → Int32} {d : Nat} (hd : 5 ≤ d) {y0 : Int32} {s : mS} {r : mQ} (h : q317_47 y0 s = some r) : Ev L xs d 317 47 [] [.int y0] (hp s) (hr r) := by
  unfold q317_47 at h
  refine Ev.istore_n H317 i317_47 (Nat.le_of_ble_eq_true rfl) (lv2 := [(1, .int y0)]) rfl ?_
  refine Ev.iload_n H317 i317_48 rfl ?_
  refine Rd.if_ne H317 i317_49 (t := 56) (by decide) h (fun hc h => ?_) (fun hc h => ?_)
  · refine Ev.iload_n H317 i317_56 rfl ?_
    refine Rd.cS1vN H317 i317_57 cal269 (Nat.le_of_ble_eq_true rfl) (Nat.le_of_ble_eq_true rfl) (Nat.lt_of_lt_of_le (by decide) hd) (fun q hq => c269 hq) h (fun x2 s1 h => ?_)
    exact Rd.ireturn H317 i317_60 rfl h
  · refine Ev.iconst H317 i317_52 kI_m1 ?_
    refine Ev.goto H317 i317_53 (t := 60) (by decide) ?_
    exact Rd.ireturn H317 i317_60 rfl h
def q317_17 (y1 : Int32) (s : mS) : Option mQ := bN (q188 y1 (1 : Int32) s) fun x4 s3 => if x4 = 0 then (bN (q315 (0 : Int32) s3) fun x6 s5 => if x6 = 0 then (bN (q315 (1 : Int32) s5) fun x8 s7 => q317_47 x8 s7) else (bN (q315 (0 : Int32) s5) fun x10 s9 => q317_47 x10 s9)) else (rv (0 : Int32) s3)
theorem t317_17 {L : Nat} {xs : Nat → Int32} {d : Nat} (hd : 5 ≤ d) {y1 : Int32} {s : mS} {r : mQ} (h : q317_17 y1 s = some r) : Ev L xs d 317 17 [(0, .ref 512)] [.int y1, .ref 512] (hp s) (hr r) := by
  unfold q317_17 at h
  refine Ev.iconst H317 i317_17 kI_1 ?_
  refine Rd.cV2vN H317 i317_18 cal188 ob11 (Nat.le_of_ble_eq_true rfl) (Nat.le_of_ble_eq_true rfl) (Nat.lt_of_lt_of_le (by decide) hd) (fun q hq => c188 hq) h (fun x4 s3 h => ?_)
  refine Rd.if_eq H317 i317_21 (t := 26) (by decide) h (fun hc h => ?_) (fun hc h => ?_)
  · refine Ev.aload_n H317 i317_26 rfl ?_
    refine Ev.iconst H317 i317_27 kI_0 ?_
    refine Rd.cV1vN H317 i317_28 cal315 ob11 (Nat.le_of_ble_eq_true rfl) (Nat.le_of_ble_eq_true rfl) (Nat.lt_of_lt_of_le (by decide) hd) (fun q hq => c315 hq) h (fun x6 s5 h => ?_)
    refine Rd.if_eq H317 i317_31 (t := 42) (by decide) h (fun hc h => ?_) (fun hc h => ?_)
    · refine Ev.aload_n H317 i317_42 rfl ?_
      refine Ev.iconst H317 i317_43 kI_1 ?_
      refine Rd.cV1vN H317 i317_44 cal315 ob11 (Nat.le_of_ble_eq_true rfl) (Nat.le_of_ble_eq_true rfl) (Nat.lt_of_lt_of_le (by decide) hd) (fun q hq => c315 hq) h (fun x8 s7 h => ?_)
      exact Ev.sub (l := []) rfl rfl mm_sub_n (t317_47 hd h)
    · refine Ev.aload_n H317 i317_34 rfl ?_
      refine Ev.iconst H317 i317_35 kI_0 ?_
      refine Rd.cV1vN H317 i317_36 cal315 ob11 (Nat.le_of_ble_eq_true rfl) (Nat.le_of_ble_eq_true rfl) (Nat.lt_of_lt_of_le (by decide) hd) (fun q hq => c315 hq) h (fun x10 s9 h => ?_)
      refine Ev.goto H317 i317_39 (t := 47) (by decide) ?_
      exact Ev.sub (l := []) rfl rfl mm_sub_n (t317_47 hd h)
  · refine Ev.iconst H317 i317_24 kI_0 ?_
    exact Rd.ireturn H317 i317_25 rfl h
/-- SerialGateModel.likely()I -/
def q317 (s : mS) : Option mQ := bM (q224 s) fun s11 => bN (q312 s11) fun x13 s12 => if ¬ x13 = 0 then (q317_17 (0 : Int32) s12) else (q317_17 (1 : Int32) s12)
theorem c317 {L : Nat} {xs : Nat → Int32} {s : mS} {r : mQ} (h : q317 s = some r) : ∀ d, 5 ≤ d → Cl L xs d 317 [.ref 512] (hp s) (hr r) := by
  intro d hd
  show Ev L xs d 317 0 [(0, .ref 512)] [] (hp s) (hr r)
  unfold q317 at h
  refine Ev.aload_n H317 i317_0 rfl ?_
  refine Rd.cV0uN H317 i317_1 cal224 ob11 (Nat.le_of_ble_eq_true rfl) (Nat.le_of_ble_eq_true rfl) (Nat.lt_of_lt_of_le (by decide) hd) (fun q hq => c224 hq) h (fun s11 h => ?_)
  refine Ev.aload_n H317 i317_4 rfl ?_
  refine Ev.aload_n H317 i317_5 rfl ?_
  refine Rd.cV0vN H317 i317_6 cal312 ob11 (Nat.le_of_ble_eq_true rfl) (Nat.le_of_ble_eq_true rfl) (Nat.lt_of_lt_of_le (by decide) hd) (fun q hq => c312 hq) h (fun x13 s12 h => ?_)
  refine Rd.if_ne H317 i317_9 (t := 16) (by decide) h (fun hc h => ?_) (fun hc h => ?_)
  · refine Ev.iconst H317 i317_16 kI_0 ?_
    exact Ev.sub (l := [(0, .ref 512)]) rfl rfl (mm_sub_c rfl mm_sub_n) (t317_17 hd h)
  · refine Ev.iconst H317 i317_12 kI_1 ?_
    refine Ev.goto H317 i317_13 (t := 17) (by decide) ?_
    exact Ev.sub (l := [(0, .ref 512)]) rfl rfl (mm_sub_c rfl mm_sub_n) (t317_17 hd h)
theorem i318_0 : mm_cd 318 0 = some (.aload_n 0, 1, 0, 0) := rfl
theorem i318_1 : mm_cd 318 1 = some (.invokevirtual 238, 3, 0, 224) := rfl
theorem i318_4 : mm_cd 318 4 = some (.aload_n 0, 1, 0, 0) := rfl
theorem i318_5 : mm_cd 318 5 = some (.aload_n 0, 1, 0, 0) := rfl
theorem i318_6 : mm_cd 318 6 = some (.invokevirtual 450, 3, 0, 312) := rfl
theorem i318_9 : mm_cd 318 9 = some (.ifCond .ne 7, 3, 0, 0) := rfl
theorem i318_12 : mm_cd 318 12 = some (.iconst 1, 1, 0, 0) := rfl
theorem i318_13 : mm_cd 318 13 = some (.goto 4, 3, 0, 0) := rfl
theorem i318_16 : mm_cd 318 16 = some (.iconst 0, 1, 0, 0) := rfl
theorem i318_17 : mm_cd 318 17 = some (.iconst 1, 1, 0, 0) := rfl
theorem i318_18 : mm_cd 318 18 = some (.invokevirtual 249, 3, 0, 188) := rfl
theorem i318_21 : mm_cd 318 21 = some (.ifCond .eq 5, 3, 0, 0) := rfl
theorem i318_24 : mm_cd 318 24 = some (.iconst 0, 1, 0, 0) := rfl
theorem i318_25 : mm_cd 318 25 = some (.ireturn, 1, 0, 0) := rfl
theorem i318_26 : mm_cd 318 26 = some (.aload_n 0, 1, 0, 0) := rfl
theorem i318_27 : mm_cd 318 27 = some (.iconst 1, 1, 0, 0) := rfl
theorem i318_28 : mm_cd 318 28 = some (.invokevirtual 453, 3, 0, 315) := rfl
theorem i318_31 : mm_cd 318 31 = some (.istore_n 1, 1, 0, 0) := rfl
theorem i318_32 : mm_cd 318 32 = some (.iload_n 1, 1, 0, 0) := rfl
theorem i318_33 : mm_cd 318 33 = some (.invokestatic 258, 3, 0, 343) := rfl
theorem i318_36 : mm_cd 318 36 = some (.istore_n 2, 1, 0, 0) := rfl
theorem i318_37 : mm_cd 318 37 = some (.iconst (-1), 1, 0, 0) := rfl
theorem i318_38 : mm_cd 318 38 = some (.istore_n 3, 1, 0, 0) := rfl
theorem i318_39 : mm_cd 318 39 = some (.ldc_w 456, 3, 1000000, 0) := rfl
theorem i318_42 : mm_cd 318 42 = some (.istore 4, 2, 0, 0) := rfl
theorem i318_44 : mm_cd 318 44 = some (.iconst 0, 1, 0, 0) := rfl
theorem i318_45 : mm_cd 318 45 = some (.istore 5, 2, 0, 0) := rfl
theorem i318_47 : mm_cd 318 47 = some (.iload 5, 2, 0, 0) := rfl
theorem i318_49 : mm_cd 318 49 = some (.bipush 20, 2, 0, 0) := rfl
theorem i318_51 : mm_cd 318 51 = some (.if_icmp .ge 95, 3, 0, 0) := rfl
theorem i318_54 : mm_cd 318 54 = some (.iload_n 2, 1, 0, 0) := rfl
theorem i318_55 : mm_cd 318 55 = some (.iconst 1, 1, 0, 0) := rfl
theorem i318_56 : mm_cd 318 56 = some (.if_icmp .le 90, 3, 0, 0) := rfl
theorem i318_59 : mm_cd 318 59 = some (.iconst 0, 1, 0, 0) := rfl
theorem i318_60 : mm_cd 318 60 = some (.istore 6, 2, 0, 0) := rfl
theorem i318_62 : mm_cd 318 62 = some (.iconst 0, 1, 0, 0) := rfl
theorem i318_63 : mm_cd 318 63 = some (.istore 7, 2, 0, 0) := rfl
theorem i318_65 : mm_cd 318 65 = some (.iload 7, 2, 0, 0) := rfl
theorem i318_67 : mm_cd 318 67 = some (.aload_n 0, 1, 0, 0) := rfl
theorem i318_68 : mm_cd 318 68 = some (.invokevirtual 129, 3, 0, 198) := rfl
theorem i318_71 : mm_cd 318 71 = some (.if_icmp .ge 35, 3, 0, 0) := rfl
theorem i318_74 : mm_cd 318 74 = some (.iload 6, 2, 0, 0) := rfl
theorem i318_76 : mm_cd 318 76 = some (.iload_n 1, 1, 0, 0) := rfl
theorem i318_77 : mm_cd 318 77 = some (.iload 7, 2, 0, 0) := rfl
theorem i318_79 : mm_cd 318 79 = some (.invokestatic 79, 3, 0, 190) := rfl
theorem i318_82 : mm_cd 318 82 = some (.ifCond .eq 14, 3, 0, 0) := rfl
theorem i318_85 : mm_cd 318 85 = some (.aload_n 0, 1, 0, 0) := rfl
theorem i318_86 : mm_cd 318 86 = some (.iload 7, 2, 0, 0) := rfl
theorem i318_88 : mm_cd 318 88 = some (.iload 5, 2, 0, 0) := rfl
theorem i318_90 : mm_cd 318 90 = some (.invokevirtual 444, 3, 0, 313) := rfl
theorem i318_93 : mm_cd 318 93 = some (.goto 4, 3, 0, 0) := rfl
theorem i318_96 : mm_cd 318 96 = some (.iconst 0, 1, 0, 0) := rfl
theorem i318_97 : mm_cd 318 97 = some (.iadd, 1, 0, 0) := rfl
theorem i318_98 : mm_cd 318 98 = some (.istore 6, 2, 0, 0) := rfl
theorem i318_100 : mm_cd 318 100 = some (.iinc 7 1, 3, 0, 0) := rfl
theorem i318_103 : mm_cd 318 103 = some (.goto (-38), 3, 0, 0) := rfl
theorem i318_106 : mm_cd 318 106 = some (.iload 6, 2, 0, 0) := rfl
theorem i318_108 : mm_cd 318 108 = some (.iload_n 2, 1, 0, 0) := rfl
theorem i318_109 : mm_cd 318 109 = some (.iload 6, 2, 0, 0) := rfl
theorem i318_111 : mm_cd 318 111 = some (.isub, 1, 0, 0) := rfl
theorem i318_112 : mm_cd 318 112 = some (.invokestatic 276, 3, 2, 0) := rfl
theorem i318_115 : mm_cd 318 115 = some (.istore 7, 2, 0, 0) := rfl
theorem i318_117 : mm_cd 318 117 = some (.iload 7, 2, 0, 0) := rfl
theorem i318_119 : mm_cd 318 119 = some (.iload 4, 2, 0, 0) := rfl
theorem i318_121 : mm_cd 318 121 = some (.if_icmp .ge 8, 3, 0, 0) := rfl
theorem i318_124 : mm_cd 318 124 = some (.iload 5, 2, 0, 0) := rfl
theorem i318_126 : mm_cd 318 126 = some (.goto 4, 3, 0, 0) := rfl
theorem i318_129 : mm_cd 318 129 = some (.iload_n 3, 1, 0, 0) := rfl
theorem i318_130 : mm_cd 318 130 = some (.istore_n 3, 1, 0, 0) := rfl
theorem i318_131 : mm_cd 318 131 = some (.iload 4, 2, 0, 0) := rfl
theorem i318_133 : mm_cd 318 133 = some (.iload 7, 2, 0, 0) := rfl
theorem i318_135 : mm_cd 318 135 = some (.invokestatic 149, 3, 3, 0) := rfl
theorem i318_138 : mm_cd 318 138 = some (.istore 4, 2, 0, 0) := rfl
theorem i318_140 : mm_cd 318 140 = some (.iinc 5 1, 3, 0, 0) := rfl
theorem i318_143 : mm_cd 318 143 = some (.goto (-96), 3, 0, 0) := rfl
theorem i318_146 : mm_cd 318 146 = some (.iload_n 3, 1, 0, 0) := rfl
theorem i318_147 : mm_cd 318 147 = some (.ireturn, 1, 0, 0) := rfl
def q318_97 (k65 : Int32 → Int32 → Int32 → Int32 → Int32 → Int32 → Int32 → mS → Option mQ) (v1 : Int32) (v2 : Int32) (v3 : Int32) (v4 : Int32) (v5 : Int32) (v7 : Int32) (y0 : Int32) (y1 : Int32) (s : mS) : Option mQ := bx (y0 + y1) fun x1 => bx (v7 + (1 : Int32)) fun x2 => k65 v1 v2 v3 v4 v5 x1 x2 s
theorem t318_97 {L : Nat} {xs : Nat → Int32} {d : Nat} {k65 : Int32 → Int32 → Int32 → Int32 → Int32 → Int32 → Int32 → mS → Option mQ} (hk65 : ∀ (v1 : Int32) (v2 : Int32) (v3 : Int32) (v4 : Int32) (v5 : Int32) (v6 : Int32) (v7 : Int32) (s : mS) (r : mQ), k65 v1 v2 v3 v4 v5 v6 v7 s = some r → Ev L xs d 318 65 [(0, .ref 512), (1, .int v1), (2, .int v2), (3, .int v3), (4, .int v4), (5, .int v5), (6, .int v6), (7, .int v7)] [] (hp s) (hr r)) (hd : 5 ≤ d) {v1 : Int32} {v2 : Int32} {v3 : Int32} {v4 : Int32} {v5 : Int32} {v7 : Int32} {y0 : Int32} {y1 : Int32} {s : mS} {r : mQ} (h : q318_97 k65 v1 v2 v3 v4 v5 v7 y0 y1 s = some r) : Ev L xs d 318 97 [(0, .ref 512), (1, .int v1), (2, .int v2), (3, .int v3), (4, .int v4), (5, .int v5), (7, .int v7)] [.int y1, .int y0] (hp s) (hr r) := by
  unfold q318_97 at h
  refine Ev.iadd H318 i318_97 ?_
  refine Rd.istore H318 i318_98 (Nat.le_of_ble_eq_true rfl) (lv2 := fun x1 => [(6, .int x1), (0, .ref 512), (1, .int v1), (2, .int v2), (3, .int v3), (4, .int v4), (5, .int v5), (7, .int v7)]) (fun _ => rfl) h (fun x1 h => ?_)
  refine Rd.iinc H318 i318_100 (Nat.le_of_ble_eq_true rfl) rfl kI_1 (lv2 := fun x2 => [(7, .int x2), (6, .int x1), (0, .ref 512), (1, .int v1), (2, .int v2), (3, .int v3), (4, .int v4), (5, .int v5)]) (fun _ => rfl) h (fun x2 h => ?_)
  refine Ev.goto H318 i318_103 (t := 65) (by decide) ?_
  exact Ev.sub (l := [(0, .ref 512), (1, .int v1), (2, .int v2), (3, .int v3), (4, .int v4), (5, .int v5), (6, .int x1), (7, .int x2)]) rfl rfl (mm_sub_c rfl (mm_sub_c rfl (mm_sub_c rfl (mm_sub_c rfl (mm_sub_c rfl (mm_sub_c rfl (mm_sub_c rfl (mm_sub_c rfl mm_sub_n)))))))) (hk65 _ _ _ _ _ _ _ _ _ h)
def q318_65 (k106 : Int32 → Int32 → Int32 → Int32 → Int32 → Int32 → mS → Option mQ) : Nat → Int32 → Int32 → Int32 → Int32 → Int32 → Int32 → Int32 → mS → Option mQ
  | 0, _, _, _, _, _, _, _, _ => none
  | n + 1, v1, v2, v3, v4, v5, v6, v7, s => bN (q198 s) fun x4 s3 => if x4 ≤ v7 then (k106 v1 v2 v3 v4 v5 v6 s3) else (bN (q190 v1 v7 s3) fun x6 s5 => if x6 = 0 then (q318_97 (q318_65 k106 n) v1 v2 v3 v4 v5 v7 v6 (0 : Int32) s5) else (bN (q313 v7 v5 s5) fun x8 s7 => q318_97 (q318_65 k106 n) v1 v2 v3 v4 v5 v7 v6 x8 s7))
theorem t318_65 {L : Nat} {xs : Nat → Int32} {d : Nat} {k106 : Int32 → Int32 → Int32 → Int32 → Int32 → Int32 → mS → Option mQ} (hk106 : ∀ (v1 : Int32) (v2 : Int32) (v3 : Int32) (v4 : Int32) (v5 : Int32) (v6 : Int32) (s : mS) (r : mQ), k106 v1 v2 v3 v4 v5 v6 s = some r → Ev L xs d 318 106 [(0, .ref 512), (1, .int v1), (2, .int v2), (3, .int v3), (4, .int v4), (5, .int v5), (6, .int v6)] [] (hp s) (hr r)) (hd : 5 ≤ d) : ∀ (n : Nat) (v1 : Int32) (v2 : Int32) (v3 : Int32) (v4 : Int32) (v5 : Int32) (v6 : Int32) (v7 : Int32) (s : mS) (r : mQ), q318_65 k106 n v1 v2 v3 v4 v5 v6 v7 s = some r → Ev L xs d 318 65 [(0, .ref 512), (1, .int v1), (2, .int v2), (3, .int v3), (4, .int v4), (5, .int v5), (6, .int v6), (7, .int v7)] [] (hp s) (hr r) := by
  intro n
  induction n with
  | zero => intro v1 v2 v3 v4 v5 v6 v7 s r h; rw [q318_65] at h; cases h
  | succ n ih =>
    intro v1 v2 v3 v4 v5 v6 v7 s r h
    rw [q318_65] at h
    refine Ev.iload H318 i318_65 rfl ?_
    refine Ev.aload_n H318 i318_67 rfl ?_
    refine Rd.cV0vN H318 i318_68 cal198 ob11 (Nat.le_of_ble_eq_true rfl) (Nat.le_of_ble_eq_true rfl) (Nat.lt_of_lt_of_le (by decide) hd) (fun q hq => c198 hq) h (fun x4 s3 h => ?_)
    refine Rd.ic_ge H318 i318_71 (t := 106) (by decide) h (fun hc h => ?_) (fun hc h => ?_)
    · exact Ev.sub (l := [(0, .ref 512), (1, .int v1), (2, .int v2), (3, .int v3), (4, .int v4), (5, .int v5), (6, .int v6)]) rfl rfl (mm_sub_c rfl (mm_sub_c rfl (mm_sub_c rfl (mm_sub_c rfl (mm_sub_c rfl (mm_sub_c rfl (mm_sub_c rfl mm_sub_n))))))) (hk106 _ _ _ _ _ _ _ _ h)
    · refine Ev.iload H318 i318_74 rfl ?_
      refine Ev.iload_n H318 i318_76 rfl ?_
      refine Ev.iload H318 i318_77 rfl ?_
      refine Rd.cS2vN H318 i318_79 cal190 (Nat.le_of_ble_eq_true rfl) (Nat.le_of_ble_eq_true rfl) (Nat.lt_of_lt_of_le (by decide) hd) (fun q hq => c190 hq) h (fun x6 s5 h => ?_)
      refine Rd.if_eq H318 i318_82 (t := 96) (by decide) h (fun hc h => ?_) (fun hc h => ?_)
      · refine Ev.iconst H318 i318_96 kI_0 ?_
        exact Ev.sub (l := [(0, .ref 512), (1, .int v1), (2, .int v2), (3, .int v3), (4, .int v4), (5, .int v5), (7, .int v7)]) rfl rfl (mm_sub_c rfl (mm_sub_c rfl (mm_sub_c rfl (mm_sub_c rfl (mm_sub_c rfl (mm_sub_c rfl (mm_sub_c rfl mm_sub_n))))))) (t318_97 (k65 := (q318_65 k106 n)) (fun _ _ _ _ _ _ _ _ _ h => ih _ _ _ _ _ _ _ _ _ h) hd h)
      · refine Ev.aload_n H318 i318_85 rfl ?_
        refine Ev.iload H318 i318_86 rfl ?_
        refine Ev.iload H318 i318_88 rfl ?_
        refine Rd.cV2vN H318 i318_90 cal313 ob11 (Nat.le_of_ble_eq_true rfl) (Nat.le_of_ble_eq_true rfl) (Nat.lt_of_lt_of_le (by decide) hd) (fun q hq => c313 hq) h (fun x8 s7 h => ?_)
        refine Ev.goto H318 i318_93 (t := 97) (by decide) ?_
        exact Ev.sub (l := [(0, .ref 512), (1, .int v1), (2, .int v2), (3, .int v3), (4, .int v4), (5, .int v5), (7, .int v7)]) rfl rfl (mm_sub_c rfl (mm_sub_c rfl (mm_sub_c rfl (mm_sub_c rfl (mm_sub_c rfl (mm_sub_c rfl (mm_sub_c rfl mm_sub_n))))))) (t318_97 (k65 := (q318_65 k106 n)) (fun _ _ _ _ _ _ _ _ _ h => ih _ _ _ _ _ _ _ _ _ h) hd h)
def q318_130 (k47 : Int32 → Int32 → Int32 → Int32 → Int32 → mS → Option mQ) (v1 : Int32) (v2 : Int32) (v4 : Int32) (v5 : Int32) (v7 : Int32) (y0 : Int32) (s : mS) : Option mQ := bx (mnI v4 v7) fun x9 => bx (v5 + (1 : Int32)) fun x10 => k47 v1 v2 y0 x9 x10 s
theorem t318_130 {L : Nat} {xs : Nat → Int32} {d : Nat} {k47 : Int32 → Int32 → Int32 → Int32 → Int32 → mS → Option mQ} (hk47 : ∀ (v1 : Int32) (v2 : Int32) (v3 : Int32) (v4 : Int32) (v5 : Int32) (s : mS) (r : mQ), k47 v1 v2 v3 v4 v5 s = some r → Ev L xs d 318 47 [(0, .ref 512), (1, .int v1), (2, .int v2), (3, .int v3), (4, .int v4), (5, .int v5)] [] (hp s) (hr r)) (hd : 5 ≤ d) {v1 : Int32} {v2 : Int32} {v4 : Int32} {v5 : Int32} {v7 : Int32} {y0 : Int32} {s : mS} {r : mQ} (h : q318_130 k47 v1 v2 v4 v5 v7 y0 s = some r) : Ev L xs d 318 130 [(0, .ref 512), (1, .int v1), (2, .int v2), (4, .int v4), (5, .int v5), (7, .int v7)] [.int y0] (hp s) (hr r) := by
  unfold q318_130 at h
  refine Ev.istore_n H318 i318_130 (Nat.le_of_ble_eq_true rfl) (lv2 := [(3, .int y0), (0, .ref 512), (1, .int v1), (2, .int v2), (4, .int v4), (5, .int v5), (7, .int v7)]) rfl ?_
  refine Ev.iload H318 i318_131 rfl ?_
  refine Ev.iload H318 i318_133 rfl ?_
  refine Rd.min H318 i318_135 (Nat.le_of_ble_eq_true rfl) ?_
  refine Rd.istore H318 i318_138 (Nat.le_of_ble_eq_true rfl) (lv2 := fun x9 => [(4, .int x9), (3, .int y0), (0, .ref 512), (1, .int v1), (2, .int v2), (5, .int v5), (7, .int v7)]) (fun _ => rfl) h (fun x9 h => ?_)
  refine Rd.iinc H318 i318_140 (Nat.le_of_ble_eq_true rfl) rfl kI_1 (lv2 := fun x10 => [(5, .int x10), (4, .int x9), (3, .int y0), (0, .ref 512), (1, .int v1), (2, .int v2), (7, .int v7)]) (fun _ => rfl) h (fun x10 h => ?_)
  refine Ev.goto H318 i318_143 (t := 47) (by decide) ?_
  exact Ev.sub (l := [(0, .ref 512), (1, .int v1), (2, .int v2), (3, .int y0), (4, .int x9), (5, .int x10)]) rfl rfl (mm_sub_c rfl (mm_sub_c rfl (mm_sub_c rfl (mm_sub_c rfl (mm_sub_c rfl (mm_sub_c rfl mm_sub_n)))))) (hk47 _ _ _ _ _ _ _ h)
def q318_106 (k47 : Int32 → Int32 → Int32 → Int32 → Int32 → mS → Option mQ) (v1 : Int32) (v2 : Int32) (v3 : Int32) (v4 : Int32) (v5 : Int32) (v6 : Int32) (s : mS) : Option mQ := bx (mxI v6 (v2 - v6)) fun x11 => if v4 ≤ x11 then (q318_130 k47 v1 v2 v4 v5 x11 v3 s) else (q318_130 k47 v1 v2 v4 v5 x11 v5 s)
theorem t318_106 {L : Nat} {xs : Nat → Int32} {d : Nat} {k47 : Int32 → Int32 → Int32 → Int32 → Int32 → mS → Option mQ} (hk47 : ∀ (v1 : Int32) (v2 : Int32) (v3 : Int32) (v4 : Int32) (v5 : Int32) (s : mS) (r : mQ), k47 v1 v2 v3 v4 v5 s = some r → Ev L xs d 318 47 [(0, .ref 512), (1, .int v1), (2, .int v2), (3, .int v3), (4, .int v4), (5, .int v5)] [] (hp s) (hr r)) (hd : 5 ≤ d) {v1 : Int32} {v2 : Int32} {v3 : Int32} {v4 : Int32} {v5 : Int32} {v6 : Int32} {s : mS} {r : mQ} (h : q318_106 k47 v1 v2 v3 v4 v5 v6 s = some r) : Ev L xs d 318 106 [(0, .ref 512), (1, .int v1), (2, .int v2), (3, .int v3), (4, .int v4), (5, .int v5), (6, .int v6)] [] (hp s) (hr r) := by
  unfold q318_106 at h
  refine Ev.iload H318 i318_106 rfl ?_
  refine Ev.iload_n H318 i318_108 rfl ?_
  refine Ev.iload H318 i318_109 rfl ?_
  refine Ev.isub H318 i318_111 ?_
  refine Rd.max H318 i318_112 (Nat.le_of_ble_eq_true rfl) ?_
  refine Rd.istore H318 i318_115 (Nat.le_of_ble_eq_true rfl) (lv2 := fun x11 => [(7, .int x11), (0, .ref 512), (1, .int v1), (2, .int v2), (3, .int v3), (4, .int v4), (5, .int v5), (6, .int v6)]) (fun _ => rfl) h (fun x11 h => ?_)
  refine Ev.iload H318 i318_117 rfl ?_
  refine Ev.iload H318 i318_119 rfl ?_
  refine Rd.ic_ge H318 i318_121 (t := 129) (by decide) h (fun hc h => ?_) (fun hc h => ?_)
  · refine Ev.iload_n H318 i318_129 rfl ?_
    exact Ev.sub (l := [(0, .ref 512), (1, .int v1), (2, .int v2), (4, .int v4), (5, .int v5), (7, .int x11)]) rfl rfl (mm_sub_c rfl (mm_sub_c rfl (mm_sub_c rfl (mm_sub_c rfl (mm_sub_c rfl (mm_sub_c rfl mm_sub_n)))))) (t318_130 (k47 := k47) hk47 hd h)
  · refine Ev.iload H318 i318_124 rfl ?_
    refine Ev.goto H318 i318_126 (t := 130) (by decide) ?_
    exact Ev.sub (l := [(0, .ref 512), (1, .int v1), (2, .int v2), (4, .int v4), (5, .int v5), (7, .int x11)]) rfl rfl (mm_sub_c rfl (mm_sub_c rfl (mm_sub_c rfl (mm_sub_c rfl (mm_sub_c rfl (mm_sub_c rfl mm_sub_n)))))) (t318_130 (k47 := k47) hk47 hd h)
def q318_47 : Nat → Int32 → Int32 → Int32 → Int32 → Int32 → mS → Option mQ
  | 0, _, _, _, _, _, _ => none
  | n + 1, v1, v2, v3, v4, v5, s => if (20 : Int32) ≤ v5 then (rv v3 s) else (if v2 ≤ (1 : Int32) then (rv v3 s) else (q318_65 (q318_106 (q318_47 n)) 10000 v1 v2 v3 v4 v5 (0 : Int32) (0 : Int32) s))
theorem t318_47 {L : Nat} {xs : Nat → Int32} {d : Nat} (hd : 5 ≤ d) : ∀ (n : Nat) (v1 : Int32) (v2 : Int32) (v3 : Int32) (v4 : Int32) (v5 : Int32) (s : mS) (r : mQ), q318_47 n v1 v2 v3 v4 v5 s = some r → Ev L xs d 318 47 [(0, .ref 512), (1, .int v1), (2, .int v2), (3, .int v3), (4, .int v4), (5, .int v5)] [] (hp s) (hr r) := by
  intro n
  induction n with
  | zero => intro v1 v2 v3 v4 v5 s r h; rw [q318_47] at h; cases h
  | succ n ih =>
    intro v1 v2 v3 v4 v5 s r h
    rw [q318_47] at h
    refine Ev.iload H318 i318_47 rfl ?_
    refine Ev.bipush H318 i318_49 kB_20 ?_
    refine Rd.ic_ge H318 i318_51 (t := 146) (by decide) h (fun hc h => ?_) (fun hc h => ?_)
    · refine Ev.iload_n H318 i318_146 rfl ?_
      exact Rd.ireturn H318 i318_147 rfl h
    · refine Ev.iload_n H318 i318_54 rfl ?_
      refine Ev.iconst H318 i318_55 kI_1 ?_
      refine Rd.ic_le H318 i318_56 (t := 146) (by decide) h (fun hc h => ?_) (fun hc h => ?_)
      · refine Ev.iload_n H318 i318_146 rfl ?_
        exact Rd.ireturn H318 i318_147 rfl h
      · refine Ev.iconst H318 i318_59 kI_0 ?_
        refine Ev.istore H318 i318_60 (Nat.le_of_ble_eq_true rfl) (lv2 := [(6, .int (0 : Int32)), (0, .ref 512), (1, .int v1), (2, .int v2), (3, .int v3), (4, .int v4), (5, .int v5)]) rfl ?_
        refine Ev.iconst H318 i318_62 kI_0 ?_
        refine Ev.istore H318 i318_63 (Nat.le_of_ble_eq_true rfl) (lv2 := [(7, .int (0 : Int32)), (6, .int (0 : Int32)), (0, .ref 512), (1, .int v1), (2, .int v2), (3, .int v3), (4, .int v4), (5, .int v5)]) rfl ?_
        exact Ev.sub (l := [(0, .ref 512), (1, .int v1), (2, .int v2), (3, .int v3), (4, .int v4), (5, .int v5), (6, .int (0 : Int32)), (7, .int (0 : Int32))]) rfl rfl (mm_sub_c rfl (mm_sub_c rfl (mm_sub_c rfl (mm_sub_c rfl (mm_sub_c rfl (mm_sub_c rfl (mm_sub_c rfl (mm_sub_c rfl mm_sub_n)))))))) (t318_65 (k106 := (q318_106 (q318_47 n))) (fun _ _ _ _ _ _ _ _ h => t318_106 (k47 := (q318_47 n)) (fun _ _ _ _ _ _ _ h => ih _ _ _ _ _ _ _ h) hd h) hd 10000 _ _ _ _ _ _ _ _ _ h)
def q318_17 (y1 : Int32) (s : mS) : Option mQ := bN (q188 y1 (1 : Int32) s) fun x13 s12 => if x13 = 0 then (bN (q315 (1 : Int32) s12) fun x15 s14 => bN (q343 x15 s14) fun x17 s16 => q318_47 10000 x15 x17 (-1 : Int32) (1000000 : Int32) (0 : Int32) s16) else (rv (0 : Int32) s12)
theorem t318_17 {L : Nat} {xs : Nat → Int32} {d : Nat} (hd : 5 ≤ d) {y1 : Int32} {s : mS} {r : mQ} (h : q318_17 y1 s = some r) : Ev L xs d 318 17 [(0, .ref 512)] [.int y1, .ref 512] (hp s) (hr r) := by
  unfold q318_17 at h
  refine Ev.iconst H318 i318_17 kI_1 ?_
  refine Rd.cV2vN H318 i318_18 cal188 ob11 (Nat.le_of_ble_eq_true rfl) (Nat.le_of_ble_eq_true rfl) (Nat.lt_of_lt_of_le (by decide) hd) (fun q hq => c188 hq) h (fun x13 s12 h => ?_)
  refine Rd.if_eq H318 i318_21 (t := 26) (by decide) h (fun hc h => ?_) (fun hc h => ?_)
  · refine Ev.aload_n H318 i318_26 rfl ?_
    refine Ev.iconst H318 i318_27 kI_1 ?_
    refine Rd.cV1vN H318 i318_28 cal315 ob11 (Nat.le_of_ble_eq_true rfl) (Nat.le_of_ble_eq_true rfl) (Nat.lt_of_lt_of_le (by decide) hd) (fun q hq => c315 hq) h (fun x15 s14 h => ?_)
    refine Ev.istore_n H318 i318_31 (Nat.le_of_ble_eq_true rfl) (lv2 := [(1, .int x15), (0, .ref 512)]) rfl ?_
    refine Ev.iload_n H318 i318_32 rfl ?_
    refine Rd.cS1vN H318 i318_33 cal343 (Nat.le_of_ble_eq_true rfl) (Nat.le_of_ble_eq_true rfl) (Nat.lt_of_lt_of_le (by decide) hd) (fun q hq => c343 hq) h (fun x17 s16 h => ?_)
    refine Ev.istore_n H318 i318_36 (Nat.le_of_ble_eq_true rfl) (lv2 := [(2, .int x17), (1, .int x15), (0, .ref 512)]) rfl ?_
    refine Ev.iconst H318 i318_37 kI_m1 ?_
    refine Ev.istore_n H318 i318_38 (Nat.le_of_ble_eq_true rfl) (lv2 := [(3, .int (-1 : Int32)), (2, .int x17), (1, .int x15), (0, .ref 512)]) rfl ?_
    refine Ev.ldc_w H318 i318_39 kI_1000000 ?_
    refine Ev.istore H318 i318_42 (Nat.le_of_ble_eq_true rfl) (lv2 := [(4, .int (1000000 : Int32)), (3, .int (-1 : Int32)), (2, .int x17), (1, .int x15), (0, .ref 512)]) rfl ?_
    refine Ev.iconst H318 i318_44 kI_0 ?_
    refine Ev.istore H318 i318_45 (Nat.le_of_ble_eq_true rfl) (lv2 := [(5, .int (0 : Int32)), (4, .int (1000000 : Int32)), (3, .int (-1 : Int32)), (2, .int x17), (1, .int x15), (0, .ref 512)]) rfl ?_
    exact Ev.sub (l := [(0, .ref 512), (1, .int x15), (2, .int x17), (3, .int (-1 : Int32)), (4, .int (1000000 : Int32)), (5, .int (0 : Int32))]) rfl rfl (mm_sub_c rfl (mm_sub_c rfl (mm_sub_c rfl (mm_sub_c rfl (mm_sub_c rfl (mm_sub_c rfl mm_sub_n)))))) (t318_47 hd 10000 _ _ _ _ _ _ _ h)
  · refine Ev.iconst H318 i318_24 kI_0 ?_
    exact Rd.ireturn H318 i318_25 rfl h
/-- SerialGateModel.ask()I -/
def q318 (s : mS) : Option mQ := bM (q224 s) fun s18 => bN (q312 s18) fun x20 s19 => if ¬ x20 = 0 then (q318_17 (0 : Int32) s19) else (q318_17 (1 : Int32) s19)
theorem c318 {L : Nat} {xs : Nat → Int32} {s : mS} {r : mQ} (h : q318 s = some r) : ∀ d, 5 ≤ d → Cl L xs d 318 [.ref 512] (hp s) (hr r) := by
  intro d hd
  show Ev L xs d 318 0 [(0, .ref 512)] [] (hp s) (hr r)
  unfold q318 at h
  refine Ev.aload_n H318 i318_0 rfl ?_
  refine Rd.cV0uN H318 i318_1 cal224 ob11 (Nat.le_of_ble_eq_true rfl) (Nat.le_of_ble_eq_true rfl) (Nat.lt_of_lt_of_le (by decide) hd) (fun q hq => c224 hq) h (fun s18 h => ?_)
  refine Ev.aload_n H318 i318_4 rfl ?_
  refine Ev.aload_n H318 i318_5 rfl ?_
  refine Rd.cV0vN H318 i318_6 cal312 ob11 (Nat.le_of_ble_eq_true rfl) (Nat.le_of_ble_eq_true rfl) (Nat.lt_of_lt_of_le (by decide) hd) (fun q hq => c312 hq) h (fun x20 s19 h => ?_)
  refine Rd.if_ne H318 i318_9 (t := 16) (by decide) h (fun hc h => ?_) (fun hc h => ?_)
  · refine Ev.iconst H318 i318_16 kI_0 ?_
    exact Ev.sub (l := [(0, .ref 512)]) rfl rfl (mm_sub_c rfl mm_sub_n) (t318_17 hd h)
  · refine Ev.iconst H318 i318_12 kI_1 ?_
    refine Ev.goto H318 i318_13 (t := 17) (by decide) ?_
    exact Ev.sub (l := [(0, .ref 512)]) rfl rfl (mm_sub_c rfl mm_sub_n) (t318_17 hd h)
theorem i319_0 : mm_cd 319 0 = some (.iload_n 1, 1, 0, 0) := rfl
theorem i319_1 : mm_cd 319 1 = some (.invokestatic 322, 3, 0, 269) := rfl
theorem i319_4 : mm_cd 319 4 = some (.istore_n 3, 1, 0, 0) := rfl
theorem i319_5 : mm_cd 319 5 = some (.iload_n 1, 1, 0, 0) := rfl
theorem i319_6 : mm_cd 319 6 = some (.iconst 1, 1, 0, 0) := rfl
theorem i319_7 : mm_cd 319 7 = some (.iload_n 3, 1, 0, 0) := rfl
theorem i319_8 : mm_cd 319 8 = some (.ishl, 1, 0, 0) := rfl
theorem i319_9 : mm_cd 319 9 = some (.iconst (-1), 1, 0, 0) := rfl
theorem i319_10 : mm_cd 319 10 = some (.ixor, 1, 0, 0) := rfl
theorem i319_11 : mm_cd 319 11 = some (.iand, 1, 0, 0) := rfl
theorem i319_12 : mm_cd 319 12 = some (.istore 4, 2, 0, 0) := rfl
theorem i319_14 : mm_cd 319 14 = some (.iload_n 2, 1, 0, 0) := rfl
theorem i319_15 : mm_cd 319 15 = some (.iconst (-1), 1, 0, 0) := rfl
theorem i319_16 : mm_cd 319 16 = some (.if_icmp .ne 11, 3, 0, 0) := rfl
theorem i319_19 : mm_cd 319 19 = some (.aload_n 0, 1, 0, 0) := rfl
theorem i319_20 : mm_cd 319 20 = some (.getfield 45, 3, ((11 : Nat) : Int), 21) := rfl
theorem i319_23 : mm_cd 319 23 = some (.iload 4, 2, 0, 0) := rfl
theorem i319_25 : mm_cd 319 25 = some (.iaload, 1, 0, 0) := rfl
theorem i319_26 : mm_cd 319 26 = some (.ireturn, 1, 0, 0) := rfl
theorem i319_27 : mm_cd 319 27 = some (.iload 4, 2, 0, 0) := rfl
theorem i319_29 : mm_cd 319 29 = some (.iload_n 2, 1, 0, 0) := rfl
theorem i319_30 : mm_cd 319 30 = some (.invokestatic 79, 3, 0, 190) := rfl
theorem i319_33 : mm_cd 319 33 = some (.ifCond .eq 46, 3, 0, 0) := rfl
theorem i319_36 : mm_cd 319 36 = some (.aload_n 0, 1, 0, 0) := rfl
theorem i319_37 : mm_cd 319 37 = some (.iload_n 3, 1, 0, 0) := rfl
theorem i319_38 : mm_cd 319 38 = some (.iload_n 2, 1, 0, 0) := rfl
theorem i319_39 : mm_cd 319 39 = some (.invokevirtual 429, 3, 0, 302) := rfl
theorem i319_42 : mm_cd 319 42 = some (.ifCond .ne 37, 3, 0, 0) := rfl
theorem i319_45 : mm_cd 319 45 = some (.aload_n 0, 1, 0, 0) := rfl
theorem i319_46 : mm_cd 319 46 = some (.iload_n 3, 1, 0, 0) := rfl
theorem i319_47 : mm_cd 319 47 = some (.invokevirtual 423, 3, 0, 301) := rfl
theorem i319_50 : mm_cd 319 50 = some (.invokestatic 258, 3, 0, 343) := rfl
theorem i319_53 : mm_cd 319 53 = some (.aload_n 0, 1, 0, 0) := rfl
theorem i319_54 : mm_cd 319 54 = some (.iload_n 2, 1, 0, 0) := rfl
theorem i319_55 : mm_cd 319 55 = some (.invokevirtual 423, 3, 0, 301) := rfl
theorem i319_58 : mm_cd 319 58 = some (.invokestatic 258, 3, 0, 343) := rfl
theorem i319_61 : mm_cd 319 61 = some (.iadd, 1, 0, 0) := rfl
theorem i319_62 : mm_cd 319 62 = some (.aload_n 0, 1, 0, 0) := rfl
theorem i319_63 : mm_cd 319 63 = some (.getfield 45, 3, ((11 : Nat) : Int), 21) := rfl
theorem i319_66 : mm_cd 319 66 = some (.iload 4, 2, 0, 0) := rfl
theorem i319_68 : mm_cd 319 68 = some (.iconst 1, 1, 0, 0) := rfl
theorem i319_69 : mm_cd 319 69 = some (.iload_n 2, 1, 0, 0) := rfl
theorem i319_70 : mm_cd 319 70 = some (.ishl, 1, 0, 0) := rfl
theorem i319_71 : mm_cd 319 71 = some (.iconst (-1), 1, 0, 0) := rfl
theorem i319_72 : mm_cd 319 72 = some (.ixor, 1, 0, 0) := rfl
theorem i319_73 : mm_cd 319 73 = some (.iand, 1, 0, 0) := rfl
theorem i319_74 : mm_cd 319 74 = some (.iaload, 1, 0, 0) := rfl
theorem i319_75 : mm_cd 319 75 = some (.iadd, 1, 0, 0) := rfl
theorem i319_76 : mm_cd 319 76 = some (.goto 4, 3, 0, 0) := rfl
theorem i319_79 : mm_cd 319 79 = some (.iconst (-1), 1, 0, 0) := rfl
theorem i319_80 : mm_cd 319 80 = some (.ireturn, 1, 0, 0) := rfl
/-- SerialGateModel.pairedBy(II)I -/
def q319 (v1 : Int32) (v2 : Int32) (s : mS) : Option mQ := bN (q269 v1 s) fun x2 s1 => bx (v1 &&& ((shlI (1 : Int32) x2) ^^^ (-1 : Int32))) fun x3 => if ¬ v2 = (-1 : Int32) then (bN (q190 x3 v2 s1) fun x5 s4 => if x5 = 0 then (rv (-1 : Int32) s4) else (bN (q302 x2 v2 s4) fun x7 s6 => if ¬ x7 = 0 then (rv (-1 : Int32) s6) else (bN (q301 x2 s6) fun x9 s8 => bN (q343 x9 s8) fun x11 s10 => bN (q301 v2 s10) fun x13 s12 => bN (q343 x13 s12) fun x15 s14 => gA 32 (x3 &&& ((shlI (1 : Int32) v2) ^^^ (-1 : Int32))) <| rv ((x11 + x15) + (s14.1 522 (x3 &&& ((shlI (1 : Int32) v2) ^^^ (-1 : Int32))).toNatClampNeg)) s14))) else (gA 32 x3 <| rv (s1.1 522 x3.toNatClampNeg) s1)
theorem c319 {L : Nat} {xs : Nat → Int32} {v1 : Int32} {v2 : Int32} {s : mS} {r : mQ} (h : q319 v1 v2 s = some r) : ∀ d, 4 ≤ d → Cl L xs d 319 [.ref 512, .int v1, .int v2] (hp s) (hr r) := by
  intro d hd
  show Ev L xs d 319 0 [(0, .ref 512), (1, .int v1), (2, .int v2)] [] (hp s) (hr r)
  unfold q319 at h
  refine Ev.iload_n H319 i319_0 rfl ?_
  refine Rd.cS1vN H319 i319_1 cal269 (Nat.le_of_ble_eq_true rfl) (Nat.le_of_ble_eq_true rfl) (Nat.lt_of_lt_of_le (by decide) hd) (fun q hq => c269 hq) h (fun x2 s1 h => ?_)
  refine Ev.istore_n H319 i319_4 (Nat.le_of_ble_eq_true rfl) (lv2 := [(3, .int x2), (0, .ref 512), (1, .int v1), (2, .int v2)]) rfl ?_
  refine Ev.iload_n H319 i319_5 rfl ?_
  refine Ev.iconst H319 i319_6 kI_1 ?_
  refine Ev.iload_n H319 i319_7 rfl ?_
  refine Rd.ishl H319 i319_8 ?_
  refine Ev.iconst H319 i319_9 kI_m1 ?_
  refine Ev.ixor H319 i319_10 ?_
  refine Ev.iand H319 i319_11 ?_
  refine Rd.istore H319 i319_12 (Nat.le_of_ble_eq_true rfl) (lv2 := fun x3 => [(4, .int x3), (3, .int x2), (0, .ref 512), (1, .int v1), (2, .int v2)]) (fun _ => rfl) h (fun x3 h => ?_)
  refine Ev.iload_n H319 i319_14 rfl ?_
  refine Ev.iconst H319 i319_15 kI_m1 ?_
  refine Rd.ic_ne H319 i319_16 (t := 27) (by decide) h (fun hc h => ?_) (fun hc h => ?_)
  · refine Ev.iload H319 i319_27 rfl ?_
    refine Ev.iload_n H319 i319_29 rfl ?_
    refine Rd.cS2vN H319 i319_30 cal190 (Nat.le_of_ble_eq_true rfl) (Nat.le_of_ble_eq_true rfl) (Nat.lt_of_lt_of_le (by decide) hd) (fun q hq => c190 hq) h (fun x5 s4 h => ?_)
    refine Rd.if_eq H319 i319_33 (t := 79) (by decide) h (fun hc h => ?_) (fun hc h => ?_)
    · refine Ev.iconst H319 i319_79 kI_m1 ?_
      exact Rd.ireturn H319 i319_80 rfl h
    · refine Ev.aload_n H319 i319_36 rfl ?_
      refine Ev.iload_n H319 i319_37 rfl ?_
      refine Ev.iload_n H319 i319_38 rfl ?_
      refine Rd.cV2vN H319 i319_39 cal302 ob11 (Nat.le_of_ble_eq_true rfl) (Nat.le_of_ble_eq_true rfl) (Nat.lt_of_lt_of_le (by decide) hd) (fun q hq => c302 hq) h (fun x7 s6 h => ?_)
      refine Rd.if_ne H319 i319_42 (t := 79) (by decide) h (fun hc h => ?_) (fun hc h => ?_)
      · refine Ev.iconst H319 i319_79 kI_m1 ?_
        exact Rd.ireturn H319 i319_80 rfl h
      · refine Ev.aload_n H319 i319_45 rfl ?_
        refine Ev.iload_n H319 i319_46 rfl ?_
        refine Rd.cV1vN H319 i319_47 cal301 ob11 (Nat.le_of_ble_eq_true rfl) (Nat.le_of_ble_eq_true rfl) (Nat.lt_of_lt_of_le (by decide) hd) (fun q hq => c301 hq) h (fun x9 s8 h => ?_)
        refine Rd.cS1vN H319 i319_50 cal343 (Nat.le_of_ble_eq_true rfl) (Nat.le_of_ble_eq_true rfl) (Nat.lt_of_lt_of_le (by decide) hd) (fun q hq => c343 hq) h (fun x11 s10 h => ?_)
        refine Ev.aload_n H319 i319_53 rfl ?_
        refine Ev.iload_n H319 i319_54 rfl ?_
        refine Rd.cV1vN H319 i319_55 cal301 ob11 (Nat.le_of_ble_eq_true rfl) (Nat.le_of_ble_eq_true rfl) (Nat.lt_of_lt_of_le (by decide) hd) (fun q hq => c301 hq) h (fun x13 s12 h => ?_)
        refine Rd.cS1vN H319 i319_58 cal343 (Nat.le_of_ble_eq_true rfl) (Nat.le_of_ble_eq_true rfl) (Nat.lt_of_lt_of_le (by decide) hd) (fun q hq => c343 hq) h (fun x15 s14 h => ?_)
        refine Ev.iadd H319 i319_61 ?_
        refine Ev.aload_n H319 i319_62 rfl ?_
        refine Rd.getR H319 i319_63 ob11 rfl ?_
        refine Ev.iload H319 i319_66 rfl ?_
        refine Ev.iconst H319 i319_68 kI_1 ?_
        refine Ev.iload_n H319 i319_69 rfl ?_
        refine Rd.ishl H319 i319_70 ?_
        refine Ev.iconst H319 i319_71 kI_m1 ?_
        refine Ev.ixor H319 i319_72 ?_
        refine Ev.iand H319 i319_73 ?_
        refine Rd.iaload H319 i319_74 ar_522 h (fun h => ?_)
        refine Ev.iadd H319 i319_75 ?_
        refine Ev.goto H319 i319_76 (t := 80) (by decide) ?_
        exact Rd.ireturn H319 i319_80 rfl h
  · refine Ev.aload_n H319 i319_19 rfl ?_
    refine Rd.getR H319 i319_20 ob11 rfl ?_
    refine Ev.iload H319 i319_23 rfl ?_
    refine Rd.iaload H319 i319_25 ar_522 h (fun h => ?_)
    exact Rd.ireturn H319 i319_26 rfl h
theorem i320_0 : mm_cd 320 0 = some (.aload_n 0, 1, 0, 0) := rfl
theorem i320_1 : mm_cd 320 1 = some (.getfield 45, 3, ((11 : Nat) : Int), 21) := rfl
theorem i320_4 : mm_cd 320 4 = some (.iconst 0, 1, 0, 0) := rfl
theorem i320_5 : mm_cd 320 5 = some (.iconst 0, 1, 0, 0) := rfl
theorem i320_6 : mm_cd 320 6 = some (.iastore, 1, 0, 0) := rfl
theorem i320_7 : mm_cd 320 7 = some (.iconst 1, 1, 0, 0) := rfl
theorem i320_8 : mm_cd 320 8 = some (.istore_n 1, 1, 0, 0) := rfl
theorem i320_9 : mm_cd 320 9 = some (.iload_n 1, 1, 0, 0) := rfl
theorem i320_10 : mm_cd 320 10 = some (.iconst 1, 1, 0, 0) := rfl
theorem i320_11 : mm_cd 320 11 = some (.aload_n 0, 1, 0, 0) := rfl
theorem i320_12 : mm_cd 320 12 = some (.invokevirtual 129, 3, 0, 198) := rfl
theorem i320_15 : mm_cd 320 15 = some (.ishl, 1, 0, 0) := rfl
theorem i320_16 : mm_cd 320 16 = some (.if_icmp .ge 45, 3, 0, 0) := rfl
theorem i320_19 : mm_cd 320 19 = some (.iconst 0, 1, 0, 0) := rfl
theorem i320_20 : mm_cd 320 20 = some (.istore_n 2, 1, 0, 0) := rfl
theorem i320_21 : mm_cd 320 21 = some (.iconst (-1), 1, 0, 0) := rfl
theorem i320_22 : mm_cd 320 22 = some (.istore_n 3, 1, 0, 0) := rfl
theorem i320_23 : mm_cd 320 23 = some (.iload_n 3, 1, 0, 0) := rfl
theorem i320_24 : mm_cd 320 24 = some (.aload_n 0, 1, 0, 0) := rfl
theorem i320_25 : mm_cd 320 25 = some (.invokevirtual 129, 3, 0, 198) := rfl
theorem i320_28 : mm_cd 320 28 = some (.if_icmp .ge 20, 3, 0, 0) := rfl
theorem i320_31 : mm_cd 320 31 = some (.iload_n 2, 1, 0, 0) := rfl
theorem i320_32 : mm_cd 320 32 = some (.aload_n 0, 1, 0, 0) := rfl
theorem i320_33 : mm_cd 320 33 = some (.iload_n 1, 1, 0, 0) := rfl
theorem i320_34 : mm_cd 320 34 = some (.iload_n 3, 1, 0, 0) := rfl
theorem i320_35 : mm_cd 320 35 = some (.invokevirtual 457, 3, 0, 319) := rfl
theorem i320_38 : mm_cd 320 38 = some (.invokestatic 276, 3, 2, 0) := rfl
theorem i320_41 : mm_cd 320 41 = some (.istore_n 2, 1, 0, 0) := rfl
theorem i320_42 : mm_cd 320 42 = some (.iinc 3 1, 3, 0, 0) := rfl
theorem i320_45 : mm_cd 320 45 = some (.goto (-22), 3, 0, 0) := rfl
theorem i320_48 : mm_cd 320 48 = some (.aload_n 0, 1, 0, 0) := rfl
theorem i320_49 : mm_cd 320 49 = some (.getfield 45, 3, ((11 : Nat) : Int), 21) := rfl
theorem i320_52 : mm_cd 320 52 = some (.iload_n 1, 1, 0, 0) := rfl
theorem i320_53 : mm_cd 320 53 = some (.iload_n 2, 1, 0, 0) := rfl
theorem i320_54 : mm_cd 320 54 = some (.iastore, 1, 0, 0) := rfl
theorem i320_55 : mm_cd 320 55 = some (.iinc 1 1, 3, 0, 0) := rfl
theorem i320_58 : mm_cd 320 58 = some (.goto (-49), 3, 0, 0) := rfl
theorem i320_61 : mm_cd 320 61 = some (.return_, 1, 0, 0) := rfl
def q320_23 (k48 : Int32 → Int32 → mS → Option mQ) : Nat → Int32 → Int32 → Int32 → mS → Option mQ
  | 0, _, _, _, _ => none
  | n + 1, v1, v2, v3, s => bN (q198 s) fun x2 s1 => if x2 ≤ v3 then (k48 v1 v2 s1) else (bN (q319 v1 v3 s1) fun x4 s3 => bx (mxI v2 x4) fun x5 => bx (v3 + (1 : Int32)) fun x6 => q320_23 k48 n v1 x5 x6 s3)
theorem t320_23 {L : Nat} {xs : Nat → Int32} {d : Nat} {k48 : Int32 → Int32 → mS → Option mQ} (hk48 : ∀ (v1 : Int32) (v2 : Int32) (s : mS) (r : mQ), k48 v1 v2 s = some r → Ev L xs d 320 48 [(0, .ref 512), (1, .int v1), (2, .int v2)] [] (hp s) (hr r)) (hd : 5 ≤ d) : ∀ (n : Nat) (v1 : Int32) (v2 : Int32) (v3 : Int32) (s : mS) (r : mQ), q320_23 k48 n v1 v2 v3 s = some r → Ev L xs d 320 23 [(0, .ref 512), (1, .int v1), (2, .int v2), (3, .int v3)] [] (hp s) (hr r) := by
  intro n
  induction n with
  | zero => intro v1 v2 v3 s r h; rw [q320_23] at h; cases h
  | succ n ih =>
    intro v1 v2 v3 s r h
    rw [q320_23] at h
    refine Ev.iload_n H320 i320_23 rfl ?_
    refine Ev.aload_n H320 i320_24 rfl ?_
    refine Rd.cV0vN H320 i320_25 cal198 ob11 (Nat.le_of_ble_eq_true rfl) (Nat.le_of_ble_eq_true rfl) (Nat.lt_of_lt_of_le (by decide) hd) (fun q hq => c198 hq) h (fun x2 s1 h => ?_)
    refine Rd.ic_ge H320 i320_28 (t := 48) (by decide) h (fun hc h => ?_) (fun hc h => ?_)
    · exact Ev.sub (l := [(0, .ref 512), (1, .int v1), (2, .int v2)]) rfl rfl (mm_sub_c rfl (mm_sub_c rfl (mm_sub_c rfl mm_sub_n))) (hk48 _ _ _ _ h)
    · refine Ev.iload_n H320 i320_31 rfl ?_
      refine Ev.aload_n H320 i320_32 rfl ?_
      refine Ev.iload_n H320 i320_33 rfl ?_
      refine Ev.iload_n H320 i320_34 rfl ?_
      refine Rd.cV2vN H320 i320_35 cal319 ob11 (Nat.le_of_ble_eq_true rfl) (Nat.le_of_ble_eq_true rfl) (Nat.lt_of_lt_of_le (by decide) hd) (fun q hq => c319 hq) h (fun x4 s3 h => ?_)
      refine Rd.max H320 i320_38 (Nat.le_of_ble_eq_true rfl) ?_
      refine Rd.istore_n H320 i320_41 (Nat.le_of_ble_eq_true rfl) (lv2 := fun x5 => [(2, .int x5), (0, .ref 512), (1, .int v1), (3, .int v3)]) (fun _ => rfl) h (fun x5 h => ?_)
      refine Rd.iinc H320 i320_42 (Nat.le_of_ble_eq_true rfl) rfl kI_1 (lv2 := fun x6 => [(3, .int x6), (2, .int x5), (0, .ref 512), (1, .int v1)]) (fun _ => rfl) h (fun x6 h => ?_)
      refine Ev.goto H320 i320_45 (t := 23) (by decide) ?_
      exact Ev.sub (l := [(0, .ref 512), (1, .int v1), (2, .int x5), (3, .int x6)]) rfl rfl (mm_sub_c rfl (mm_sub_c rfl (mm_sub_c rfl (mm_sub_c rfl mm_sub_n)))) (ih _ _ _ _ _ h)
def q320_48 (k9 : Int32 → mS → Option mQ) (v1 : Int32) (v2 : Int32) (s : mS) : Option mQ := gA 32 v1 <| sp (sI s 522 v1.toNatClampNeg v2) fun s7 => bx (v1 + (1 : Int32)) fun x8 => k9 x8 s7
theorem t320_48 {L : Nat} {xs : Nat → Int32} {d : Nat} {k9 : Int32 → mS → Option mQ} (hk9 : ∀ (v1 : Int32) (s : mS) (r : mQ), k9 v1 s = some r → Ev L xs d 320 9 [(0, .ref 512), (1, .int v1)] [] (hp s) (hr r)) (hd : 5 ≤ d) {v1 : Int32} {v2 : Int32} {s : mS} {r : mQ} (h : q320_48 k9 v1 v2 s = some r) : Ev L xs d 320 48 [(0, .ref 512), (1, .int v1), (2, .int v2)] [] (hp s) (hr r) := by
  unfold q320_48 at h
  refine Ev.aload_n H320 i320_48 rfl ?_
  refine Rd.getR H320 i320_49 ob11 rfl ?_
  refine Ev.iload_n H320 i320_52 rfl ?_
  refine Ev.iload_n H320 i320_53 rfl ?_
  refine Rd.iastore H320 i320_54 ar_522 h (fun s7 h => ?_)
  refine Rd.iinc H320 i320_55 (Nat.le_of_ble_eq_true rfl) rfl kI_1 (lv2 := fun x8 => [(1, .int x8), (0, .ref 512), (2, .int v2)]) (fun _ => rfl) h (fun x8 h => ?_)
  refine Ev.goto H320 i320_58 (t := 9) (by decide) ?_
  exact Ev.sub (l := [(0, .ref 512), (1, .int x8)]) rfl rfl (mm_sub_c rfl (mm_sub_c rfl mm_sub_n)) (hk9 _ _ _ h)
def q320_9 : Nat → Int32 → mS → Option mQ
  | 0, _, _ => none
  | n + 1, v1, s => bN (q198 s) fun x10 s9 => if (shlI (1 : Int32) x10) ≤ v1 then (ru s9) else (q320_23 (q320_48 (q320_9 n)) 10000 v1 (0 : Int32) (-1 : Int32) s9)
theorem t320_9 {L : Nat} {xs : Nat → Int32} {d : Nat} (hd : 5 ≤ d) : ∀ (n : Nat) (v1 : Int32) (s : mS) (r : mQ), q320_9 n v1 s = some r → Ev L xs d 320 9 [(0, .ref 512), (1, .int v1)] [] (hp s) (hr r) := by
  intro n
  induction n with
  | zero => intro v1 s r h; rw [q320_9] at h; cases h
  | succ n ih =>
    intro v1 s r h
    rw [q320_9] at h
    refine Ev.iload_n H320 i320_9 rfl ?_
    refine Ev.iconst H320 i320_10 kI_1 ?_
    refine Ev.aload_n H320 i320_11 rfl ?_
    refine Rd.cV0vN H320 i320_12 cal198 ob11 (Nat.le_of_ble_eq_true rfl) (Nat.le_of_ble_eq_true rfl) (Nat.lt_of_lt_of_le (by decide) hd) (fun q hq => c198 hq) h (fun x10 s9 h => ?_)
    refine Rd.ishl H320 i320_15 ?_
    refine Rd.ic_ge H320 i320_16 (t := 61) (by decide) h (fun hc h => ?_) (fun hc h => ?_)
    · exact Rd.return_ H320 i320_61 rfl h
    · refine Ev.iconst H320 i320_19 kI_0 ?_
      refine Ev.istore_n H320 i320_20 (Nat.le_of_ble_eq_true rfl) (lv2 := [(2, .int (0 : Int32)), (0, .ref 512), (1, .int v1)]) rfl ?_
      refine Ev.iconst H320 i320_21 kI_m1 ?_
      refine Ev.istore_n H320 i320_22 (Nat.le_of_ble_eq_true rfl) (lv2 := [(3, .int (-1 : Int32)), (2, .int (0 : Int32)), (0, .ref 512), (1, .int v1)]) rfl ?_
      exact Ev.sub (l := [(0, .ref 512), (1, .int v1), (2, .int (0 : Int32)), (3, .int (-1 : Int32))]) rfl rfl (mm_sub_c rfl (mm_sub_c rfl (mm_sub_c rfl (mm_sub_c rfl mm_sub_n)))) (t320_23 (k48 := (q320_48 (q320_9 n))) (fun _ _ _ _ h => t320_48 (k9 := (q320_9 n)) (fun _ _ _ h => ih _ _ _ h) hd h) hd 10000 _ _ _ _ _ h)
/-- SerialGateModel.laysPairs()V -/
def q320 (s : mS) : Option mQ := gA 32 (0 : Int32) <| sp (sI s 522 (0 : Int32).toNatClampNeg (0 : Int32)) fun s11 => q320_9 10000 (1 : Int32) s11
theorem c320 {L : Nat} {xs : Nat → Int32} {s : mS} {r : mQ} (h : q320 s = some r) : ∀ d, 5 ≤ d → Cl L xs d 320 [.ref 512] (hp s) (hr r) := by
  intro d hd
  show Ev L xs d 320 0 [(0, .ref 512)] [] (hp s) (hr r)
  unfold q320 at h
  refine Ev.aload_n H320 i320_0 rfl ?_
  refine Rd.getR H320 i320_1 ob11 rfl ?_
  refine Ev.iconst H320 i320_4 kI_0 ?_
  refine Ev.iconst H320 i320_5 kI_0 ?_
  refine Rd.iastore H320 i320_6 ar_522 h (fun s11 h => ?_)
  refine Ev.iconst H320 i320_7 kI_1 ?_
  refine Ev.istore_n H320 i320_8 (Nat.le_of_ble_eq_true rfl) (lv2 := [(1, .int (1 : Int32)), (0, .ref 512)]) rfl ?_
  exact Ev.sub (l := [(0, .ref 512), (1, .int (1 : Int32))]) rfl rfl (mm_sub_c rfl (mm_sub_c rfl mm_sub_n)) (t320_9 hd 10000 _ _ _ h)
theorem i321_0 : mm_cd 321 0 = some (.aload_n 0, 1, 0, 0) := rfl
theorem i321_1 : mm_cd 321 1 = some (.iconst 0, 1, 0, 0) := rfl
theorem i321_2 : mm_cd 321 2 = some (.putfield 3, 3, ((11 : Nat) : Int), 0) := rfl
theorem i321_5 : mm_cd 321 5 = some (.aload_n 0, 1, 0, 0) := rfl
theorem i321_6 : mm_cd 321 6 = some (.iload_n 1, 1, 0, 0) := rfl
theorem i321_7 : mm_cd 321 7 = some (.iconst (-1), 1, 0, 0) := rfl
theorem i321_8 : mm_cd 321 8 = some (.if_icmp .eq 15, 3, 0, 0) := rfl
theorem i321_11 : mm_cd 321 11 = some (.aload_n 0, 1, 0, 0) := rfl
theorem i321_12 : mm_cd 321 12 = some (.iload_n 1, 1, 0, 0) := rfl
theorem i321_13 : mm_cd 321 13 = some (.invokevirtual 380, 3, 0, 275) := rfl
theorem i321_16 : mm_cd 321 16 = some (.ifCond .eq 7, 3, 0, 0) := rfl
theorem i321_19 : mm_cd 321 19 = some (.iconst 1, 1, 0, 0) := rfl
theorem i321_20 : mm_cd 321 20 = some (.goto 4, 3, 0, 0) := rfl
theorem i321_23 : mm_cd 321 23 = some (.iconst 0, 1, 0, 0) := rfl
theorem i321_24 : mm_cd 321 24 = some (.iconst 1, 1, 0, 0) := rfl
theorem i321_25 : mm_cd 321 25 = some (.invokevirtual 249, 3, 0, 188) := rfl
theorem i321_28 : mm_cd 321 28 = some (.ifCond .eq 5, 3, 0, 0) := rfl
theorem i321_31 : mm_cd 321 31 = some (.iconst 0, 1, 0, 0) := rfl
theorem i321_32 : mm_cd 321 32 = some (.ireturn, 1, 0, 0) := rfl
theorem i321_33 : mm_cd 321 33 = some (.aload_n 0, 1, 0, 0) := rfl
theorem i321_34 : mm_cd 321 34 = some (.invokevirtual 460, 3, 0, 320) := rfl
theorem i321_37 : mm_cd 321 37 = some (.iconst 1, 1, 0, 0) := rfl
theorem i321_38 : mm_cd 321 38 = some (.aload_n 0, 1, 0, 0) := rfl
theorem i321_39 : mm_cd 321 39 = some (.invokevirtual 129, 3, 0, 198) := rfl
theorem i321_42 : mm_cd 321 42 = some (.ishl, 1, 0, 0) := rfl
theorem i321_43 : mm_cd 321 43 = some (.iconst 1, 1, 0, 0) := rfl
theorem i321_44 : mm_cd 321 44 = some (.isub, 1, 0, 0) := rfl
theorem i321_45 : mm_cd 321 45 = some (.istore_n 2, 1, 0, 0) := rfl
theorem i321_46 : mm_cd 321 46 = some (.iload_n 1, 1, 0, 0) := rfl
theorem i321_47 : mm_cd 321 47 = some (.iconst (-1), 1, 0, 0) := rfl
theorem i321_48 : mm_cd 321 48 = some (.if_icmp .ne 10, 3, 0, 0) := rfl
theorem i321_51 : mm_cd 321 51 = some (.aload_n 0, 1, 0, 0) := rfl
theorem i321_52 : mm_cd 321 52 = some (.getfield 45, 3, ((11 : Nat) : Int), 21) := rfl
theorem i321_55 : mm_cd 321 55 = some (.iload_n 2, 1, 0, 0) := rfl
theorem i321_56 : mm_cd 321 56 = some (.iaload, 1, 0, 0) := rfl
theorem i321_57 : mm_cd 321 57 = some (.ireturn, 1, 0, 0) := rfl
theorem i321_58 : mm_cd 321 58 = some (.iconst (-1), 1, 0, 0) := rfl
theorem i321_59 : mm_cd 321 59 = some (.istore_n 3, 1, 0, 0) := rfl
theorem i321_60 : mm_cd 321 60 = some (.iconst 0, 1, 0, 0) := rfl
theorem i321_61 : mm_cd 321 61 = some (.istore 4, 2, 0, 0) := rfl
theorem i321_63 : mm_cd 321 63 = some (.iload 4, 2, 0, 0) := rfl
theorem i321_65 : mm_cd 321 65 = some (.ifCond .ne 98, 3, 0, 0) := rfl
theorem i321_68 : mm_cd 321 68 = some (.iload_n 2, 1, 0, 0) := rfl
theorem i321_69 : mm_cd 321 69 = some (.invokestatic 322, 3, 0, 269) := rfl
theorem i321_72 : mm_cd 321 72 = some (.istore 5, 2, 0, 0) := rfl
theorem i321_74 : mm_cd 321 74 = some (.iconst (-1), 1, 0, 0) := rfl
theorem i321_75 : mm_cd 321 75 = some (.istore 6, 2, 0, 0) := rfl
theorem i321_77 : mm_cd 321 77 = some (.aload_n 0, 1, 0, 0) := rfl
theorem i321_78 : mm_cd 321 78 = some (.iload_n 2, 1, 0, 0) := rfl
theorem i321_79 : mm_cd 321 79 = some (.iload 6, 2, 0, 0) := rfl
theorem i321_81 : mm_cd 321 81 = some (.invokevirtual 457, 3, 0, 319) := rfl
theorem i321_84 : mm_cd 321 84 = some (.aload_n 0, 1, 0, 0) := rfl
theorem i321_85 : mm_cd 321 85 = some (.getfield 45, 3, ((11 : Nat) : Int), 21) := rfl
theorem i321_88 : mm_cd 321 88 = some (.iload_n 2, 1, 0, 0) := rfl
theorem i321_89 : mm_cd 321 89 = some (.iaload, 1, 0, 0) := rfl
theorem i321_90 : mm_cd 321 90 = some (.if_icmp .eq 9, 3, 0, 0) := rfl
theorem i321_93 : mm_cd 321 93 = some (.iinc 6 1, 3, 0, 0) := rfl
theorem i321_96 : mm_cd 321 96 = some (.goto (-19), 3, 0, 0) := rfl
theorem i321_99 : mm_cd 321 99 = some (.iload 5, 2, 0, 0) := rfl
theorem i321_101 : mm_cd 321 101 = some (.iload_n 1, 1, 0, 0) := rfl
theorem i321_102 : mm_cd 321 102 = some (.if_icmp .eq 9, 3, 0, 0) := rfl
theorem i321_105 : mm_cd 321 105 = some (.iload 6, 2, 0, 0) := rfl
theorem i321_107 : mm_cd 321 107 = some (.iload_n 1, 1, 0, 0) := rfl
theorem i321_108 : mm_cd 321 108 = some (.if_icmp .ne 7, 3, 0, 0) := rfl
theorem i321_111 : mm_cd 321 111 = some (.iconst 1, 1, 0, 0) := rfl
theorem i321_112 : mm_cd 321 112 = some (.goto 4, 3, 0, 0) := rfl
theorem i321_115 : mm_cd 321 115 = some (.iconst 0, 1, 0, 0) := rfl
theorem i321_116 : mm_cd 321 116 = some (.istore 4, 2, 0, 0) := rfl
theorem i321_118 : mm_cd 321 118 = some (.iload 5, 2, 0, 0) := rfl
theorem i321_120 : mm_cd 321 120 = some (.iload_n 1, 1, 0, 0) := rfl
theorem i321_121 : mm_cd 321 121 = some (.if_icmp .ne 8, 3, 0, 0) := rfl
theorem i321_124 : mm_cd 321 124 = some (.iload 6, 2, 0, 0) := rfl
theorem i321_126 : mm_cd 321 126 = some (.goto 5, 3, 0, 0) := rfl
theorem i321_129 : mm_cd 321 129 = some (.iload 5, 2, 0, 0) := rfl
theorem i321_131 : mm_cd 321 131 = some (.istore_n 3, 1, 0, 0) := rfl
theorem i321_132 : mm_cd 321 132 = some (.iload_n 2, 1, 0, 0) := rfl
theorem i321_133 : mm_cd 321 133 = some (.iconst 1, 1, 0, 0) := rfl
theorem i321_134 : mm_cd 321 134 = some (.iload 5, 2, 0, 0) := rfl
theorem i321_136 : mm_cd 321 136 = some (.ishl, 1, 0, 0) := rfl
theorem i321_137 : mm_cd 321 137 = some (.iconst (-1), 1, 0, 0) := rfl
theorem i321_138 : mm_cd 321 138 = some (.ixor, 1, 0, 0) := rfl
theorem i321_139 : mm_cd 321 139 = some (.iand, 1, 0, 0) := rfl
theorem i321_140 : mm_cd 321 140 = some (.istore_n 2, 1, 0, 0) := rfl
theorem i321_141 : mm_cd 321 141 = some (.iload 6, 2, 0, 0) := rfl
theorem i321_143 : mm_cd 321 143 = some (.iconst (-1), 1, 0, 0) := rfl
theorem i321_144 : mm_cd 321 144 = some (.if_icmp .ne 7, 3, 0, 0) := rfl
theorem i321_147 : mm_cd 321 147 = some (.iload_n 2, 1, 0, 0) := rfl
theorem i321_148 : mm_cd 321 148 = some (.goto 11, 3, 0, 0) := rfl
theorem i321_151 : mm_cd 321 151 = some (.iload_n 2, 1, 0, 0) := rfl
theorem i321_152 : mm_cd 321 152 = some (.iconst 1, 1, 0, 0) := rfl
theorem i321_153 : mm_cd 321 153 = some (.iload 6, 2, 0, 0) := rfl
theorem i321_155 : mm_cd 321 155 = some (.ishl, 1, 0, 0) := rfl
theorem i321_156 : mm_cd 321 156 = some (.iconst (-1), 1, 0, 0) := rfl
theorem i321_157 : mm_cd 321 157 = some (.ixor, 1, 0, 0) := rfl
theorem i321_158 : mm_cd 321 158 = some (.iand, 1, 0, 0) := rfl
theorem i321_159 : mm_cd 321 159 = some (.istore_n 2, 1, 0, 0) := rfl
theorem i321_160 : mm_cd 321 160 = some (.goto (-97), 3, 0, 0) := rfl
theorem i321_163 : mm_cd 321 163 = some (.iload_n 3, 1, 0, 0) := rfl
theorem i321_164 : mm_cd 321 164 = some (.ireturn, 1, 0, 0) := rfl
def q321_77 (k99 : Int32 → Int32 → Int32 → Int32 → mS → Option mQ) : Nat → Int32 → Int32 → Int32 → Int32 → mS → Option mQ
  | 0, _, _, _, _, _ => none
  | n + 1, v1, v2, v5, v6, s => bN (q319 v2 v6 s) fun x2 s1 => gA 32 v2 <| if x2 = (s1.1 522 v2.toNatClampNeg) then (k99 v1 v2 v5 v6 s1) else (bx (v6 + (1 : Int32)) fun x3 => q321_77 k99 n v1 v2 v5 x3 s1)
theorem t321_77 {L : Nat} {xs : Nat → Int32} {d : Nat} {k99 : Int32 → Int32 → Int32 → Int32 → mS → Option mQ} (hk99 : ∀ (v1 : Int32) (v2 : Int32) (v5 : Int32) (v6 : Int32) (s : mS) (r : mQ), k99 v1 v2 v5 v6 s = some r → Ev L xs d 321 99 [(0, .ref 512), (1, .int v1), (2, .int v2), (5, .int v5), (6, .int v6)] [] (hp s) (hr r)) (hd : 6 ≤ d) : ∀ (n : Nat) (v1 : Int32) (v2 : Int32) (v5 : Int32) (v6 : Int32) (s : mS) (r : mQ), q321_77 k99 n v1 v2 v5 v6 s = some r → Ev L xs d 321 77 [(0, .ref 512), (1, .int v1), (2, .int v2), (5, .int v5), (6, .int v6)] [] (hp s) (hr r) := by
  intro n
  induction n with
  | zero => intro v1 v2 v5 v6 s r h; rw [q321_77] at h; cases h
  | succ n ih =>
    intro v1 v2 v5 v6 s r h
    rw [q321_77] at h
    refine Ev.aload_n H321 i321_77 rfl ?_
    refine Ev.iload_n H321 i321_78 rfl ?_
    refine Ev.iload H321 i321_79 rfl ?_
    refine Rd.cV2vN H321 i321_81 cal319 ob11 (Nat.le_of_ble_eq_true rfl) (Nat.le_of_ble_eq_true rfl) (Nat.lt_of_lt_of_le (by decide) hd) (fun q hq => c319 hq) h (fun x2 s1 h => ?_)
    refine Ev.aload_n H321 i321_84 rfl ?_
    refine Rd.getR H321 i321_85 ob11 rfl ?_
    refine Ev.iload_n H321 i321_88 rfl ?_
    refine Rd.iaload H321 i321_89 ar_522 h (fun h => ?_)
    refine Rd.ic_eq H321 i321_90 (t := 99) (by decide) h (fun hc h => ?_) (fun hc h => ?_)
    · exact Ev.sub (l := [(0, .ref 512), (1, .int v1), (2, .int v2), (5, .int v5), (6, .int v6)]) rfl rfl (mm_sub_c rfl (mm_sub_c rfl (mm_sub_c rfl (mm_sub_c rfl (mm_sub_c rfl mm_sub_n))))) (hk99 _ _ _ _ _ _ h)
    · refine Rd.iinc H321 i321_93 (Nat.le_of_ble_eq_true rfl) rfl kI_1 (lv2 := fun x3 => [(6, .int x3), (0, .ref 512), (1, .int v1), (2, .int v2), (5, .int v5)]) (fun _ => rfl) h (fun x3 h => ?_)
      refine Ev.goto H321 i321_96 (t := 77) (by decide) ?_
      exact Ev.sub (l := [(0, .ref 512), (1, .int v1), (2, .int v2), (5, .int v5), (6, .int x3)]) rfl rfl (mm_sub_c rfl (mm_sub_c rfl (mm_sub_c rfl (mm_sub_c rfl (mm_sub_c rfl mm_sub_n))))) (ih _ _ _ _ _ _ h)
def q321_159 (k63 : Int32 → Int32 → Int32 → Int32 → mS → Option mQ) (v1 : Int32) (v3 : Int32) (v4 : Int32) (y0 : Int32) (s : mS) : Option mQ := k63 v1 y0 v3 v4 s
theorem t321_159 {L : Nat} {xs : Nat → Int32} {d : Nat} {k63 : Int32 → Int32 → Int32 → Int32 → mS → Option mQ} (hk63 : ∀ (v1 : Int32) (v2 : Int32) (v3 : Int32) (v4 : Int32) (s : mS) (r : mQ), k63 v1 v2 v3 v4 s = some r → Ev L xs d 321 63 [(0, .ref 512), (1, .int v1), (2, .int v2), (3, .int v3), (4, .int v4)] [] (hp s) (hr r)) (hd : 6 ≤ d) {v1 : Int32} {v3 : Int32} {v4 : Int32} {y0 : Int32} {s : mS} {r : mQ} (h : q321_159 k63 v1 v3 v4 y0 s = some r) : Ev L xs d 321 159 [(0, .ref 512), (1, .int v1), (3, .int v3), (4, .int v4)] [.int y0] (hp s) (hr r) := by
  unfold q321_159 at h
  refine Ev.istore_n H321 i321_159 (Nat.le_of_ble_eq_true rfl) (lv2 := [(2, .int y0), (0, .ref 512), (1, .int v1), (3, .int v3), (4, .int v4)]) rfl ?_
  refine Ev.goto H321 i321_160 (t := 63) (by decide) ?_
  exact Ev.sub (l := [(0, .ref 512), (1, .int v1), (2, .int y0), (3, .int v3), (4, .int v4)]) rfl rfl (mm_sub_c rfl (mm_sub_c rfl (mm_sub_c rfl (mm_sub_c rfl (mm_sub_c rfl mm_sub_n))))) (hk63 _ _ _ _ _ _ h)
def q321_131 (k63 : Int32 → Int32 → Int32 → Int32 → mS → Option mQ) (v1 : Int32) (v2 : Int32) (v4 : Int32) (v5 : Int32) (v6 : Int32) (y0 : Int32) (s : mS) : Option mQ := bx (v2 &&& ((shlI (1 : Int32) v5) ^^^ (-1 : Int32))) fun x4 => if ¬ v6 = (-1 : Int32) then (q321_159 k63 v1 y0 v4 (x4 &&& ((shlI (1 : Int32) v6) ^^^ (-1 : Int32))) s) else (q321_159 k63 v1 y0 v4 x4 s)
theorem t321_131 {L : Nat} {xs : Nat → Int32} {d : Nat} {k63 : Int32 → Int32 → Int32 → Int32 → mS → Option mQ} (hk63 : ∀ (v1 : Int32) (v2 : Int32) (v3 : Int32) (v4 : Int32) (s : mS) (r : mQ), k63 v1 v2 v3 v4 s = some r → Ev L xs d 321 63 [(0, .ref 512), (1, .int v1), (2, .int v2), (3, .int v3), (4, .int v4)] [] (hp s) (hr r)) (hd : 6 ≤ d) {v1 : Int32} {v2 : Int32} {v4 : Int32} {v5 : Int32} {v6 : Int32} {y0 : Int32} {s : mS} {r : mQ} (h : q321_131 k63 v1 v2 v4 v5 v6 y0 s = some r) : Ev L xs d 321 131 [(0, .ref 512), (1, .int v1), (2, .int v2), (4, .int v4), (5, .int v5), (6, .int v6)] [.int y0] (hp s) (hr r) := by
  unfold q321_131 at h
  refine Ev.istore_n H321 i321_131 (Nat.le_of_ble_eq_true rfl) (lv2 := [(3, .int y0), (0, .ref 512), (1, .int v1), (2, .int v2), (4, .int v4), (5, .int v5), (6, .int v6)]) rfl ?_
  refine Ev.iload_n H321 i321_132 rfl ?_
  refine Ev.iconst H321 i321_133 kI_1 ?_
  refine Ev.iload H321 i321_134 rfl ?_
  refine Rd.ishl H321 i321_136 ?_
  refine Ev.iconst H321 i321_137 kI_m1 ?_
  refine Ev.ixor H321 i321_138 ?_
  refine Ev.iand H321 i321_139 ?_
  refine Rd.istore_n H321 i321_140 (Nat.le_of_ble_eq_true rfl) (lv2 := fun x4 => [(2, .int x4), (3, .int y0), (0, .ref 512), (1, .int v1), (4, .int v4), (5, .int v5), (6, .int v6)]) (fun _ => rfl) h (fun x4 h => ?_)
  refine Ev.iload H321 i321_141 rfl ?_
  refine Ev.iconst H321 i321_143 kI_m1 ?_
  refine Rd.ic_ne H321 i321_144 (t := 151) (by decide) h (fun hc h => ?_) (fun hc h => ?_)
  · refine Ev.iload_n H321 i321_151 rfl ?_
    refine Ev.iconst H321 i321_152 kI_1 ?_
    refine Ev.iload H321 i321_153 rfl ?_
    refine Rd.ishl H321 i321_155 ?_
    refine Ev.iconst H321 i321_156 kI_m1 ?_
    refine Ev.ixor H321 i321_157 ?_
    refine Ev.iand H321 i321_158 ?_
    exact Ev.sub (l := [(0, .ref 512), (1, .int v1), (3, .int y0), (4, .int v4)]) rfl rfl (mm_sub_c rfl (mm_sub_c rfl (mm_sub_c rfl (mm_sub_c rfl mm_sub_n)))) (t321_159 (k63 := k63) hk63 hd h)
  · refine Ev.iload_n H321 i321_147 rfl ?_
    refine Ev.goto H321 i321_148 (t := 159) (by decide) ?_
    exact Ev.sub (l := [(0, .ref 512), (1, .int v1), (3, .int y0), (4, .int v4)]) rfl rfl (mm_sub_c rfl (mm_sub_c rfl (mm_sub_c rfl (mm_sub_c rfl mm_sub_n)))) (t321_159 (k63 := k63) hk63 hd h)
def q321_116 (k63 : Int32 → Int32 → Int32 → Int32 → mS → Option mQ) (v1 : Int32) (v2 : Int32) (v5 : Int32) (v6 : Int32) (y0 : Int32) (s : mS) : Option mQ := if ¬ v5 = v1 then (q321_131 k63 v1 v2 y0 v5 v6 v5 s) else (q321_131 k63 v1 v2 y0 v5 v6 v6 s)
theorem t321_116 {L : Nat} {xs : Nat → Int32} {d : Nat} {k63 : Int32 → Int32 → Int32 → Int32 → mS → Option mQ} (hk63 : ∀ (v1 : Int32) (v2 : Int32) (v3 : Int32) (v4 : Int32) (s : mS) (r : mQ), k63 v1 v2 v3 v4 s = some r → Ev L xs d 321 63 [(0, .ref 512), (1, .int v1), (2, .int v2), (3, .int v3), (4, .int v4)] [] (hp s) (hr r)) (hd : 6 ≤ d) {v1 : Int32} {v2 : Int32} {v5 : Int32} {v6 : Int32} {y0 : Int32} {s : mS} {r : mQ} (h : q321_116 k63 v1 v2 v5 v6 y0 s = some r) : Ev L xs d 321 116 [(0, .ref 512), (1, .int v1), (2, .int v2), (5, .int v5), (6, .int v6)] [.int y0] (hp s) (hr r) := by
  unfold q321_116 at h
  refine Ev.istore H321 i321_116 (Nat.le_of_ble_eq_true rfl) (lv2 := [(4, .int y0), (0, .ref 512), (1, .int v1), (2, .int v2), (5, .int v5), (6, .int v6)]) rfl ?_
  refine Ev.iload H321 i321_118 rfl ?_
  refine Ev.iload_n H321 i321_120 rfl ?_
  refine Rd.ic_ne H321 i321_121 (t := 129) (by decide) h (fun hc h => ?_) (fun hc h => ?_)
  · refine Ev.iload H321 i321_129 rfl ?_
    exact Ev.sub (l := [(0, .ref 512), (1, .int v1), (2, .int v2), (4, .int y0), (5, .int v5), (6, .int v6)]) rfl rfl (mm_sub_c rfl (mm_sub_c rfl (mm_sub_c rfl (mm_sub_c rfl (mm_sub_c rfl (mm_sub_c rfl mm_sub_n)))))) (t321_131 (k63 := k63) hk63 hd h)
  · refine Ev.iload H321 i321_124 rfl ?_
    refine Ev.goto H321 i321_126 (t := 131) (by decide) ?_
    exact Ev.sub (l := [(0, .ref 512), (1, .int v1), (2, .int v2), (4, .int y0), (5, .int v5), (6, .int v6)]) rfl rfl (mm_sub_c rfl (mm_sub_c rfl (mm_sub_c rfl (mm_sub_c rfl (mm_sub_c rfl (mm_sub_c rfl mm_sub_n)))))) (t321_131 (k63 := k63) hk63 hd h)
def q321_111 (k63 : Int32 → Int32 → Int32 → Int32 → mS → Option mQ) (v1 : Int32) (v2 : Int32) (v5 : Int32) (v6 : Int32) (s : mS) : Option mQ := q321_116 k63 v1 v2 v5 v6 (1 : Int32) s
theorem t321_111 {L : Nat} {xs : Nat → Int32} {d : Nat} {k63 : Int32 → Int32 → Int32 → Int32 → mS → Option mQ} (hk63 : ∀ (v1 : Int32) (v2 : Int32) (v3 : Int32) (v4 : Int32) (s : mS) (r : mQ), k63 v1 v2 v3 v4 s = some r → Ev L xs d 321 63 [(0, .ref 512), (1, .int v1), (2, .int v2), (3, .int v3), (4, .int v4)] [] (hp s) (hr r)) (hd : 6 ≤ d) {v1 : Int32} {v2 : Int32} {v5 : Int32} {v6 : Int32} {s : mS} {r : mQ} (h : q321_111 k63 v1 v2 v5 v6 s = some r) : Ev L xs d 321 111 [(0, .ref 512), (1, .int v1), (2, .int v2), (5, .int v5), (6, .int v6)] [] (hp s) (hr r) := by
  unfold q321_111 at h
  refine Ev.iconst H321 i321_111 kI_1 ?_
  refine Ev.goto H321 i321_112 (t := 116) (by decide) ?_
  exact Ev.sub (l := [(0, .ref 512), (1, .int v1), (2, .int v2), (5, .int v5), (6, .int v6)]) rfl rfl (mm_sub_c rfl (mm_sub_c rfl (mm_sub_c rfl (mm_sub_c rfl (mm_sub_c rfl mm_sub_n))))) (t321_116 (k63 := k63) hk63 hd h)
def q321_99 (k63 : Int32 → Int32 → Int32 → Int32 → mS → Option mQ) (v1 : Int32) (v2 : Int32) (v5 : Int32) (v6 : Int32) (s : mS) : Option mQ := if v5 = v1 then (q321_111 k63 v1 v2 v5 v6 s) else (if ¬ v6 = v1 then (q321_116 k63 v1 v2 v5 v6 (0 : Int32) s) else (q321_111 k63 v1 v2 v5 v6 s))
theorem t321_99 {L : Nat} {xs : Nat → Int32} {d : Nat} {k63 : Int32 → Int32 → Int32 → Int32 → mS → Option mQ} (hk63 : ∀ (v1 : Int32) (v2 : Int32) (v3 : Int32) (v4 : Int32) (s : mS) (r : mQ), k63 v1 v2 v3 v4 s = some r → Ev L xs d 321 63 [(0, .ref 512), (1, .int v1), (2, .int v2), (3, .int v3), (4, .int v4)] [] (hp s) (hr r)) (hd : 6 ≤ d) {v1 : Int32} {v2 : Int32} {v5 : Int32} {v6 : Int32} {s : mS} {r : mQ} (h : q321_99 k63 v1 v2 v5 v6 s = some r) : Ev L xs d 321 99 [(0, .ref 512), (1, .int v1), (2, .int v2), (5, .int v5), (6, .int v6)] [] (hp s) (hr r) := by
  unfold q321_99 at h
  refine Ev.iload H321 i321_99 rfl ?_
  refine Ev.iload_n H321 i321_101 rfl ?_
  refine Rd.ic_eq H321 i321_102 (t := 111) (by decide) h (fun hc h => ?_) (fun hc h => ?_)
  · exact Ev.sub (l := [(0, .ref 512), (1, .int v1), (2, .int v2), (5, .int v5), (6, .int v6)]) rfl rfl (mm_sub_c rfl (mm_sub_c rfl (mm_sub_c rfl (mm_sub_c rfl (mm_sub_c rfl mm_sub_n))))) (t321_111 (k63 := k63) hk63 hd h)
  · refine Ev.iload H321 i321_105 rfl ?_
    refine Ev.iload_n H321 i321_107 rfl ?_
    refine Rd.ic_ne H321 i321_108 (t := 115) (by decide) h (fun hc h => ?_) (fun hc h => ?_)
    · refine Ev.iconst H321 i321_115 kI_0 ?_
      exact Ev.sub (l := [(0, .ref 512), (1, .int v1), (2, .int v2), (5, .int v5), (6, .int v6)]) rfl rfl (mm_sub_c rfl (mm_sub_c rfl (mm_sub_c rfl (mm_sub_c rfl (mm_sub_c rfl mm_sub_n))))) (t321_116 (k63 := k63) hk63 hd h)
    · exact Ev.sub (l := [(0, .ref 512), (1, .int v1), (2, .int v2), (5, .int v5), (6, .int v6)]) rfl rfl (mm_sub_c rfl (mm_sub_c rfl (mm_sub_c rfl (mm_sub_c rfl (mm_sub_c rfl mm_sub_n))))) (t321_111 (k63 := k63) hk63 hd h)
def q321_63 : Nat → Int32 → Int32 → Int32 → Int32 → mS → Option mQ
  | 0, _, _, _, _, _ => none
  | n + 1, v1, v2, v3, v4, s => if ¬ v4 = 0 then (rv v3 s) else (bN (q269 v2 s) fun x6 s5 => q321_77 (q321_99 (q321_63 n)) 10000 v1 v2 x6 (-1 : Int32) s5)
theorem t321_63 {L : Nat} {xs : Nat → Int32} {d : Nat} (hd : 6 ≤ d) : ∀ (n : Nat) (v1 : Int32) (v2 : Int32) (v3 : Int32) (v4 : Int32) (s : mS) (r : mQ), q321_63 n v1 v2 v3 v4 s = some r → Ev L xs d 321 63 [(0, .ref 512), (1, .int v1), (2, .int v2), (3, .int v3), (4, .int v4)] [] (hp s) (hr r) := by
  intro n
  induction n with
  | zero => intro v1 v2 v3 v4 s r h; rw [q321_63] at h; cases h
  | succ n ih =>
    intro v1 v2 v3 v4 s r h
    rw [q321_63] at h
    refine Ev.iload H321 i321_63 rfl ?_
    refine Rd.if_ne H321 i321_65 (t := 163) (by decide) h (fun hc h => ?_) (fun hc h => ?_)
    · refine Ev.iload_n H321 i321_163 rfl ?_
      exact Rd.ireturn H321 i321_164 rfl h
    · refine Ev.iload_n H321 i321_68 rfl ?_
      refine Rd.cS1vN H321 i321_69 cal269 (Nat.le_of_ble_eq_true rfl) (Nat.le_of_ble_eq_true rfl) (Nat.lt_of_lt_of_le (by decide) hd) (fun q hq => c269 hq) h (fun x6 s5 h => ?_)
      refine Ev.istore H321 i321_72 (Nat.le_of_ble_eq_true rfl) (lv2 := [(5, .int x6), (0, .ref 512), (1, .int v1), (2, .int v2), (3, .int v3), (4, .int v4)]) rfl ?_
      refine Ev.iconst H321 i321_74 kI_m1 ?_
      refine Ev.istore H321 i321_75 (Nat.le_of_ble_eq_true rfl) (lv2 := [(6, .int (-1 : Int32)), (5, .int x6), (0, .ref 512), (1, .int v1), (2, .int v2), (3, .int v3), (4, .int v4)]) rfl ?_
      exact Ev.sub (l := [(0, .ref 512), (1, .int v1), (2, .int v2), (5, .int x6), (6, .int (-1 : Int32))]) rfl rfl (mm_sub_c rfl (mm_sub_c rfl (mm_sub_c rfl (mm_sub_c rfl (mm_sub_c rfl mm_sub_n))))) (t321_77 (k99 := (q321_99 (q321_63 n))) (fun _ _ _ _ _ _ h => t321_99 (k63 := (q321_63 n)) (fun _ _ _ _ _ _ h => ih _ _ _ _ _ _ h) hd h) hd 10000 _ _ _ _ _ _ h)
def q321_24 (v1 : Int32) (y1 : Int32) (s : mS) : Option mQ := bN (q188 y1 (1 : Int32) s) fun x8 s7 => if x8 = 0 then (bM (q320 s7) fun s9 => bN (q198 s9) fun x11 s10 => bx ((shlI (1 : Int32) x11) - (1 : Int32)) fun x12 => if ¬ v1 = (-1 : Int32) then (q321_63 10000 v1 x12 (-1 : Int32) (0 : Int32) s10) else (gA 32 x12 <| rv (s10.1 522 x12.toNatClampNeg) s10)) else (rv (0 : Int32) s7)
theorem t321_24 {L : Nat} {xs : Nat → Int32} {d : Nat} (hd : 6 ≤ d) {v1 : Int32} {y1 : Int32} {s : mS} {r : mQ} (h : q321_24 v1 y1 s = some r) : Ev L xs d 321 24 [(0, .ref 512), (1, .int v1)] [.int y1, .ref 512] (hp s) (hr r) := by
  unfold q321_24 at h
  refine Ev.iconst H321 i321_24 kI_1 ?_
  refine Rd.cV2vN H321 i321_25 cal188 ob11 (Nat.le_of_ble_eq_true rfl) (Nat.le_of_ble_eq_true rfl) (Nat.lt_of_lt_of_le (by decide) hd) (fun q hq => c188 hq) h (fun x8 s7 h => ?_)
  refine Rd.if_eq H321 i321_28 (t := 33) (by decide) h (fun hc h => ?_) (fun hc h => ?_)
  · refine Ev.aload_n H321 i321_33 rfl ?_
    refine Rd.cV0uN H321 i321_34 cal320 ob11 (Nat.le_of_ble_eq_true rfl) (Nat.le_of_ble_eq_true rfl) (Nat.lt_of_lt_of_le (by decide) hd) (fun q hq => c320 hq) h (fun s9 h => ?_)
    refine Ev.iconst H321 i321_37 kI_1 ?_
    refine Ev.aload_n H321 i321_38 rfl ?_
    refine Rd.cV0vN H321 i321_39 cal198 ob11 (Nat.le_of_ble_eq_true rfl) (Nat.le_of_ble_eq_true rfl) (Nat.lt_of_lt_of_le (by decide) hd) (fun q hq => c198 hq) h (fun x11 s10 h => ?_)
    refine Rd.ishl H321 i321_42 ?_
    refine Ev.iconst H321 i321_43 kI_1 ?_
    refine Ev.isub H321 i321_44 ?_
    refine Rd.istore_n H321 i321_45 (Nat.le_of_ble_eq_true rfl) (lv2 := fun x12 => [(2, .int x12), (0, .ref 512), (1, .int v1)]) (fun _ => rfl) h (fun x12 h => ?_)
    refine Ev.iload_n H321 i321_46 rfl ?_
    refine Ev.iconst H321 i321_47 kI_m1 ?_
    refine Rd.ic_ne H321 i321_48 (t := 58) (by decide) h (fun hc h => ?_) (fun hc h => ?_)
    · refine Ev.iconst H321 i321_58 kI_m1 ?_
      refine Ev.istore_n H321 i321_59 (Nat.le_of_ble_eq_true rfl) (lv2 := [(3, .int (-1 : Int32)), (2, .int x12), (0, .ref 512), (1, .int v1)]) rfl ?_
      refine Ev.iconst H321 i321_60 kI_0 ?_
      refine Ev.istore H321 i321_61 (Nat.le_of_ble_eq_true rfl) (lv2 := [(4, .int (0 : Int32)), (3, .int (-1 : Int32)), (2, .int x12), (0, .ref 512), (1, .int v1)]) rfl ?_
      exact Ev.sub (l := [(0, .ref 512), (1, .int v1), (2, .int x12), (3, .int (-1 : Int32)), (4, .int (0 : Int32))]) rfl rfl (mm_sub_c rfl (mm_sub_c rfl (mm_sub_c rfl (mm_sub_c rfl (mm_sub_c rfl mm_sub_n))))) (t321_63 hd 10000 _ _ _ _ _ _ h)
    · refine Ev.aload_n H321 i321_51 rfl ?_
      refine Rd.getR H321 i321_52 ob11 rfl ?_
      refine Ev.iload_n H321 i321_55 rfl ?_
      refine Rd.iaload H321 i321_56 ar_522 h (fun h => ?_)
      exact Rd.ireturn H321 i321_57 rfl h
  · refine Ev.iconst H321 i321_31 kI_0 ?_
    exact Rd.ireturn H321 i321_32 rfl h
def q321_23 (v1 : Int32) (s : mS) : Option mQ := q321_24 v1 (0 : Int32) s
theorem t321_23 {L : Nat} {xs : Nat → Int32} {d : Nat} (hd : 6 ≤ d) {v1 : Int32} {s : mS} {r : mQ} (h : q321_23 v1 s = some r) : Ev L xs d 321 23 [(0, .ref 512), (1, .int v1)] [.ref 512] (hp s) (hr r) := by
  unfold q321_23 at h
  refine Ev.iconst H321 i321_23 kI_0 ?_
  exact Ev.sub (l := [(0, .ref 512), (1, .int v1)]) rfl rfl (mm_sub_c rfl (mm_sub_c rfl mm_sub_n)) (t321_24 hd h)
/-- SerialGateModel.pairs(I)I -/
def q321 (v1 : Int32) (s : mS) : Option mQ := sp (sI s 512 0 (0 : Int32)) fun s13 => if v1 = (-1 : Int32) then (q321_23 v1 s13) else (bN (q275 v1 s13) fun x15 s14 => if x15 = 0 then (q321_23 v1 s14) else (q321_24 v1 (1 : Int32) s14))
theorem c321 {L : Nat} {xs : Nat → Int32} {v1 : Int32} {s : mS} {r : mQ} (h : q321 v1 s = some r) : ∀ d, 6 ≤ d → Cl L xs d 321 [.ref 512, .int v1] (hp s) (hr r) := by
  intro d hd
  show Ev L xs d 321 0 [(0, .ref 512), (1, .int v1)] [] (hp s) (hr r)
  unfold q321 at h
  refine Ev.aload_n H321 i321_0 rfl ?_
  refine Ev.iconst H321 i321_1 kI_0 ?_
  refine Rd.putI H321 i321_2 ob11 rfl ty11_0.1 ty11_0.2 h (fun s13 h => ?_)
  refine Ev.aload_n H321 i321_5 rfl ?_
  refine Ev.iload_n H321 i321_6 rfl ?_
  refine Ev.iconst H321 i321_7 kI_m1 ?_
  refine Rd.ic_eq H321 i321_8 (t := 23) (by decide) h (fun hc h => ?_) (fun hc h => ?_)
  · exact Ev.sub (l := [(0, .ref 512), (1, .int v1)]) rfl rfl (mm_sub_c rfl (mm_sub_c rfl mm_sub_n)) (t321_23 hd h)
  · refine Ev.aload_n H321 i321_11 rfl ?_
    refine Ev.iload_n H321 i321_12 rfl ?_
    refine Rd.cV1vN H321 i321_13 cal275 ob11 (Nat.le_of_ble_eq_true rfl) (Nat.le_of_ble_eq_true rfl) (Nat.lt_of_lt_of_le (by decide) hd) (fun q hq => c275 hq) h (fun x15 s14 h => ?_)
    refine Rd.if_eq H321 i321_16 (t := 23) (by decide) h (fun hc h => ?_) (fun hc h => ?_)
    · exact Ev.sub (l := [(0, .ref 512), (1, .int v1)]) rfl rfl (mm_sub_c rfl (mm_sub_c rfl mm_sub_n)) (t321_23 hd h)
    · refine Ev.iconst H321 i321_19 kI_1 ?_
      refine Ev.goto H321 i321_20 (t := 24) (by decide) ?_
      exact Ev.sub (l := [(0, .ref 512), (1, .int v1)]) rfl rfl (mm_sub_c rfl (mm_sub_c rfl mm_sub_n)) (t321_24 hd h)
