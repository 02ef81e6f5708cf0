theorem i363_0 : mm_cd 363 0 = some (.aload_n 1, 1, 0, 0) := rfl
theorem i363_1 : mm_cd 363 1 = some (.iconst 0, 1, 0, 0) := rfl
theorem i363_2 : mm_cd 363 2 = some (.aload_n 0, 1, 0, 0) := rfl
theorem i363_3 : mm_cd 363 3 = some (.invokevirtual 82, 3, 0, 166) := rfl
theorem i363_6 : mm_cd 363 6 = some (.i2l, 1, 0, 0) := rfl
theorem i363_7 : mm_cd 363 7 = some (.lastore, 1, 0, 0) := rfl
theorem i363_8 : mm_cd 363 8 = some (.goto 6, 3, 0, 0) := rfl
theorem i363_14 : mm_cd 363 14 = some (.iconst 0, 1, 0, 0) := rfl
theorem i363_15 : mm_cd 363 15 = some (.ireturn, 1, 0, 0) := rfl
/-- SerialGateLaw.ask(LSerialGate;[J)I -/
def q363 (s : mS) : Option mQ := bC [(0, 11, 1)] (q166 s) fun x2 s1 => gA 1 (0 : Int32) <| sp (sL s1 524 (0 : Int32).toNatClampNeg x2.toInt64) fun s3 => rv (0 : Int32) s3
theorem c363 {L : Nat} {xs : Nat → Int32} {s : mS} {r : mQ} (h : q363 s = some r) : ∀ d, 4 ≤ d → Cl L xs d 363 [.ref 0, .ref 524] (hp s) (hr r) := by
  intro d hd
  show Ev L xs d 363 0 [(0, .ref 0), (1, .ref 524)] [] (hp s) (hr r)
  unfold q363 at h
  refine Ev.aload_n H363 i363_0 rfl ?_
  refine Ev.iconst H363 i363_1 kI_0 ?_
  refine Ev.aload_n H363 i363_2 rfl ?_
  refine Rd.cV0vC H363 i363_3 cal166 ob10 (Nat.le_of_ble_eq_true rfl) (Nat.le_of_ble_eq_true rfl) rfl (Nat.lt_of_lt_of_le (by decide) hd) (fun q hq => c166 hq) h (fun x2 s1 h => ?_)
  refine Ev.i2l H363 i363_6 ?_
  refine Rd.lastore H363 i363_7 ar_524 h (fun s3 h => ?_)
  refine Ev.goto H363 i363_8 (t := 14) (by decide) ?_
  refine Ev.iconst H363 i363_14 kI_0 ?_
  exact Rd.ireturn H363 i363_15 rfl h
theorem i364_0 : mm_cd 364 0 = some (.aload_n 2, 1, 0, 0) := rfl
theorem i364_1 : mm_cd 364 1 = some (.iconst 0, 1, 0, 0) := rfl
theorem i364_2 : mm_cd 364 2 = some (.aload_n 0, 1, 0, 0) := rfl
theorem i364_3 : mm_cd 364 3 = some (.iload_n 1, 1, 0, 0) := rfl
theorem i364_4 : mm_cd 364 4 = some (.invokevirtual 85, 3, 0, 158) := rfl
theorem i364_7 : mm_cd 364 7 = some (.i2l, 1, 0, 0) := rfl
theorem i364_8 : mm_cd 364 8 = some (.lastore, 1, 0, 0) := rfl
theorem i364_9 : mm_cd 364 9 = some (.goto 6, 3, 0, 0) := rfl
theorem i364_15 : mm_cd 364 15 = some (.iconst 0, 1, 0, 0) := rfl
theorem i364_16 : mm_cd 364 16 = some (.ireturn, 1, 0, 0) := rfl
/-- SerialGateLaw.pairs(LSerialGate;I[J)I -/
def q364 (v1 : Int32) (s : mS) : Option mQ := bC [(2, 12, 1)] (q158 v1 s) fun x2 s1 => gA 1 (0 : Int32) <| sp (sL s1 524 (0 : Int32).toNatClampNeg x2.toInt64) fun s3 => rv (0 : Int32) s3
theorem c364 {L : Nat} {xs : Nat → Int32} {v1 : Int32} {s : mS} {r : mQ} (h : q364 v1 s = some r) : ∀ d, 12 ≤ d → Cl L xs d 364 [.ref 0, .int v1, .ref 524] (hp s) (hr r) := by
  intro d hd
  show Ev L xs d 364 0 [(0, .ref 0), (1, .int v1), (2, .ref 524)] [] (hp s) (hr r)
  unfold q364 at h
  refine Ev.aload_n H364 i364_0 rfl ?_
  refine Ev.iconst H364 i364_1 kI_0 ?_
  refine Ev.aload_n H364 i364_2 rfl ?_
  refine Ev.iload_n H364 i364_3 rfl ?_
  refine Rd.cV1vC H364 i364_4 cal158 ob10 (Nat.le_of_ble_eq_true rfl) (Nat.le_of_ble_eq_true rfl) rfl (Nat.lt_of_lt_of_le (by decide) hd) (fun q hq => c158 hq) h (fun x2 s1 h => ?_)
  refine Ev.i2l H364 i364_7 ?_
  refine Rd.lastore H364 i364_8 ar_524 h (fun s3 h => ?_)
  refine Ev.goto H364 i364_9 (t := 15) (by decide) ?_
  refine Ev.iconst H364 i364_15 kI_0 ?_
  exact Rd.ireturn H364 i364_16 rfl h
theorem i365_0 : mm_cd 365 0 = some (.aload_n 3, 1, 0, 0) := rfl
theorem i365_1 : mm_cd 365 1 = some (.iconst 0, 1, 0, 0) := rfl
theorem i365_2 : mm_cd 365 2 = some (.aload_n 0, 1, 0, 0) := rfl
theorem i365_3 : mm_cd 365 3 = some (.iload_n 1, 1, 0, 0) := rfl
theorem i365_4 : mm_cd 365 4 = some (.iload_n 2, 1, 0, 0) := rfl
theorem i365_5 : mm_cd 365 5 = some (.invokevirtual 88, 3, 0, 159) := rfl
theorem i365_8 : mm_cd 365 8 = some (.i2l, 1, 0, 0) := rfl
theorem i365_9 : mm_cd 365 9 = some (.lastore, 1, 0, 0) := rfl
theorem i365_10 : mm_cd 365 10 = some (.goto 11, 3, 0, 0) := rfl
theorem i365_21 : mm_cd 365 21 = some (.iconst 0, 1, 0, 0) := rfl
theorem i365_22 : mm_cd 365 22 = some (.ireturn, 1, 0, 0) := rfl
/-- SerialGateLaw.rests(LSerialGate;II[J)I -/
def q365 (v1 : Int32) (v2 : Int32) (s : mS) : Option mQ := bC [(2, 13, 1), (0, 17, 2)] (q159 v1 v2 s) fun x2 s1 => gA 1 (0 : Int32) <| sp (sL s1 524 (0 : Int32).toNatClampNeg x2.toInt64) fun s3 => rv (0 : Int32) s3
theorem c365 {L : Nat} {xs : Nat → Int32} {v1 : Int32} {v2 : Int32} {s : mS} {r : mQ} (h : q365 v1 v2 s = some r) : ∀ d, 4 ≤ d → Cl L xs d 365 [.ref 0, .int v1, .int v2, .ref 524] (hp s) (hr r) := by
  intro d hd
  show Ev L xs d 365 0 [(0, .ref 0), (1, .int v1), (2, .int v2), (3, .ref 524)] [] (hp s) (hr r)
  unfold q365 at h
  refine Ev.aload_n H365 i365_0 rfl ?_
  refine Ev.iconst H365 i365_1 kI_0 ?_
  refine Ev.aload_n H365 i365_2 rfl ?_
  refine Ev.iload_n H365 i365_3 rfl ?_
  refine Ev.iload_n H365 i365_4 rfl ?_
  refine Rd.cV2vC H365 i365_5 cal159 ob10 (Nat.le_of_ble_eq_true rfl) (Nat.le_of_ble_eq_true rfl) rfl (Nat.lt_of_lt_of_le (by decide) hd) (fun q hq => c159 hq) h (fun x2 s1 h => ?_)
  refine Ev.i2l H365 i365_8 ?_
  refine Rd.lastore H365 i365_9 ar_524 h (fun s3 h => ?_)
  refine Ev.goto H365 i365_10 (t := 21) (by decide) ?_
  refine Ev.iconst H365 i365_21 kI_0 ?_
  exact Rd.ireturn H365 i365_22 rfl h
theorem i366_0 : mm_cd 366 0 = some (.aload_n 3, 1, 0, 0) := rfl
theorem i366_1 : mm_cd 366 1 = some (.iconst 0, 1, 0, 0) := rfl
theorem i366_2 : mm_cd 366 2 = some (.aload_n 0, 1, 0, 0) := rfl
theorem i366_3 : mm_cd 366 3 = some (.iload_n 1, 1, 0, 0) := rfl
theorem i366_4 : mm_cd 366 4 = some (.iload_n 2, 1, 0, 0) := rfl
theorem i366_5 : mm_cd 366 5 = some (.invokevirtual 91, 3, 0, 160) := rfl
theorem i366_8 : mm_cd 366 8 = some (.i2l, 1, 0, 0) := rfl
theorem i366_9 : mm_cd 366 9 = some (.lastore, 1, 0, 0) := rfl
theorem i366_10 : mm_cd 366 10 = some (.goto 7, 3, 0, 0) := rfl
theorem i366_17 : mm_cd 366 17 = some (.iconst 0, 1, 0, 0) := rfl
theorem i366_18 : mm_cd 366 18 = some (.ireturn, 1, 0, 0) := rfl
/-- SerialGateLaw.odds(LSerialGate;II[J)I -/
def q366 (v1 : Int32) (v2 : Int32) (s : mS) : Option mQ := bC [(0, 13, 1)] (q160 v1 v2 s) fun x2 s1 => gA 1 (0 : Int32) <| sp (sL s1 524 (0 : Int32).toNatClampNeg x2.toInt64) fun s3 => rv (0 : Int32) s3
theorem c366 {L : Nat} {xs : Nat → Int32} {v1 : Int32} {v2 : Int32} {s : mS} {r : mQ} (h : q366 v1 v2 s = some r) : ∀ d, 2 ≤ d → Cl L xs d 366 [.ref 0, .int v1, .int v2, .ref 524] (hp s) (hr r) := by
  intro d hd
  show Ev L xs d 366 0 [(0, .ref 0), (1, .int v1), (2, .int v2), (3, .ref 524)] [] (hp s) (hr r)
  unfold q366 at h
  refine Ev.aload_n H366 i366_0 rfl ?_
  refine Ev.iconst H366 i366_1 kI_0 ?_
  refine Ev.aload_n H366 i366_2 rfl ?_
  refine Ev.iload_n H366 i366_3 rfl ?_
  refine Ev.iload_n H366 i366_4 rfl ?_
  refine Rd.cV2vC H366 i366_5 cal160 ob10 (Nat.le_of_ble_eq_true rfl) (Nat.le_of_ble_eq_true rfl) rfl (Nat.lt_of_lt_of_le (by decide) hd) (fun q hq => c160 hq) h (fun x2 s1 h => ?_)
  refine Ev.i2l H366 i366_8 ?_
  refine Rd.lastore H366 i366_9 ar_524 h (fun s3 h => ?_)
  refine Ev.goto H366 i366_10 (t := 17) (by decide) ?_
  refine Ev.iconst H366 i366_17 kI_0 ?_
  exact Rd.ireturn H366 i366_18 rfl h
theorem i367_0 : mm_cd 367 0 = some (.aload_n 2, 1, 0, 0) := rfl
theorem i367_1 : mm_cd 367 1 = some (.iconst 0, 1, 0, 0) := rfl
theorem i367_2 : mm_cd 367 2 = some (.aload_n 0, 1, 0, 0) := rfl
theorem i367_3 : mm_cd 367 3 = some (.iload_n 1, 1, 0, 0) := rfl
theorem i367_4 : mm_cd 367 4 = some (.invokevirtual 94, 3, 0, 161) := rfl
theorem i367_7 : mm_cd 367 7 = some (.i2l, 1, 0, 0) := rfl
theorem i367_8 : mm_cd 367 8 = some (.lastore, 1, 0, 0) := rfl
theorem i367_9 : mm_cd 367 9 = some (.goto 6, 3, 0, 0) := rfl
theorem i367_15 : mm_cd 367 15 = some (.iconst 0, 1, 0, 0) := rfl
theorem i367_16 : mm_cd 367 16 = some (.ireturn, 1, 0, 0) := rfl
/-- SerialGateLaw.most(LSerialGate;I[J)I -/
def q367 (v1 : Int32) (s : mS) : Option mQ := bC [(3, 12, 1)] (q161 v1 s) fun x2 s1 => gA 1 (0 : Int32) <| sp (sL s1 524 (0 : Int32).toNatClampNeg x2.toInt64) fun s3 => rv (0 : Int32) s3
theorem c367 {L : Nat} {xs : Nat → Int32} {v1 : Int32} {s : mS} {r : mQ} (h : q367 v1 s = some r) : ∀ d, 2 ≤ d → Cl L xs d 367 [.ref 0, .int v1, .ref 524] (hp s) (hr r) := by
  intro d hd
  show Ev L xs d 367 0 [(0, .ref 0), (1, .int v1), (2, .ref 524)] [] (hp s) (hr r)
  unfold q367 at h
  refine Ev.aload_n H367 i367_0 rfl ?_
  refine Ev.iconst H367 i367_1 kI_0 ?_
  refine Ev.aload_n H367 i367_2 rfl ?_
  refine Ev.iload_n H367 i367_3 rfl ?_
  refine Rd.cV1vC H367 i367_4 cal161 ob10 (Nat.le_of_ble_eq_true rfl) (Nat.le_of_ble_eq_true rfl) rfl (Nat.lt_of_lt_of_le (by decide) hd) (fun q hq => c161 hq) h (fun x2 s1 h => ?_)
  refine Ev.i2l H367 i367_7 ?_
  refine Rd.lastore H367 i367_8 ar_524 h (fun s3 h => ?_)
  refine Ev.goto H367 i367_9 (t := 15) (by decide) ?_
  refine Ev.iconst H367 i367_15 kI_0 ?_
  exact Rd.ireturn H367 i367_16 rfl h
theorem i368_0 : mm_cd 368 0 = some (.aload_n 3, 1, 0, 0) := rfl
theorem i368_1 : mm_cd 368 1 = some (.iconst 0, 1, 0, 0) := rfl
theorem i368_2 : mm_cd 368 2 = some (.aload_n 0, 1, 0, 0) := rfl
theorem i368_3 : mm_cd 368 3 = some (.iload_n 1, 1, 0, 0) := rfl
theorem i368_4 : mm_cd 368 4 = some (.iload_n 2, 1, 0, 0) := rfl
theorem i368_5 : mm_cd 368 5 = some (.invokevirtual 97, 3, 0, 171) := rfl
theorem i368_8 : mm_cd 368 8 = some (.i2l, 1, 0, 0) := rfl
theorem i368_9 : mm_cd 368 9 = some (.lastore, 1, 0, 0) := rfl
theorem i368_10 : mm_cd 368 10 = some (.goto 7, 3, 0, 0) := rfl
theorem i368_17 : mm_cd 368 17 = some (.iconst 0, 1, 0, 0) := rfl
theorem i368_18 : mm_cd 368 18 = some (.ireturn, 1, 0, 0) := rfl
/-- SerialGateLaw.trial(LSerialGate;IZ[J)I -/
def q368 (v1 : Int32) (v2 : Int32) (s : mS) : Option mQ := bC [(0, 13, 1)] (q171 v1 v2 s) fun x2 s1 => gA 1 (0 : Int32) <| sp (sL s1 524 (0 : Int32).toNatClampNeg x2.toInt64) fun s3 => rv (0 : Int32) s3
theorem c368 {L : Nat} {xs : Nat → Int32} {v1 : Int32} {v2 : Int32} {s : mS} {r : mQ} (h : q368 v1 v2 s = some r) : ∀ d, 8 ≤ d → Cl L xs d 368 [.ref 0, .int v1, .int v2, .ref 524] (hp s) (hr r) := by
  intro d hd
  show Ev L xs d 368 0 [(0, .ref 0), (1, .int v1), (2, .int v2), (3, .ref 524)] [] (hp s) (hr r)
  unfold q368 at h
  refine Ev.aload_n H368 i368_0 rfl ?_
  refine Ev.iconst H368 i368_1 kI_0 ?_
  refine Ev.aload_n H368 i368_2 rfl ?_
  refine Ev.iload_n H368 i368_3 rfl ?_
  refine Ev.iload_n H368 i368_4 rfl ?_
  refine Rd.cV2vC H368 i368_5 cal171 ob10 (Nat.le_of_ble_eq_true rfl) (Nat.le_of_ble_eq_true rfl) rfl (Nat.lt_of_lt_of_le (by decide) hd) (fun q hq => c171 hq) h (fun x2 s1 h => ?_)
  refine Ev.i2l H368 i368_8 ?_
  refine Rd.lastore H368 i368_9 ar_524 h (fun s3 h => ?_)
  refine Ev.goto H368 i368_10 (t := 17) (by decide) ?_
  refine Ev.iconst H368 i368_17 kI_0 ?_
  exact Rd.ireturn H368 i368_18 rfl h
theorem i369_0 : mm_cd 369 0 = some (.aload_n 3, 1, 0, 0) := rfl
theorem i369_1 : mm_cd 369 1 = some (.iconst 0, 1, 0, 0) := rfl
theorem i369_2 : mm_cd 369 2 = some (.aload_n 0, 1, 0, 0) := rfl
theorem i369_3 : mm_cd 369 3 = some (.iload_n 1, 1, 0, 0) := rfl
theorem i369_4 : mm_cd 369 4 = some (.iload_n 2, 1, 0, 0) := rfl
theorem i369_5 : mm_cd 369 5 = some (.invokevirtual 101, 3, 0, 172) := rfl
theorem i369_8 : mm_cd 369 8 = some (.i2l, 1, 0, 0) := rfl
theorem i369_9 : mm_cd 369 9 = some (.lastore, 1, 0, 0) := rfl
theorem i369_10 : mm_cd 369 10 = some (.goto 7, 3, 0, 0) := rfl
theorem i369_17 : mm_cd 369 17 = some (.iconst 0, 1, 0, 0) := rfl
theorem i369_18 : mm_cd 369 18 = some (.ireturn, 1, 0, 0) := rfl
/-- SerialGateLaw.span(LSerialGate;IZ[J)I -/
def q369 (v1 : Int32) (v2 : Int32) (s : mS) : Option mQ := bC [(0, 13, 1)] (q172 v1 v2 s) fun x2 s1 => gA 1 (0 : Int32) <| sp (sL s1 524 (0 : Int32).toNatClampNeg x2.toInt64) fun s3 => rv (0 : Int32) s3
theorem c369 {L : Nat} {xs : Nat → Int32} {v1 : Int32} {v2 : Int32} {s : mS} {r : mQ} (h : q369 v1 v2 s = some r) : ∀ d, 8 ≤ d → Cl L xs d 369 [.ref 0, .int v1, .int v2, .ref 524] (hp s) (hr r) := by
  intro d hd
  show Ev L xs d 369 0 [(0, .ref 0), (1, .int v1), (2, .int v2), (3, .ref 524)] [] (hp s) (hr r)
  unfold q369 at h
  refine Ev.aload_n H369 i369_0 rfl ?_
  refine Ev.iconst H369 i369_1 kI_0 ?_
  refine Ev.aload_n H369 i369_2 rfl ?_
  refine Ev.iload_n H369 i369_3 rfl ?_
  refine Ev.iload_n H369 i369_4 rfl ?_
  refine Rd.cV2vC H369 i369_5 cal172 ob10 (Nat.le_of_ble_eq_true rfl) (Nat.le_of_ble_eq_true rfl) rfl (Nat.lt_of_lt_of_le (by decide) hd) (fun q hq => c172 hq) h (fun x2 s1 h => ?_)
  refine Ev.i2l H369 i369_8 ?_
  refine Rd.lastore H369 i369_9 ar_524 h (fun s3 h => ?_)
  refine Ev.goto H369 i369_10 (t := 17) (by decide) ?_
  refine Ev.iconst H369 i369_17 kI_0 ?_
  exact Rd.ireturn H369 i369_18 rfl h
theorem i370_0 : mm_cd 370 0 = some (.aload_n 3, 1, 0, 0) := rfl
theorem i370_1 : mm_cd 370 1 = some (.iconst 0, 1, 0, 0) := rfl
theorem i370_2 : mm_cd 370 2 = some (.aload_n 0, 1, 0, 0) := rfl
theorem i370_3 : mm_cd 370 3 = some (.iload_n 1, 1, 0, 0) := rfl
theorem i370_4 : mm_cd 370 4 = some (.iload_n 2, 1, 0, 0) := rfl
theorem i370_5 : mm_cd 370 5 = some (.invokevirtual 104, 3, 0, 152) := rfl
theorem i370_8 : mm_cd 370 8 = some (.i2l, 1, 0, 0) := rfl
theorem i370_9 : mm_cd 370 9 = some (.lastore, 1, 0, 0) := rfl
theorem i370_10 : mm_cd 370 10 = some (.goto 7, 3, 0, 0) := rfl
theorem i370_17 : mm_cd 370 17 = some (.iconst 0, 1, 0, 0) := rfl
theorem i370_18 : mm_cd 370 18 = some (.ireturn, 1, 0, 0) := rfl
/-- SerialGateLaw.led(LSerialGate;IZ[J)I -/
def q370 (v1 : Int32) (v2 : Int32) (s : mS) : Option mQ := bC [(2, 13, 1)] (q152 v1 v2 s) fun x2 s1 => gA 1 (0 : Int32) <| sp (sL s1 524 (0 : Int32).toNatClampNeg x2.toInt64) fun s3 => rv (0 : Int32) s3
theorem c370 {L : Nat} {xs : Nat → Int32} {v1 : Int32} {v2 : Int32} {s : mS} {r : mQ} (h : q370 v1 v2 s = some r) : ∀ d, 4 ≤ d → Cl L xs d 370 [.ref 0, .int v1, .int v2, .ref 524] (hp s) (hr r) := by
  intro d hd
  show Ev L xs d 370 0 [(0, .ref 0), (1, .int v1), (2, .int v2), (3, .ref 524)] [] (hp s) (hr r)
  unfold q370 at h
  refine Ev.aload_n H370 i370_0 rfl ?_
  refine Ev.iconst H370 i370_1 kI_0 ?_
  refine Ev.aload_n H370 i370_2 rfl ?_
  refine Ev.iload_n H370 i370_3 rfl ?_
  refine Ev.iload_n H370 i370_4 rfl ?_
  refine Rd.cV2vC H370 i370_5 cal152 ob10 (Nat.le_of_ble_eq_true rfl) (Nat.le_of_ble_eq_true rfl) rfl (Nat.lt_of_lt_of_le (by decide) hd) (fun q hq => c152 hq) h (fun x2 s1 h => ?_)
  refine Ev.i2l H370 i370_8 ?_
  refine Rd.lastore H370 i370_9 ar_524 h (fun s3 h => ?_)
  refine Ev.goto H370 i370_10 (t := 17) (by decide) ?_
  refine Ev.iconst H370 i370_17 kI_0 ?_
  exact Rd.ireturn H370 i370_18 rfl h
theorem i371_0 : mm_cd 371 0 = some (.aload_n 3, 1, 0, 0) := rfl
theorem i371_1 : mm_cd 371 1 = some (.iconst 0, 1, 0, 0) := rfl
theorem i371_2 : mm_cd 371 2 = some (.aload_n 0, 1, 0, 0) := rfl
theorem i371_3 : mm_cd 371 3 = some (.iload_n 1, 1, 0, 0) := rfl
theorem i371_4 : mm_cd 371 4 = some (.iload_n 2, 1, 0, 0) := rfl
theorem i371_5 : mm_cd 371 5 = some (.invokevirtual 107, 3, 0, 153) := rfl
theorem i371_8 : mm_cd 371 8 = some (.i2l, 1, 0, 0) := rfl
theorem i371_9 : mm_cd 371 9 = some (.lastore, 1, 0, 0) := rfl
theorem i371_10 : mm_cd 371 10 = some (.goto 7, 3, 0, 0) := rfl
theorem i371_17 : mm_cd 371 17 = some (.iconst 0, 1, 0, 0) := rfl
theorem i371_18 : mm_cd 371 18 = some (.ireturn, 1, 0, 0) := rfl
/-- SerialGateLaw.log(LSerialGate;II[J)I -/
def q371 (v1 : Int32) (v2 : Int32) (s : mS) : Option mQ := bC [(3, 13, 1)] (q153 v1 v2 s) fun x2 s1 => gA 1 (0 : Int32) <| sp (sL s1 524 (0 : Int32).toNatClampNeg x2.toInt64) fun s3 => rv (0 : Int32) s3
theorem c371 {L : Nat} {xs : Nat → Int32} {v1 : Int32} {v2 : Int32} {s : mS} {r : mQ} (h : q371 v1 v2 s = some r) : ∀ d, 2 ≤ d → Cl L xs d 371 [.ref 0, .int v1, .int v2, .ref 524] (hp s) (hr r) := by
  intro d hd
  show Ev L xs d 371 0 [(0, .ref 0), (1, .int v1), (2, .int v2), (3, .ref 524)] [] (hp s) (hr r)
  unfold q371 at h
  refine Ev.aload_n H371 i371_0 rfl ?_
  refine Ev.iconst H371 i371_1 kI_0 ?_
  refine Ev.aload_n H371 i371_2 rfl ?_
  refine Ev.iload_n H371 i371_3 rfl ?_
  refine Ev.iload_n H371 i371_4 rfl ?_
  refine Rd.cV2vC H371 i371_5 cal153 ob10 (Nat.le_of_ble_eq_true rfl) (Nat.le_of_ble_eq_true rfl) rfl (Nat.lt_of_lt_of_le (by decide) hd) (fun q hq => c153 hq) h (fun x2 s1 h => ?_)
  refine Ev.i2l H371 i371_8 ?_
  refine Rd.lastore H371 i371_9 ar_524 h (fun s3 h => ?_)
  refine Ev.goto H371 i371_10 (t := 17) (by decide) ?_
  refine Ev.iconst H371 i371_17 kI_0 ?_
  exact Rd.ireturn H371 i371_18 rfl h
