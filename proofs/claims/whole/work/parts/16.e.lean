theorem i372_0 : mm_cd 372 0 = some (.new 8, 3, 0, 10) := rfl
theorem i372_3 : mm_cd 372 3 = some (.dup, 1, 0, 0) := rfl
theorem i372_4 : mm_cd 372 4 = some (.invokespecial 110, 3, 0, 127) := rfl
theorem i372_7 : mm_cd 372 7 = some (.astore_n 1, 1, 0, 0) := rfl
theorem i372_8 : mm_cd 372 8 = some (.new 111, 3, 0, 11) := rfl
theorem i372_11 : mm_cd 372 11 = some (.dup, 1, 0, 0) := rfl
theorem i372_12 : mm_cd 372 12 = some (.invokespecial 113, 3, 0, 191) := rfl
theorem i372_15 : mm_cd 372 15 = some (.astore_n 2, 1, 0, 0) := rfl
theorem i372_16 : mm_cd 372 16 = some (.iconst 1, 1, 0, 0) := rfl
theorem i372_17 : mm_cd 372 17 = some (.newarray .long, 2, 0, 0) := rfl
theorem i372_19 : mm_cd 372 19 = some (.astore_n 3, 1, 0, 0) := rfl
/-! THE START -/
def hS : List va_E := (hT 12 ++ W191 512 f513) ++ [.inl (2, 1, .inr (.inl (fun _ => 0)))]
theorem START {L : Nat} {xs : Nat → Int32} {r : mm_R} (kont : Ev L xs 60 372 23 (lvB 0) [] (hS, true, 525, 30654) r) : Ev L xs 60 372 0 [(0, .retAddr 1000000)] [] ([], true, 0, 0) r := by
  refine Mnew H372 i372_0 dv10 ?_
  refine Ev.dup H372 i372_3 rfl ?_
  refine Mcall (As := []) (dn := 511) (dk := 14052) H372 i372_4 cal127 rfl (Nat.le_of_ble_eq_true rfl) (Nat.le_of_ble_eq_true rfl) (show 2 < 60 by decide) rfl (fun e he => mk127 e he) ?_
  refine Ev.astore_n H372 i372_7 (by decide) rfl ?_
  refine Mnew H372 i372_8 dv11 ?_
  refine Ev.dup H372 i372_11 rfl ?_
  refine Mcall (As := []) (dn := 11) (dk := 16564) H372 i372_12 cal191 rfl (Nat.le_of_ble_eq_true rfl) (Nat.le_of_ble_eq_true rfl) (show 0 < 60 by decide) rfl (fun e he => mk191 rfl e he) ?_
  refine Ev.astore_n H372 i372_15 (by decide) rfl ?_
  refine Ev.iconst H372 i372_16 (show Int32.ofInt 1 = nI 1 by decide) ?_
  refine Mnl H372 i372_17 rfl (by decide) ?_
  refine Ev.astore_n H372 i372_19 (by decide) rfl ?_
  refine Ev.iconst H372 i372_20 (show Int32.ofInt 0 = nI 0 by decide) ?_
  refine Ev.istore H372 i372_21 (by decide) (lv2 := lvB 0) ?_ ?_
  · have e1 : ([] ++ hT 12 : List va_E).length = 512 := hT_l
    have e2 : (([] ++ hT 12 : List va_E) ++ W191 ([] ++ hT 12 : List va_E).length f513).length = 524 := by rw [List.length_append, e1]; rfl
    rw [e2, e1]
    rfl
  · have e1 : ([] ++ hT 12 : List va_E).length = 512 := hT_l
    rw [e1]
    exact Mheap rfl (by omega) (by omega) kont
