/-! THE MAKERS -/
theorem j0_0 : mm_cd 0 0 = some (.aload_n 0, 1, 0, 0) := rfl
theorem j0_1 : mm_cd 0 1 = some (.invokespecial 3, 3, 1, 0) := rfl
theorem j0_4 : mm_cd 0 4 = some (.aload_n 0, 1, 0, 0) := rfl
theorem j0_5 : mm_cd 0 5 = some (.iconst 0, 1, 0, 0) := rfl
theorem j0_6 : mm_cd 0 6 = some (.putfield 9, 3, 0, 0) := rfl
theorem j0_9 : mm_cd 0 9 = some (.aload_n 0, 1, 0, 0) := rfl
theorem j0_10 : mm_cd 0 10 = some (.iconst 0, 1, 0, 0) := rfl
theorem j0_11 : mm_cd 0 11 = some (.putfield 15, 3, 0, 1) := rfl
theorem j0_14 : mm_cd 0 14 = some (.aload_n 0, 1, 0, 0) := rfl
theorem j0_15 : mm_cd 0 15 = some (.iconst 5, 1, 0, 0) := rfl
theorem j0_16 : mm_cd 0 16 = some (.newarray .int, 2, 0, 0) := rfl
theorem j0_18 : mm_cd 0 18 = some (.putfield 18, 3, 0, 2) := rfl
theorem j0_21 : mm_cd 0 21 = some (.aload_n 0, 1, 0, 0) := rfl
theorem j0_22 : mm_cd 0 22 = some (.iconst 5, 1, 0, 0) := rfl
theorem j0_23 : mm_cd 0 23 = some (.newarray .int, 2, 0, 0) := rfl
theorem j0_25 : mm_cd 0 25 = some (.putfield 22, 3, 0, 3) := rfl
theorem j0_28 : mm_cd 0 28 = some (.aload_n 0, 1, 0, 0) := rfl
theorem j0_29 : mm_cd 0 29 = some (.iconst 5, 1, 0, 0) := rfl
theorem j0_30 : mm_cd 0 30 = some (.newarray .int, 2, 0, 0) := rfl
theorem j0_32 : mm_cd 0 32 = some (.putfield 25, 3, 0, 4) := rfl
theorem j0_35 : mm_cd 0 35 = some (.aload_n 0, 1, 0, 0) := rfl
theorem j0_36 : mm_cd 0 36 = some (.iconst 5, 1, 0, 0) := rfl
theorem j0_37 : mm_cd 0 37 = some (.newarray .int, 2, 0, 0) := rfl
theorem j0_39 : mm_cd 0 39 = some (.putfield 28, 3, 0, 5) := rfl
theorem j0_42 : mm_cd 0 42 = some (.return_, 1, 0, 0) := rfl
theorem H0 : mm_hd 0 = some (0, 1, none, true, []) := rfl
theorem cal0 : mm_cal 0 0 0 (0, 1, none, true, []) := ⟨rfl, rfl, rfl⟩
theorem dv0 : (mm_defv 0).length = 6 := rfl
def W0 (b : Nat) : List va_E := [oC 0 [.int (nI 0), .int (nI 0), .ref (b + 1), .ref (b + 2), .ref (b + 3), .ref (b + 4)], ZA 5, ZA 5, ZA 5, ZA 5]
theorem mk0 {L : Nat} {xs : Nat → Int32} {p : List va_E} {b n k : Nat} (hb : p.length = b) : ∀ e, 0 ≤ e → Cl L xs e 0 [.ref b] (p ++ [oC 0 (mm_defv 0)], true, n, k) (.inl none, (p ++ W0 b, true, n + 4, k + 20)) := by
  intro e he
  have l0 : mm_look (lv_args 0 [.ref b]) 0 = some (.ref b) := rfl
  unfold Cl
  generalize lv_args 0 [.ref b] = lv at l0 ⊢
  refine Ev.aload_n H0 j0_0 l0 ?_
  refine Mob H0 j0_1 (Nat.le_of_ble_eq_true rfl) ?_
  refine MPI H0 j0_4 j0_5 j0_6 (show Int32.ofInt (0) = nI 0 by decide) rfl (by simp only [List.length_set, dv0] <;> decide) (by decide) (Or.inr ⟨rfl, rfl⟩) hb l0 ?_
  refine MPI H0 j0_9 j0_10 j0_11 (show Int32.ofInt (0) = nI 0 by decide) rfl (by simp only [List.length_set, dv0] <;> decide) (by decide) (Or.inr ⟨rfl, rfl⟩) hb l0 ?_
  refine MNA (m := 5) (w := 1) (q := 1) H0 j0_14 (fun kk => Ev.iconst H0 j0_15 (by decide) kk) j0_16 j0_18 (by decide) rfl (by simp only [List.length_set, dv0] <;> decide) rfl (Or.inr ⟨rfl, rfl⟩) hb l0 rfl ?_
  refine MNA (m := 5) (w := 1) (q := 2) H0 j0_21 (fun kk => Ev.iconst H0 j0_22 (by decide) kk) j0_23 j0_25 (by decide) rfl (by simp only [List.length_set, dv0] <;> decide) rfl (Or.inr ⟨rfl, rfl⟩) hb l0 rfl ?_
  refine MNA (m := 5) (w := 1) (q := 3) H0 j0_28 (fun kk => Ev.iconst H0 j0_29 (by decide) kk) j0_30 j0_32 (by decide) rfl (by simp only [List.length_set, dv0] <;> decide) rfl (Or.inr ⟨rfl, rfl⟩) hb l0 rfl ?_
  refine MNA (m := 5) (w := 1) (q := 4) H0 j0_35 (fun kk => Ev.iconst H0 j0_36 (by decide) kk) j0_37 j0_39 (by decide) rfl (by simp only [List.length_set, dv0] <;> decide) rfl (Or.inr ⟨rfl, rfl⟩) hb l0 rfl ?_
  exact Mret H0 j0_42 rfl rfl (by omega) (by omega)
theorem j12_0 : mm_cd 12 0 = some (.aload_n 0, 1, 0, 0) := rfl
theorem j12_1 : mm_cd 12 1 = some (.invokespecial 3, 3, 1, 0) := rfl
theorem j12_4 : mm_cd 12 4 = some (.aload_n 0, 1, 0, 0) := rfl
theorem j12_5 : mm_cd 12 5 = some (.iconst 0, 1, 0, 0) := rfl
theorem j12_6 : mm_cd 12 6 = some (.putfield 9, 3, 1, 0) := rfl
theorem j12_9 : mm_cd 12 9 = some (.aload_n 0, 1, 0, 0) := rfl
theorem j12_10 : mm_cd 12 10 = some (.iconst 0, 1, 0, 0) := rfl
theorem j12_11 : mm_cd 12 11 = some (.putfield 15, 3, 1, 1) := rfl
theorem j12_14 : mm_cd 12 14 = some (.aload_n 0, 1, 0, 0) := rfl
theorem j12_15 : mm_cd 12 15 = some (.bipush 12, 2, 0, 0) := rfl
theorem j12_17 : mm_cd 12 17 = some (.newarray .int, 2, 0, 0) := rfl
theorem j12_19 : mm_cd 12 19 = some (.putfield 18, 3, 1, 2) := rfl
theorem j12_22 : mm_cd 12 22 = some (.aload_n 0, 1, 0, 0) := rfl
theorem j12_23 : mm_cd 12 23 = some (.bipush 12, 2, 0, 0) := rfl
theorem j12_25 : mm_cd 12 25 = some (.newarray .int, 2, 0, 0) := rfl
theorem j12_27 : mm_cd 12 27 = some (.putfield 22, 3, 1, 3) := rfl
theorem j12_30 : mm_cd 12 30 = some (.aload_n 0, 1, 0, 0) := rfl
theorem j12_31 : mm_cd 12 31 = some (.bipush 12, 2, 0, 0) := rfl
theorem j12_33 : mm_cd 12 33 = some (.newarray .int, 2, 0, 0) := rfl
theorem j12_35 : mm_cd 12 35 = some (.putfield 25, 3, 1, 4) := rfl
theorem j12_38 : mm_cd 12 38 = some (.aload_n 0, 1, 0, 0) := rfl
theorem j12_39 : mm_cd 12 39 = some (.bipush 12, 2, 0, 0) := rfl
theorem j12_41 : mm_cd 12 41 = some (.newarray .int, 2, 0, 0) := rfl
theorem j12_43 : mm_cd 12 43 = some (.putfield 28, 3, 1, 5) := rfl
theorem j12_46 : mm_cd 12 46 = some (.aload_n 0, 1, 0, 0) := rfl
theorem j12_47 : mm_cd 12 47 = some (.bipush 120, 2, 0, 0) := rfl
theorem j12_49 : mm_cd 12 49 = some (.newarray .int, 2, 0, 0) := rfl
theorem j12_51 : mm_cd 12 51 = some (.putfield 31, 3, 1, 6) := rfl
theorem j12_54 : mm_cd 12 54 = some (.aload_n 0, 1, 0, 0) := rfl
theorem j12_55 : mm_cd 12 55 = some (.bipush 120, 2, 0, 0) := rfl
theorem j12_57 : mm_cd 12 57 = some (.newarray .int, 2, 0, 0) := rfl
theorem j12_59 : mm_cd 12 59 = some (.putfield 34, 3, 1, 7) := rfl
theorem j12_62 : mm_cd 12 62 = some (.aload_n 0, 1, 0, 0) := rfl
theorem j12_63 : mm_cd 12 63 = some (.bipush 12, 2, 0, 0) := rfl
theorem j12_65 : mm_cd 12 65 = some (.newarray .int, 2, 0, 0) := rfl
theorem j12_67 : mm_cd 12 67 = some (.putfield 37, 3, 1, 8) := rfl
theorem j12_70 : mm_cd 12 70 = some (.return_, 1, 0, 0) := rfl
theorem H12 : mm_hd 12 = some (1, 1, none, true, []) := rfl
theorem cal12 : mm_cal 12 1 0 (1, 1, none, true, []) := ⟨rfl, rfl, rfl⟩
theorem dv1 : (mm_defv 1).length = 9 := rfl
def W12 (b : Nat) : List va_E := [oC 1 [.int (nI 0), .int (nI 0), .ref (b + 1), .ref (b + 2), .ref (b + 3), .ref (b + 4), .ref (b + 5), .ref (b + 6), .ref (b + 7)], ZA 12, ZA 12, ZA 12, ZA 12, ZA 120, ZA 120, ZA 12]
theorem mk12 {L : Nat} {xs : Nat → Int32} {p : List va_E} {b n k : Nat} (hb : p.length = b) : ∀ e, 0 ≤ e → Cl L xs e 12 [.ref b] (p ++ [oC 1 (mm_defv 1)], true, n, k) (.inl none, (p ++ W12 b, true, n + 7, k + 300)) := by
  intro e he
  have l0 : mm_look (lv_args 0 [.ref b]) 0 = some (.ref b) := rfl
  unfold Cl
  generalize lv_args 0 [.ref b] = lv at l0 ⊢
  refine Ev.aload_n H12 j12_0 l0 ?_
  refine Mob H12 j12_1 (Nat.le_of_ble_eq_true rfl) ?_
  refine MPI H12 j12_4 j12_5 j12_6 (show Int32.ofInt (0) = nI 0 by decide) rfl (by simp only [List.length_set, dv1] <;> decide) (by decide) (Or.inr ⟨rfl, rfl⟩) hb l0 ?_
  refine MPI H12 j12_9 j12_10 j12_11 (show Int32.ofInt (0) = nI 0 by decide) rfl (by simp only [List.length_set, dv1] <;> decide) (by decide) (Or.inr ⟨rfl, rfl⟩) hb l0 ?_
  refine MNA (m := 12) (w := 2) (q := 1) H12 j12_14 (fun kk => Ev.bipush H12 j12_15 (by decide) kk) j12_17 j12_19 (by decide) rfl (by simp only [List.length_set, dv1] <;> decide) rfl (Or.inr ⟨rfl, rfl⟩) hb l0 rfl ?_
  refine MNA (m := 12) (w := 2) (q := 2) H12 j12_22 (fun kk => Ev.bipush H12 j12_23 (by decide) kk) j12_25 j12_27 (by decide) rfl (by simp only [List.length_set, dv1] <;> decide) rfl (Or.inr ⟨rfl, rfl⟩) hb l0 rfl ?_
  refine MNA (m := 12) (w := 2) (q := 3) H12 j12_30 (fun kk => Ev.bipush H12 j12_31 (by decide) kk) j12_33 j12_35 (by decide) rfl (by simp only [List.length_set, dv1] <;> decide) rfl (Or.inr ⟨rfl, rfl⟩) hb l0 rfl ?_
  refine MNA (m := 12) (w := 2) (q := 4) H12 j12_38 (fun kk => Ev.bipush H12 j12_39 (by decide) kk) j12_41 j12_43 (by decide) rfl (by simp only [List.length_set, dv1] <;> decide) rfl (Or.inr ⟨rfl, rfl⟩) hb l0 rfl ?_
  refine MNA (m := 120) (w := 2) (q := 5) H12 j12_46 (fun kk => Ev.bipush H12 j12_47 (by decide) kk) j12_49 j12_51 (by decide) rfl (by simp only [List.length_set, dv1] <;> decide) rfl (Or.inr ⟨rfl, rfl⟩) hb l0 rfl ?_
  refine MNA (m := 120) (w := 2) (q := 6) H12 j12_54 (fun kk => Ev.bipush H12 j12_55 (by decide) kk) j12_57 j12_59 (by decide) rfl (by simp only [List.length_set, dv1] <;> decide) rfl (Or.inr ⟨rfl, rfl⟩) hb l0 rfl ?_
  refine MNA (m := 12) (w := 2) (q := 7) H12 j12_62 (fun kk => Ev.bipush H12 j12_63 (by decide) kk) j12_65 j12_67 (by decide) rfl (by simp only [List.length_set, dv1] <;> decide) rfl (Or.inr ⟨rfl, rfl⟩) hb l0 rfl ?_
  exact Mret H12 j12_70 rfl rfl (by omega) (by omega)
theorem j20_0 : mm_cd 20 0 = some (.aload_n 0, 1, 0, 0) := rfl
theorem j20_1 : mm_cd 20 1 = some (.invokespecial 3, 3, 1, 0) := rfl
theorem j20_4 : mm_cd 20 4 = some (.aload_n 0, 1, 0, 0) := rfl
theorem j20_5 : mm_cd 20 5 = some (.iconst (-1), 1, 0, 0) := rfl
theorem j20_6 : mm_cd 20 6 = some (.putfield 9, 3, 2, 0) := rfl
theorem j20_9 : mm_cd 20 9 = some (.aload_n 0, 1, 0, 0) := rfl
theorem j20_10 : mm_cd 20 10 = some (.iconst 0, 1, 0, 0) := rfl
theorem j20_11 : mm_cd 20 11 = some (.putfield 15, 3, 2, 1) := rfl
theorem j20_14 : mm_cd 20 14 = some (.aload_n 0, 1, 0, 0) := rfl
theorem j20_15 : mm_cd 20 15 = some (.bipush 12, 2, 0, 0) := rfl
theorem j20_17 : mm_cd 20 17 = some (.newarray .int, 2, 0, 0) := rfl
theorem j20_19 : mm_cd 20 19 = some (.putfield 18, 3, 2, 2) := rfl
theorem j20_22 : mm_cd 20 22 = some (.aload_n 0, 1, 0, 0) := rfl
theorem j20_23 : mm_cd 20 23 = some (.bipush 12, 2, 0, 0) := rfl
theorem j20_25 : mm_cd 20 25 = some (.newarray .int, 2, 0, 0) := rfl
theorem j20_27 : mm_cd 20 27 = some (.putfield 22, 3, 2, 3) := rfl
theorem j20_30 : mm_cd 20 30 = some (.aload_n 0, 1, 0, 0) := rfl
theorem j20_31 : mm_cd 20 31 = some (.bipush 12, 2, 0, 0) := rfl
theorem j20_33 : mm_cd 20 33 = some (.newarray .int, 2, 0, 0) := rfl
theorem j20_35 : mm_cd 20 35 = some (.putfield 25, 3, 2, 4) := rfl
theorem j20_38 : mm_cd 20 38 = some (.aload_n 0, 1, 0, 0) := rfl
theorem j20_39 : mm_cd 20 39 = some (.sipush 400, 3, 0, 0) := rfl
theorem j20_42 : mm_cd 20 42 = some (.newarray .int, 2, 0, 0) := rfl
theorem j20_44 : mm_cd 20 44 = some (.putfield 30, 3, 2, 5) := rfl
theorem j20_47 : mm_cd 20 47 = some (.aload_n 0, 1, 0, 0) := rfl
theorem j20_48 : mm_cd 20 48 = some (.bipush 10, 2, 0, 0) := rfl
theorem j20_50 : mm_cd 20 50 = some (.newarray .int, 2, 0, 0) := rfl
theorem j20_52 : mm_cd 20 52 = some (.putfield 33, 3, 2, 6) := rfl
theorem j20_55 : mm_cd 20 55 = some (.aload_n 0, 1, 0, 0) := rfl
theorem j20_56 : mm_cd 20 56 = some (.bipush 40, 2, 0, 0) := rfl
theorem j20_58 : mm_cd 20 58 = some (.newarray .int, 2, 0, 0) := rfl
theorem j20_60 : mm_cd 20 60 = some (.putfield 36, 3, 2, 7) := rfl
theorem j20_63 : mm_cd 20 63 = some (.return_, 1, 0, 0) := rfl
theorem H20 : mm_hd 20 = some (2, 1, none, true, []) := rfl
theorem cal20 : mm_cal 20 2 0 (2, 1, none, true, []) := ⟨rfl, rfl, rfl⟩
theorem dv2 : (mm_defv 2).length = 8 := rfl
def W20 (b : Nat) : List va_E := [oC 2 [.int (-nI 1), .int (nI 0), .ref (b + 1), .ref (b + 2), .ref (b + 3), .ref (b + 4), .ref (b + 5), .ref (b + 6)], ZA 12, ZA 12, ZA 12, ZA 400, ZA 10, ZA 40]
theorem mk20 {L : Nat} {xs : Nat → Int32} {p : List va_E} {b n k : Nat} (hb : p.length = b) : ∀ e, 0 ≤ e → Cl L xs e 20 [.ref b] (p ++ [oC 2 (mm_defv 2)], true, n, k) (.inl none, (p ++ W20 b, true, n + 6, k + 486)) := by
  intro e he
  have l0 : mm_look (lv_args 0 [.ref b]) 0 = some (.ref b) := rfl
  unfold Cl
  generalize lv_args 0 [.ref b] = lv at l0 ⊢
  refine Ev.aload_n H20 j20_0 l0 ?_
  refine Mob H20 j20_1 (Nat.le_of_ble_eq_true rfl) ?_
  refine MPI H20 j20_4 j20_5 j20_6 (show Int32.ofInt (-1) = -nI 1 by decide) rfl (by simp only [List.length_set, dv2] <;> decide) (by decide) (Or.inr ⟨rfl, rfl⟩) hb l0 ?_
  refine MPI H20 j20_9 j20_10 j20_11 (show Int32.ofInt (0) = nI 0 by decide) rfl (by simp only [List.length_set, dv2] <;> decide) (by decide) (Or.inr ⟨rfl, rfl⟩) hb l0 ?_
  refine MNA (m := 12) (w := 2) (q := 1) H20 j20_14 (fun kk => Ev.bipush H20 j20_15 (by decide) kk) j20_17 j20_19 (by decide) rfl (by simp only [List.length_set, dv2] <;> decide) rfl (Or.inr ⟨rfl, rfl⟩) hb l0 rfl ?_
  refine MNA (m := 12) (w := 2) (q := 2) H20 j20_22 (fun kk => Ev.bipush H20 j20_23 (by decide) kk) j20_25 j20_27 (by decide) rfl (by simp only [List.length_set, dv2] <;> decide) rfl (Or.inr ⟨rfl, rfl⟩) hb l0 rfl ?_
  refine MNA (m := 12) (w := 2) (q := 3) H20 j20_30 (fun kk => Ev.bipush H20 j20_31 (by decide) kk) j20_33 j20_35 (by decide) rfl (by simp only [List.length_set, dv2] <;> decide) rfl (Or.inr ⟨rfl, rfl⟩) hb l0 rfl ?_
  refine MNA (m := 400) (w := 3) (q := 4) H20 j20_38 (fun kk => Ev.sipush H20 j20_39 (by decide) kk) j20_42 j20_44 (by decide) rfl (by simp only [List.length_set, dv2] <;> decide) rfl (Or.inr ⟨rfl, rfl⟩) hb l0 rfl ?_
  refine MNA (m := 10) (w := 2) (q := 5) H20 j20_47 (fun kk => Ev.bipush H20 j20_48 (by decide) kk) j20_50 j20_52 (by decide) rfl (by simp only [List.length_set, dv2] <;> decide) rfl (Or.inr ⟨rfl, rfl⟩) hb l0 rfl ?_
  refine MNA (m := 40) (w := 2) (q := 6) H20 j20_55 (fun kk => Ev.bipush H20 j20_56 (by decide) kk) j20_58 j20_60 (by decide) rfl (by simp only [List.length_set, dv2] <;> decide) rfl (Or.inr ⟨rfl, rfl⟩) hb l0 rfl ?_
  exact Mret H20 j20_63 rfl rfl (by omega) (by omega)
theorem j41_0 : mm_cd 41 0 = some (.aload_n 0, 1, 0, 0) := rfl
theorem j41_1 : mm_cd 41 1 = some (.invokespecial 3, 3, 1, 0) := rfl
theorem j41_4 : mm_cd 41 4 = some (.aload_n 0, 1, 0, 0) := rfl
theorem j41_5 : mm_cd 41 5 = some (.iconst 0, 1, 0, 0) := rfl
theorem j41_6 : mm_cd 41 6 = some (.putfield 9, 3, 4, 0) := rfl
theorem j41_9 : mm_cd 41 9 = some (.aload_n 0, 1, 0, 0) := rfl
theorem j41_10 : mm_cd 41 10 = some (.iconst 0, 1, 0, 0) := rfl
theorem j41_11 : mm_cd 41 11 = some (.putfield 15, 3, 4, 1) := rfl
theorem j41_14 : mm_cd 41 14 = some (.aload_n 0, 1, 0, 0) := rfl
theorem j41_15 : mm_cd 41 15 = some (.sipush 240, 3, 0, 0) := rfl
theorem j41_18 : mm_cd 41 18 = some (.newarray .int, 2, 0, 0) := rfl
theorem j41_20 : mm_cd 41 20 = some (.putfield 18, 3, 4, 2) := rfl
theorem j41_23 : mm_cd 41 23 = some (.return_, 1, 0, 0) := rfl
theorem H41 : mm_hd 41 = some (4, 1, none, true, []) := rfl
theorem cal41 : mm_cal 41 4 0 (4, 1, none, true, []) := ⟨rfl, rfl, rfl⟩
theorem dv4 : (mm_defv 4).length = 3 := rfl
def W41 (b : Nat) : List va_E := [oC 4 [.int (nI 0), .int (nI 0), .ref (b + 1)], ZA 240]
theorem mk41 {L : Nat} {xs : Nat → Int32} {p : List va_E} {b n k : Nat} (hb : p.length = b) : ∀ e, 0 ≤ e → Cl L xs e 41 [.ref b] (p ++ [oC 4 (mm_defv 4)], true, n, k) (.inl none, (p ++ W41 b, true, n + 1, k + 240)) := by
  intro e he
  have l0 : mm_look (lv_args 0 [.ref b]) 0 = some (.ref b) := rfl
  unfold Cl
  generalize lv_args 0 [.ref b] = lv at l0 ⊢
  refine Ev.aload_n H41 j41_0 l0 ?_
  refine Mob H41 j41_1 (Nat.le_of_ble_eq_true rfl) ?_
  refine MPI H41 j41_4 j41_5 j41_6 (show Int32.ofInt (0) = nI 0 by decide) rfl (by simp only [List.length_set, dv4] <;> decide) (by decide) (Or.inr ⟨rfl, rfl⟩) hb l0 ?_
  refine MPI H41 j41_9 j41_10 j41_11 (show Int32.ofInt (0) = nI 0 by decide) rfl (by simp only [List.length_set, dv4] <;> decide) (by decide) (Or.inr ⟨rfl, rfl⟩) hb l0 ?_
  refine MNA (m := 240) (w := 3) (q := 1) H41 j41_14 (fun kk => Ev.sipush H41 j41_15 (by decide) kk) j41_18 j41_20 (by decide) rfl (by simp only [List.length_set, dv4] <;> decide) rfl (Or.inr ⟨rfl, rfl⟩) hb l0 rfl ?_
  exact Mret H41 j41_23 rfl rfl (by omega) (by omega)
theorem j62_0 : mm_cd 62 0 = some (.aload_n 0, 1, 0, 0) := rfl
theorem j62_1 : mm_cd 62 1 = some (.invokespecial 3, 3, 1, 0) := rfl
theorem j62_4 : mm_cd 62 4 = some (.aload_n 0, 1, 0, 0) := rfl
theorem j62_5 : mm_cd 62 5 = some (.iconst 0, 1, 0, 0) := rfl
theorem j62_6 : mm_cd 62 6 = some (.putfield 9, 3, 6, 0) := rfl
theorem j62_9 : mm_cd 62 9 = some (.aload_n 0, 1, 0, 0) := rfl
theorem j62_10 : mm_cd 62 10 = some (.iconst 0, 1, 0, 0) := rfl
theorem j62_11 : mm_cd 62 11 = some (.putfield 15, 3, 6, 1) := rfl
theorem j62_14 : mm_cd 62 14 = some (.aload_n 0, 1, 0, 0) := rfl
theorem j62_15 : mm_cd 62 15 = some (.iconst 0, 1, 0, 0) := rfl
theorem j62_16 : mm_cd 62 16 = some (.putfield 18, 3, 6, 2) := rfl
theorem j62_19 : mm_cd 62 19 = some (.aload_n 0, 1, 0, 0) := rfl
theorem j62_20 : mm_cd 62 20 = some (.iconst 0, 1, 0, 0) := rfl
theorem j62_21 : mm_cd 62 21 = some (.putfield 21, 3, 6, 3) := rfl
theorem j62_24 : mm_cd 62 24 = some (.aload_n 0, 1, 0, 0) := rfl
theorem j62_25 : mm_cd 62 25 = some (.bipush 8, 2, 0, 0) := rfl
theorem j62_27 : mm_cd 62 27 = some (.newarray .int, 2, 0, 0) := rfl
theorem j62_29 : mm_cd 62 29 = some (.putfield 24, 3, 6, 4) := rfl
theorem j62_32 : mm_cd 62 32 = some (.aload_n 0, 1, 0, 0) := rfl
theorem j62_33 : mm_cd 62 33 = some (.bipush 8, 2, 0, 0) := rfl
theorem j62_35 : mm_cd 62 35 = some (.newarray .int, 2, 0, 0) := rfl
theorem j62_37 : mm_cd 62 37 = some (.putfield 28, 3, 6, 5) := rfl
theorem j62_40 : mm_cd 62 40 = some (.aload_n 0, 1, 0, 0) := rfl
theorem j62_41 : mm_cd 62 41 = some (.bipush 8, 2, 0, 0) := rfl
theorem j62_43 : mm_cd 62 43 = some (.newarray .int, 2, 0, 0) := rfl
theorem j62_45 : mm_cd 62 45 = some (.putfield 31, 3, 6, 6) := rfl
theorem j62_48 : mm_cd 62 48 = some (.aload_n 0, 1, 0, 0) := rfl
theorem j62_49 : mm_cd 62 49 = some (.bipush 8, 2, 0, 0) := rfl
theorem j62_51 : mm_cd 62 51 = some (.newarray .int, 2, 0, 0) := rfl
theorem j62_53 : mm_cd 62 53 = some (.putfield 34, 3, 6, 7) := rfl
theorem j62_56 : mm_cd 62 56 = some (.aload_n 0, 1, 0, 0) := rfl
theorem j62_57 : mm_cd 62 57 = some (.bipush 8, 2, 0, 0) := rfl
theorem j62_59 : mm_cd 62 59 = some (.newarray .int, 2, 0, 0) := rfl
theorem j62_61 : mm_cd 62 61 = some (.putfield 37, 3, 6, 8) := rfl
theorem j62_64 : mm_cd 62 64 = some (.aload_n 0, 1, 0, 0) := rfl
theorem j62_65 : mm_cd 62 65 = some (.bipush 8, 2, 0, 0) := rfl
theorem j62_67 : mm_cd 62 67 = some (.newarray .int, 2, 0, 0) := rfl
theorem j62_69 : mm_cd 62 69 = some (.putfield 40, 3, 6, 9) := rfl
theorem j62_72 : mm_cd 62 72 = some (.aload_n 0, 1, 0, 0) := rfl
theorem j62_73 : mm_cd 62 73 = some (.bipush 8, 2, 0, 0) := rfl
theorem j62_75 : mm_cd 62 75 = some (.newarray .int, 2, 0, 0) := rfl
theorem j62_77 : mm_cd 62 77 = some (.putfield 43, 3, 6, 10) := rfl
theorem j62_80 : mm_cd 62 80 = some (.aload_n 0, 1, 0, 0) := rfl
theorem j62_81 : mm_cd 62 81 = some (.bipush 8, 2, 0, 0) := rfl
theorem j62_83 : mm_cd 62 83 = some (.newarray .int, 2, 0, 0) := rfl
theorem j62_85 : mm_cd 62 85 = some (.putfield 46, 3, 6, 11) := rfl
theorem j62_88 : mm_cd 62 88 = some (.aload_n 0, 1, 0, 0) := rfl
theorem j62_89 : mm_cd 62 89 = some (.bipush 8, 2, 0, 0) := rfl
theorem j62_91 : mm_cd 62 91 = some (.newarray .int, 2, 0, 0) := rfl
theorem j62_93 : mm_cd 62 93 = some (.putfield 49, 3, 6, 12) := rfl
theorem j62_96 : mm_cd 62 96 = some (.aload_n 0, 1, 0, 0) := rfl
theorem j62_97 : mm_cd 62 97 = some (.bipush 8, 2, 0, 0) := rfl
theorem j62_99 : mm_cd 62 99 = some (.newarray .int, 2, 0, 0) := rfl
theorem j62_101 : mm_cd 62 101 = some (.putfield 52, 3, 6, 13) := rfl
theorem j62_104 : mm_cd 62 104 = some (.aload_n 0, 1, 0, 0) := rfl
theorem j62_105 : mm_cd 62 105 = some (.bipush 80, 2, 0, 0) := rfl
theorem j62_107 : mm_cd 62 107 = some (.newarray .int, 2, 0, 0) := rfl
theorem j62_109 : mm_cd 62 109 = some (.putfield 55, 3, 6, 14) := rfl
theorem j62_112 : mm_cd 62 112 = some (.return_, 1, 0, 0) := rfl
theorem H62 : mm_hd 62 = some (6, 1, none, true, []) := rfl
theorem cal62 : mm_cal 62 6 0 (6, 1, none, true, []) := ⟨rfl, rfl, rfl⟩
theorem dv6 : (mm_defv 6).length = 15 := rfl
def W62 (b : Nat) : List va_E := [oC 6 [.int (nI 0), .int (nI 0), .int (nI 0), .int (nI 0), .ref (b + 1), .ref (b + 2), .ref (b + 3), .ref (b + 4), .ref (b + 5), .ref (b + 6), .ref (b + 7), .ref (b + 8), .ref (b + 9), .ref (b + 10), .ref (b + 11)], ZA 8, ZA 8, ZA 8, ZA 8, ZA 8, ZA 8, ZA 8, ZA 8, ZA 8, ZA 8, ZA 80]
theorem mk62 {L : Nat} {xs : Nat → Int32} {p : List va_E} {b n k : Nat} (hb : p.length = b) : ∀ e, 0 ≤ e → Cl L xs e 62 [.ref b] (p ++ [oC 6 (mm_defv 6)], true, n, k) (.inl none, (p ++ W62 b, true, n + 11, k + 160)) := by
  intro e he
  have l0 : mm_look (lv_args 0 [.ref b]) 0 = some (.ref b) := rfl
  unfold Cl
  generalize lv_args 0 [.ref b] = lv at l0 ⊢
  refine Ev.aload_n H62 j62_0 l0 ?_
  refine Mob H62 j62_1 (Nat.le_of_ble_eq_true rfl) ?_
  refine MPI H62 j62_4 j62_5 j62_6 (show Int32.ofInt (0) = nI 0 by decide) rfl (by simp only [List.length_set, dv6] <;> decide) (by decide) (Or.inr ⟨rfl, rfl⟩) hb l0 ?_
  refine MPI H62 j62_9 j62_10 j62_11 (show Int32.ofInt (0) = nI 0 by decide) rfl (by simp only [List.length_set, dv6] <;> decide) (by decide) (Or.inr ⟨rfl, rfl⟩) hb l0 ?_
  refine MPI H62 j62_14 j62_15 j62_16 (show Int32.ofInt (0) = nI 0 by decide) rfl (by simp only [List.length_set, dv6] <;> decide) (by decide) (Or.inr ⟨rfl, rfl⟩) hb l0 ?_
  refine MPI H62 j62_19 j62_20 j62_21 (show Int32.ofInt (0) = nI 0 by decide) rfl (by simp only [List.length_set, dv6] <;> decide) (by decide) (Or.inr ⟨rfl, rfl⟩) hb l0 ?_
  refine MNA (m := 8) (w := 2) (q := 1) H62 j62_24 (fun kk => Ev.bipush H62 j62_25 (by decide) kk) j62_27 j62_29 (by decide) rfl (by simp only [List.length_set, dv6] <;> decide) rfl (Or.inr ⟨rfl, rfl⟩) hb l0 rfl ?_
  refine MNA (m := 8) (w := 2) (q := 2) H62 j62_32 (fun kk => Ev.bipush H62 j62_33 (by decide) kk) j62_35 j62_37 (by decide) rfl (by simp only [List.length_set, dv6] <;> decide) rfl (Or.inr ⟨rfl, rfl⟩) hb l0 rfl ?_
  refine MNA (m := 8) (w := 2) (q := 3) H62 j62_40 (fun kk => Ev.bipush H62 j62_41 (by decide) kk) j62_43 j62_45 (by decide) rfl (by simp only [List.length_set, dv6] <;> decide) rfl (Or.inr ⟨rfl, rfl⟩) hb l0 rfl ?_
  refine MNA (m := 8) (w := 2) (q := 4) H62 j62_48 (fun kk => Ev.bipush H62 j62_49 (by decide) kk) j62_51 j62_53 (by decide) rfl (by simp only [List.length_set, dv6] <;> decide) rfl (Or.inr ⟨rfl, rfl⟩) hb l0 rfl ?_
  refine MNA (m := 8) (w := 2) (q := 5) H62 j62_56 (fun kk => Ev.bipush H62 j62_57 (by decide) kk) j62_59 j62_61 (by decide) rfl (by simp only [List.length_set, dv6] <;> decide) rfl (Or.inr ⟨rfl, rfl⟩) hb l0 rfl ?_
  refine MNA (m := 8) (w := 2) (q := 6) H62 j62_64 (fun kk => Ev.bipush H62 j62_65 (by decide) kk) j62_67 j62_69 (by decide) rfl (by simp only [List.length_set, dv6] <;> decide) rfl (Or.inr ⟨rfl, rfl⟩) hb l0 rfl ?_
  refine MNA (m := 8) (w := 2) (q := 7) H62 j62_72 (fun kk => Ev.bipush H62 j62_73 (by decide) kk) j62_75 j62_77 (by decide) rfl (by simp only [List.length_set, dv6] <;> decide) rfl (Or.inr ⟨rfl, rfl⟩) hb l0 rfl ?_
  refine MNA (m := 8) (w := 2) (q := 8) H62 j62_80 (fun kk => Ev.bipush H62 j62_81 (by decide) kk) j62_83 j62_85 (by decide) rfl (by simp only [List.length_set, dv6] <;> decide) rfl (Or.inr ⟨rfl, rfl⟩) hb l0 rfl ?_
  refine MNA (m := 8) (w := 2) (q := 9) H62 j62_88 (fun kk => Ev.bipush H62 j62_89 (by decide) kk) j62_91 j62_93 (by decide) rfl (by simp only [List.length_set, dv6] <;> decide) rfl (Or.inr ⟨rfl, rfl⟩) hb l0 rfl ?_
  refine MNA (m := 8) (w := 2) (q := 10) H62 j62_96 (fun kk => Ev.bipush H62 j62_97 (by decide) kk) j62_99 j62_101 (by decide) rfl (by simp only [List.length_set, dv6] <;> decide) rfl (Or.inr ⟨rfl, rfl⟩) hb l0 rfl ?_
  refine MNA (m := 80) (w := 2) (q := 11) H62 j62_104 (fun kk => Ev.bipush H62 j62_105 (by decide) kk) j62_107 j62_109 (by decide) rfl (by simp only [List.length_set, dv6] <;> decide) rfl (Or.inr ⟨rfl, rfl⟩) hb l0 rfl ?_
  exact Mret H62 j62_112 rfl rfl (by omega) (by omega)
theorem j97_0 : mm_cd 97 0 = some (.aload_n 0, 1, 0, 0) := rfl
theorem j97_1 : mm_cd 97 1 = some (.invokespecial 3, 3, 1, 0) := rfl
theorem j97_4 : mm_cd 97 4 = some (.aload_n 0, 1, 0, 0) := rfl
theorem j97_5 : mm_cd 97 5 = some (.sipush 400, 3, 0, 0) := rfl
theorem j97_8 : mm_cd 97 8 = some (.newarray .int, 2, 0, 0) := rfl
theorem j97_10 : mm_cd 97 10 = some (.putfield 11, 3, 8, 0) := rfl
theorem j97_13 : mm_cd 97 13 = some (.aload_n 0, 1, 0, 0) := rfl
theorem j97_14 : mm_cd 97 14 = some (.iconst 0, 1, 0, 0) := rfl
theorem j97_15 : mm_cd 97 15 = some (.putfield 15, 3, 8, 1) := rfl
theorem j97_18 : mm_cd 97 18 = some (.aload_n 0, 1, 0, 0) := rfl
theorem j97_19 : mm_cd 97 19 = some (.iconst 0, 1, 0, 0) := rfl
theorem j97_20 : mm_cd 97 20 = some (.putfield 19, 3, 8, 2) := rfl
theorem j97_23 : mm_cd 97 23 = some (.return_, 1, 0, 0) := rfl
theorem H97 : mm_hd 97 = some (8, 1, none, true, []) := rfl
theorem cal97 : mm_cal 97 8 0 (8, 1, none, true, []) := ⟨rfl, rfl, rfl⟩
theorem dv8 : (mm_defv 8).length = 3 := rfl
def W97 (b : Nat) : List va_E := [oC 8 [.ref (b + 1), .int (nI 0), .int (nI 0)], ZA 400]
theorem mk97 {L : Nat} {xs : Nat → Int32} {p : List va_E} {b n k : Nat} (hb : p.length = b) : ∀ e, 0 ≤ e → Cl L xs e 97 [.ref b] (p ++ [oC 8 (mm_defv 8)], true, n, k) (.inl none, (p ++ W97 b, true, n + 1, k + 400)) := by
  intro e he
  have l0 : mm_look (lv_args 0 [.ref b]) 0 = some (.ref b) := rfl
  unfold Cl
  generalize lv_args 0 [.ref b] = lv at l0 ⊢
  refine Ev.aload_n H97 j97_0 l0 ?_
  refine Mob H97 j97_1 (Nat.le_of_ble_eq_true rfl) ?_
  refine MNA (m := 400) (w := 3) (q := 1) H97 j97_4 (fun kk => Ev.sipush H97 j97_5 (by decide) kk) j97_8 j97_10 (by decide) rfl (by simp only [List.length_set, dv8] <;> decide) rfl (Or.inr ⟨rfl, rfl⟩) hb l0 rfl ?_
  refine MPI H97 j97_13 j97_14 j97_15 (show Int32.ofInt (0) = nI 0 by decide) rfl (by simp only [List.length_set, dv8] <;> decide) (by decide) (Or.inr ⟨rfl, rfl⟩) hb l0 ?_
  refine MPI H97 j97_18 j97_19 j97_20 (show Int32.ofInt (0) = nI 0 by decide) rfl (by simp only [List.length_set, dv8] <;> decide) (by decide) (Or.inr ⟨rfl, rfl⟩) hb l0 ?_
  exact Mret H97 j97_23 rfl rfl (by omega) (by omega)
theorem j91_0 : mm_cd 91 0 = some (.aload_n 0, 1, 0, 0) := rfl
theorem j91_1 : mm_cd 91 1 = some (.invokespecial 3, 3, 1, 0) := rfl
theorem j91_4 : mm_cd 91 4 = some (.aload_n 0, 1, 0, 0) := rfl
theorem j91_5 : mm_cd 91 5 = some (.aload_n 1, 1, 0, 0) := rfl
theorem j91_6 : mm_cd 91 6 = some (.putfield 9, 3, 7, 0) := rfl
theorem j91_9 : mm_cd 91 9 = some (.return_, 1, 0, 0) := rfl
theorem H91 : mm_hd 91 = some (7, 2, none, true, []) := rfl
theorem cal91 : mm_cal 91 7 1 (7, 2, none, true, []) := ⟨rfl, rfl, rfl⟩
theorem dv7 : (mm_defv 7).length = 1 := rfl
def W91 (b x : Nat) : List va_E := [oC 7 [.ref x]]
theorem mk91 {L : Nat} {xs : Nat → Int32} {p : List va_E} {b x n k : Nat} (hb : p.length = b) : ∀ e, 0 ≤ e → Cl L xs e 91 [.ref b, .ref x] (p ++ [oC 7 (mm_defv 7)], true, n, k) (.inl none, (p ++ W91 b x, true, n + 0, k + 0)) := by
  intro e he
  have l0 : mm_look (lv_args 0 [.ref b, .ref x]) 0 = some (.ref b) := rfl
  have l1 : mm_look (lv_args 0 [.ref b, .ref x]) 1 = some (.ref x) := rfl
  unfold Cl
  generalize lv_args 0 [.ref b, .ref x] = lv at l0 l1 ⊢
  refine Ev.aload_n H91 j91_0 l0 ?_
  refine Mob H91 j91_1 (Nat.le_of_ble_eq_true rfl) ?_
  refine MPA H91 j91_4 j91_5 j91_6 rfl (by simp only [List.length_set, dv7] <;> decide) rfl (Or.inr ⟨rfl, rfl⟩) hb l0 l1 ?_
  exact Mret H91 j91_9 rfl rfl (by omega) (by omega)
theorem j27_0 : mm_cd 27 0 = some (.aload_n 0, 1, 0, 0) := rfl
theorem j27_1 : mm_cd 27 1 = some (.invokespecial 3, 3, 1, 0) := rfl
theorem j27_4 : mm_cd 27 4 = some (.aload_n 0, 1, 0, 0) := rfl
theorem j27_5 : mm_cd 27 5 = some (.new 9, 3, 0, 2) := rfl
theorem j27_8 : mm_cd 27 8 = some (.dup, 1, 0, 0) := rfl
theorem j27_9 : mm_cd 27 9 = some (.invokespecial 11, 3, 0, 20) := rfl
theorem j27_12 : mm_cd 27 12 = some (.putfield 12, 3, 3, 0) := rfl
theorem j27_15 : mm_cd 27 15 = some (.aload_n 0, 1, 0, 0) := rfl
theorem j27_16 : mm_cd 27 16 = some (.bipush 24, 2, 0, 0) := rfl
theorem j27_18 : mm_cd 27 18 = some (.newarray .int, 2, 0, 0) := rfl
theorem j27_20 : mm_cd 27 20 = some (.putfield 18, 3, 3, 2) := rfl
theorem j27_23 : mm_cd 27 23 = some (.aload_n 0, 1, 0, 0) := rfl
theorem j27_24 : mm_cd 27 24 = some (.iconst 0, 1, 0, 0) := rfl
theorem j27_25 : mm_cd 27 25 = some (.putfield 22, 3, 3, 3) := rfl
theorem j27_28 : mm_cd 27 28 = some (.aload_n 0, 1, 0, 0) := rfl
theorem j27_29 : mm_cd 27 29 = some (.iconst 0, 1, 0, 0) := rfl
theorem j27_30 : mm_cd 27 30 = some (.putfield 26, 3, 3, 4) := rfl
theorem j27_33 : mm_cd 27 33 = some (.aload_n 0, 1, 0, 0) := rfl
theorem j27_34 : mm_cd 27 34 = some (.aload_n 1, 1, 0, 0) := rfl
theorem j27_35 : mm_cd 27 35 = some (.putfield 29, 3, 3, 1) := rfl
theorem j27_38 : mm_cd 27 38 = some (.return_, 1, 0, 0) := rfl
theorem H27 : mm_hd 27 = some (3, 2, none, true, []) := rfl
theorem cal27 : mm_cal 27 3 1 (3, 2, none, true, []) := ⟨rfl, rfl, rfl⟩
theorem dv3 : (mm_defv 3).length = 5 := rfl
def W27 (b x : Nat) : List va_E := [oC 3 [.ref (b + 1), .ref x, .ref (b + 8), .int (nI 0), .int (nI 0)], oC 2 [.int (-nI 1), .int (nI 0), .ref (b + 2), .ref (b + 3), .ref (b + 4), .ref (b + 5), .ref (b + 6), .ref (b + 7)], ZA 12, ZA 12, ZA 12, ZA 400, ZA 10, ZA 40, ZA 24]
theorem mk27 {L : Nat} {xs : Nat → Int32} {p : List va_E} {b x n k : Nat} (hb : p.length = b) : ∀ e, 1 ≤ e → Cl L xs e 27 [.ref b, .ref x] (p ++ [oC 3 (mm_defv 3)], true, n, k) (.inl none, (p ++ W27 b x, true, n + 8, k + 518)) := by
  intro e he
  have l0 : mm_look (lv_args 0 [.ref b, .ref x]) 0 = some (.ref b) := rfl
  have l1 : mm_look (lv_args 0 [.ref b, .ref x]) 1 = some (.ref x) := rfl
  unfold Cl
  generalize lv_args 0 [.ref b, .ref x] = lv at l0 l1 ⊢
  refine Ev.aload_n H27 j27_0 l0 ?_
  refine Mob H27 j27_1 (Nat.le_of_ble_eq_true rfl) ?_
  refine MNC (q := 1) (dj := 0) H27 j27_4 j27_5 j27_8 j27_9 j27_12 cal20 dv2 (Nat.le_of_ble_eq_true rfl) (by omega) rfl (by simp only [List.length_set, dv3] <;> decide) rfl (Or.inr ⟨rfl, rfl⟩) hb l0 rfl (fun p1 n1 k1 hp1 e1 he1 => mk20 hp1 e1 he1) ?_
  refine MNA (m := 24) (w := 2) (q := 8) H27 j27_15 (fun kk => Ev.bipush H27 j27_16 (by decide) kk) j27_18 j27_20 (by decide) rfl (by simp only [List.length_set, dv3] <;> decide) rfl (Or.inr ⟨rfl, rfl⟩) hb l0 rfl ?_
  refine MPI H27 j27_23 j27_24 j27_25 (show Int32.ofInt (0) = nI 0 by decide) rfl (by simp only [List.length_set, dv3] <;> decide) (by decide) (Or.inr ⟨rfl, rfl⟩) hb l0 ?_
  refine MPI H27 j27_28 j27_29 j27_30 (show Int32.ofInt (0) = nI 0 by decide) rfl (by simp only [List.length_set, dv3] <;> decide) (by decide) (Or.inr ⟨rfl, rfl⟩) hb l0 ?_
  refine MPA H27 j27_33 j27_34 j27_35 rfl (by simp only [List.length_set, dv3] <;> decide) rfl (Or.inr ⟨rfl, rfl⟩) hb l0 l1 ?_
  exact Mret H27 j27_38 rfl rfl (by omega) (by omega)
theorem j48_0 : mm_cd 48 0 = some (.aload_n 0, 1, 0, 0) := rfl
theorem j48_1 : mm_cd 48 1 = some (.invokespecial 3, 3, 1, 0) := rfl
theorem j48_4 : mm_cd 48 4 = some (.aload_n 0, 1, 0, 0) := rfl
theorem j48_5 : mm_cd 48 5 = some (.iconst 5, 1, 0, 0) := rfl
theorem j48_6 : mm_cd 48 6 = some (.newarray .int, 2, 0, 0) := rfl
theorem j48_8 : mm_cd 48 8 = some (.putfield 9, 3, 5, 1) := rfl
theorem j48_11 : mm_cd 48 11 = some (.aload_n 0, 1, 0, 0) := rfl
theorem j48_12 : mm_cd 48 12 = some (.iconst 5, 1, 0, 0) := rfl
theorem j48_13 : mm_cd 48 13 = some (.newarray .int, 2, 0, 0) := rfl
theorem j48_15 : mm_cd 48 15 = some (.putfield 15, 3, 5, 2) := rfl
theorem j48_18 : mm_cd 48 18 = some (.aload_n 0, 1, 0, 0) := rfl
theorem j48_19 : mm_cd 48 19 = some (.iconst 5, 1, 0, 0) := rfl
theorem j48_20 : mm_cd 48 20 = some (.newarray .int, 2, 0, 0) := rfl
theorem j48_22 : mm_cd 48 22 = some (.putfield 18, 3, 5, 3) := rfl
theorem j48_25 : mm_cd 48 25 = some (.aload_n 0, 1, 0, 0) := rfl
theorem j48_26 : mm_cd 48 26 = some (.iconst 0, 1, 0, 0) := rfl
theorem j48_27 : mm_cd 48 27 = some (.putfield 21, 3, 5, 4) := rfl
theorem j48_30 : mm_cd 48 30 = some (.aload_n 0, 1, 0, 0) := rfl
theorem j48_31 : mm_cd 48 31 = some (.aload_n 1, 1, 0, 0) := rfl
theorem j48_32 : mm_cd 48 32 = some (.putfield 25, 3, 5, 0) := rfl
theorem j48_35 : mm_cd 48 35 = some (.return_, 1, 0, 0) := rfl
theorem H48 : mm_hd 48 = some (5, 2, none, true, []) := rfl
theorem cal48 : mm_cal 48 5 1 (5, 2, none, true, []) := ⟨rfl, rfl, rfl⟩
theorem dv5 : (mm_defv 5).length = 5 := rfl
def W48 (b x : Nat) : List va_E := [oC 5 [.ref x, .ref (b + 1), .ref (b + 2), .ref (b + 3), .int (nI 0)], ZA 5, ZA 5, ZA 5]
theorem mk48 {L : Nat} {xs : Nat → Int32} {p : List va_E} {b x n k : Nat} (hb : p.length = b) : ∀ e, 0 ≤ e → Cl L xs e 48 [.ref b, .ref x] (p ++ [oC 5 (mm_defv 5)], true, n, k) (.inl none, (p ++ W48 b x, true, n + 3, k + 15)) := by
  intro e he
  have l0 : mm_look (lv_args 0 [.ref b, .ref x]) 0 = some (.ref b) := rfl
  have l1 : mm_look (lv_args 0 [.ref b, .ref x]) 1 = some (.ref x) := rfl
  unfold Cl
  generalize lv_args 0 [.ref b, .ref x] = lv at l0 l1 ⊢
  refine Ev.aload_n H48 j48_0 l0 ?_
  refine Mob H48 j48_1 (Nat.le_of_ble_eq_true rfl) ?_
  refine MNA (m := 5) (w := 1) (q := 1) H48 j48_4 (fun kk => Ev.iconst H48 j48_5 (by decide) kk) j48_6 j48_8 (by decide) rfl (by simp only [List.length_set, dv5] <;> decide) rfl (Or.inr ⟨rfl, rfl⟩) hb l0 rfl ?_
  refine MNA (m := 5) (w := 1) (q := 2) H48 j48_11 (fun kk => Ev.iconst H48 j48_12 (by decide) kk) j48_13 j48_15 (by decide) rfl (by simp only [List.length_set, dv5] <;> decide) rfl (Or.inr ⟨rfl, rfl⟩) hb l0 rfl ?_
  refine MNA (m := 5) (w := 1) (q := 3) H48 j48_18 (fun kk => Ev.iconst H48 j48_19 (by decide) kk) j48_20 j48_22 (by decide) rfl (by simp only [List.length_set, dv5] <;> decide) rfl (Or.inr ⟨rfl, rfl⟩) hb l0 rfl ?_
  refine MPI H48 j48_25 j48_26 j48_27 (show Int32.ofInt (0) = nI 0 by decide) rfl (by simp only [List.length_set, dv5] <;> decide) (by decide) (Or.inr ⟨rfl, rfl⟩) hb l0 ?_
  refine MPA H48 j48_30 j48_31 j48_32 rfl (by simp only [List.length_set, dv5] <;> decide) rfl (Or.inr ⟨rfl, rfl⟩) hb l0 l1 ?_
  exact Mret H48 j48_35 rfl rfl (by omega) (by omega)
theorem j110_0 : mm_cd 110 0 = some (.aload_n 0, 1, 0, 0) := rfl
theorem j110_1 : mm_cd 110 1 = some (.invokespecial 3, 3, 1, 0) := rfl
theorem j110_4 : mm_cd 110 4 = some (.aload_n 0, 1, 0, 0) := rfl
theorem j110_5 : mm_cd 110 5 = some (.new 9, 3, 0, 0) := rfl
theorem j110_8 : mm_cd 110 8 = some (.dup, 1, 0, 0) := rfl
theorem j110_9 : mm_cd 110 9 = some (.invokespecial 11, 3, 0, 0) := rfl
theorem j110_12 : mm_cd 110 12 = some (.putfield 12, 3, 9, 1) := rfl
theorem j110_15 : mm_cd 110 15 = some (.aload_n 0, 1, 0, 0) := rfl
theorem j110_16 : mm_cd 110 16 = some (.new 18, 3, 0, 6) := rfl
theorem j110_19 : mm_cd 110 19 = some (.dup, 1, 0, 0) := rfl
theorem j110_20 : mm_cd 110 20 = some (.invokespecial 20, 3, 0, 62) := rfl
theorem j110_23 : mm_cd 110 23 = some (.putfield 21, 3, 9, 2) := rfl
theorem j110_26 : mm_cd 110 26 = some (.aload_n 0, 1, 0, 0) := rfl
theorem j110_27 : mm_cd 110 27 = some (.new 25, 3, 0, 1) := rfl
theorem j110_30 : mm_cd 110 30 = some (.dup, 1, 0, 0) := rfl
theorem j110_31 : mm_cd 110 31 = some (.invokespecial 27, 3, 0, 12) := rfl
theorem j110_34 : mm_cd 110 34 = some (.putfield 28, 3, 9, 3) := rfl
theorem j110_37 : mm_cd 110 37 = some (.aload_n 0, 1, 0, 0) := rfl
theorem j110_38 : mm_cd 110 38 = some (.new 32, 3, 0, 4) := rfl
theorem j110_41 : mm_cd 110 41 = some (.dup, 1, 0, 0) := rfl
theorem j110_42 : mm_cd 110 42 = some (.invokespecial 34, 3, 0, 41) := rfl
theorem j110_45 : mm_cd 110 45 = some (.putfield 35, 3, 9, 4) := rfl
theorem j110_48 : mm_cd 110 48 = some (.aload_n 0, 1, 0, 0) := rfl
theorem j110_49 : mm_cd 110 49 = some (.bipush 10, 2, 0, 0) := rfl
theorem j110_51 : mm_cd 110 51 = some (.newarray .int, 2, 0, 0) := rfl
theorem j110_53 : mm_cd 110 53 = some (.putfield 39, 3, 9, 5) := rfl
theorem j110_56 : mm_cd 110 56 = some (.aload_n 0, 1, 0, 0) := rfl
theorem j110_57 : mm_cd 110 57 = some (.bipush 10, 2, 0, 0) := rfl
theorem j110_59 : mm_cd 110 59 = some (.newarray .int, 2, 0, 0) := rfl
theorem j110_61 : mm_cd 110 61 = some (.putfield 43, 3, 9, 6) := rfl
theorem j110_64 : mm_cd 110 64 = some (.aload_n 0, 1, 0, 0) := rfl
theorem j110_65 : mm_cd 110 65 = some (.bipush 10, 2, 0, 0) := rfl
theorem j110_67 : mm_cd 110 67 = some (.newarray .int, 2, 0, 0) := rfl
theorem j110_69 : mm_cd 110 69 = some (.putfield 46, 3, 9, 7) := rfl
theorem j110_72 : mm_cd 110 72 = some (.aload_n 0, 1, 0, 0) := rfl
theorem j110_73 : mm_cd 110 73 = some (.bipush 10, 2, 0, 0) := rfl
theorem j110_75 : mm_cd 110 75 = some (.newarray .int, 2, 0, 0) := rfl
theorem j110_77 : mm_cd 110 77 = some (.putfield 49, 3, 9, 8) := rfl
theorem j110_80 : mm_cd 110 80 = some (.aload_n 0, 1, 0, 0) := rfl
theorem j110_81 : mm_cd 110 81 = some (.iconst 0, 1, 0, 0) := rfl
theorem j110_82 : mm_cd 110 82 = some (.putfield 52, 3, 9, 9) := rfl
theorem j110_85 : mm_cd 110 85 = some (.aload_n 0, 1, 0, 0) := rfl
theorem j110_86 : mm_cd 110 86 = some (.iconst 3, 1, 0, 0) := rfl
theorem j110_87 : mm_cd 110 87 = some (.putfield 56, 3, 9, 10) := rfl
theorem j110_90 : mm_cd 110 90 = some (.aload_n 0, 1, 0, 0) := rfl
theorem j110_91 : mm_cd 110 91 = some (.iconst 0, 1, 0, 0) := rfl
theorem j110_92 : mm_cd 110 92 = some (.putfield 59, 3, 9, 11) := rfl
theorem j110_95 : mm_cd 110 95 = some (.aload_n 0, 1, 0, 0) := rfl
theorem j110_96 : mm_cd 110 96 = some (.iconst 1, 1, 0, 0) := rfl
theorem j110_97 : mm_cd 110 97 = some (.putfield 62, 3, 9, 12) := rfl
theorem j110_100 : mm_cd 110 100 = some (.aload_n 0, 1, 0, 0) := rfl
theorem j110_101 : mm_cd 110 101 = some (.iconst 0, 1, 0, 0) := rfl
theorem j110_102 : mm_cd 110 102 = some (.putfield 65, 3, 9, 13) := rfl
theorem j110_105 : mm_cd 110 105 = some (.aload_n 0, 1, 0, 0) := rfl
theorem j110_106 : mm_cd 110 106 = some (.aload_n 1, 1, 0, 0) := rfl
theorem j110_107 : mm_cd 110 107 = some (.putfield 68, 3, 9, 0) := rfl
theorem j110_110 : mm_cd 110 110 = some (.return_, 1, 0, 0) := rfl
theorem H110 : mm_hd 110 = some (9, 2, none, true, []) := rfl
theorem cal110 : mm_cal 110 9 1 (9, 2, none, true, []) := ⟨rfl, rfl, rfl⟩
theorem dv9 : (mm_defv 9).length = 14 := rfl
def W110 (b x : Nat) : List va_E := [oC 9 [.ref x, .ref (b + 1), .ref (b + 6), .ref (b + 18), .ref (b + 26), .ref (b + 28), .ref (b + 29), .ref (b + 30), .ref (b + 31), .int (nI 0), .int (nI 3), .int (nI 0), .int (nI 1), .int (nI 0)], oC 0 [.int (nI 0), .int (nI 0), .ref (b + 2), .ref (b + 3), .ref (b + 4), .ref (b + 5)], ZA 5, ZA 5, ZA 5, ZA 5, oC 6 [.int (nI 0), .int (nI 0), .int (nI 0), .int (nI 0), .ref (b + 7), .ref (b + 8), .ref (b + 9), .ref (b + 10), .ref (b + 11), .ref (b + 12), .ref (b + 13), .ref (b + 14), .ref (b + 15), .ref (b + 16), .ref (b + 17)], ZA 8, ZA 8, ZA 8, ZA 8, ZA 8, ZA 8, ZA 8, ZA 8, ZA 8, ZA 8, ZA 80, oC 1 [.int (nI 0), .int (nI 0), .ref (b + 19), .ref (b + 20), .ref (b + 21), .ref (b + 22), .ref (b + 23), .ref (b + 24), .ref (b + 25)], ZA 12, ZA 12, ZA 12, ZA 12, ZA 120, ZA 120, ZA 12, oC 4 [.int (nI 0), .int (nI 0), .ref (b + 27)], ZA 240, ZA 10, ZA 10, ZA 10, ZA 10]
theorem mk110 {L : Nat} {xs : Nat → Int32} {p : List va_E} {b x n k : Nat} (hb : p.length = b) : ∀ e, 1 ≤ e → Cl L xs e 110 [.ref b, .ref x] (p ++ [oC 9 (mm_defv 9)], true, n, k) (.inl none, (p ++ W110 b x, true, n + 31, k + 793)) := by
  intro e he
  have l0 : mm_look (lv_args 0 [.ref b, .ref x]) 0 = some (.ref b) := rfl
  have l1 : mm_look (lv_args 0 [.ref b, .ref x]) 1 = some (.ref x) := rfl
  unfold Cl
  generalize lv_args 0 [.ref b, .ref x] = lv at l0 l1 ⊢
  refine Ev.aload_n H110 j110_0 l0 ?_
  refine Mob H110 j110_1 (Nat.le_of_ble_eq_true rfl) ?_
  refine MNC (q := 1) (dj := 0) H110 j110_4 j110_5 j110_8 j110_9 j110_12 cal0 dv0 (Nat.le_of_ble_eq_true rfl) (by omega) rfl (by simp only [List.length_set, dv9] <;> decide) rfl (Or.inr ⟨rfl, rfl⟩) hb l0 rfl (fun p1 n1 k1 hp1 e1 he1 => mk0 hp1 e1 he1) ?_
  refine MNC (q := 6) (dj := 0) H110 j110_15 j110_16 j110_19 j110_20 j110_23 cal62 dv6 (Nat.le_of_ble_eq_true rfl) (by omega) rfl (by simp only [List.length_set, dv9] <;> decide) rfl (Or.inr ⟨rfl, rfl⟩) hb l0 rfl (fun p1 n1 k1 hp1 e1 he1 => mk62 hp1 e1 he1) ?_
  refine MNC (q := 18) (dj := 0) H110 j110_26 j110_27 j110_30 j110_31 j110_34 cal12 dv1 (Nat.le_of_ble_eq_true rfl) (by omega) rfl (by simp only [List.length_set, dv9] <;> decide) rfl (Or.inr ⟨rfl, rfl⟩) hb l0 rfl (fun p1 n1 k1 hp1 e1 he1 => mk12 hp1 e1 he1) ?_
  refine MNC (q := 26) (dj := 0) H110 j110_37 j110_38 j110_41 j110_42 j110_45 cal41 dv4 (Nat.le_of_ble_eq_true rfl) (by omega) rfl (by simp only [List.length_set, dv9] <;> decide) rfl (Or.inr ⟨rfl, rfl⟩) hb l0 rfl (fun p1 n1 k1 hp1 e1 he1 => mk41 hp1 e1 he1) ?_
  refine MNA (m := 10) (w := 2) (q := 28) H110 j110_48 (fun kk => Ev.bipush H110 j110_49 (by decide) kk) j110_51 j110_53 (by decide) rfl (by simp only [List.length_set, dv9] <;> decide) rfl (Or.inr ⟨rfl, rfl⟩) hb l0 rfl ?_
  refine MNA (m := 10) (w := 2) (q := 29) H110 j110_56 (fun kk => Ev.bipush H110 j110_57 (by decide) kk) j110_59 j110_61 (by decide) rfl (by simp only [List.length_set, dv9] <;> decide) rfl (Or.inr ⟨rfl, rfl⟩) hb l0 rfl ?_
  refine MNA (m := 10) (w := 2) (q := 30) H110 j110_64 (fun kk => Ev.bipush H110 j110_65 (by decide) kk) j110_67 j110_69 (by decide) rfl (by simp only [List.length_set, dv9] <;> decide) rfl (Or.inr ⟨rfl, rfl⟩) hb l0 rfl ?_
  refine MNA (m := 10) (w := 2) (q := 31) H110 j110_72 (fun kk => Ev.bipush H110 j110_73 (by decide) kk) j110_75 j110_77 (by decide) rfl (by simp only [List.length_set, dv9] <;> decide) rfl (Or.inr ⟨rfl, rfl⟩) hb l0 rfl ?_
  refine MPI H110 j110_80 j110_81 j110_82 (show Int32.ofInt (0) = nI 0 by decide) rfl (by simp only [List.length_set, dv9] <;> decide) (by decide) (Or.inr ⟨rfl, rfl⟩) hb l0 ?_
  refine MPI H110 j110_85 j110_86 j110_87 (show Int32.ofInt (3) = nI 3 by decide) rfl (by simp only [List.length_set, dv9] <;> decide) (by decide) (Or.inr ⟨rfl, rfl⟩) hb l0 ?_
  refine MPI H110 j110_90 j110_91 j110_92 (show Int32.ofInt (0) = nI 0 by decide) rfl (by simp only [List.length_set, dv9] <;> decide) (by decide) (Or.inr ⟨rfl, rfl⟩) hb l0 ?_
  refine MPI H110 j110_95 j110_96 j110_97 (show Int32.ofInt (1) = nI 1 by decide) rfl (by simp only [List.length_set, dv9] <;> decide) (by decide) (Or.inr ⟨rfl, rfl⟩) hb l0 ?_
  refine MPI H110 j110_100 j110_101 j110_102 (show Int32.ofInt (0) = nI 0 by decide) rfl (by simp only [List.length_set, dv9] <;> decide) (by decide) (Or.inr ⟨rfl, rfl⟩) hb l0 ?_
  refine MPA H110 j110_105 j110_106 j110_107 rfl (by simp only [List.length_set, dv9] <;> decide) rfl (Or.inr ⟨rfl, rfl⟩) hb l0 l1 ?_
  exact Mret H110 j110_110 rfl rfl (by omega) (by omega)
