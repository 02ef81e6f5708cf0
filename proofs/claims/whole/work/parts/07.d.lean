/-! WHERE THE OBJECTS LIE; THE HEADS OF THE METHODS; CONSTANTS -/
def A0 : List Nat := [27, 59, 91, 129, 161, 193, 225, 257, 289, 321, 353, 385, 417, 449, 481]
def A1 : List Nat := [44, 76, 108, 146, 178, 210, 242, 274, 306, 338, 370, 402, 434, 466, 498]
def A2 : List Nat := [3, 10, 18]
theorem ob3 : mm_ob 17 3 [some 18, some 1, some 25, none, none] := ⟨by decide +kernel, by decide⟩
theorem ar_25 : mm_ar 25 0 24 := ⟨by decide +kernel, by decide⟩
def A4 : List Nat := [52, 84, 116, 154, 186, 218, 250, 282, 314, 346, 378, 410, 442, 474, 506]
theorem ob5 : mm_ob 123 5 [some 27, some 124, some 125, some 126, none] := ⟨by decide +kernel, by decide⟩
theorem ar_124 : mm_ar 124 0 5 := ⟨by decide +kernel, by decide⟩
theorem ar_125 : mm_ar 125 0 5 := ⟨by decide +kernel, by decide⟩
theorem ar_126 : mm_ar 126 0 5 := ⟨by decide +kernel, by decide⟩
def A6 : List Nat := [32, 64, 96, 134, 166, 198, 230, 262, 294, 326, 358, 390, 422, 454, 486]
theorem ob7 : mm_ob 122 7 [some 1] := ⟨by decide +kernel, by decide⟩
theorem ob8 : mm_ob 1 8 [some 2, none, none] := ⟨by decide +kernel, by decide⟩
theorem ar_2 : mm_ar 2 0 400 := ⟨by decide +kernel, by decide⟩
def A9 : List Nat := [26, 58, 90, 128, 160, 192, 224, 256, 288, 320, 352, 384, 416, 448, 480]
theorem ob10 : mm_ob 0 10 [some 1, some 3, some 10, some 17, some 26, some 58, some 90, some 122, some 123, some 127, none, none, none, none] := ⟨by decide +kernel, by decide⟩
theorem ar_127 : mm_ar 127 3 12 := ⟨by decide +kernel, by decide⟩
theorem ob11 : mm_ob 512 11 [none, some 513, some 514, some 515, some 516, some 517, none, none, some 518, none, none, none, none, none, none, some 519, none, some 520, none, some 521, none, some 522, some 523] := ⟨by decide +kernel, by decide⟩
theorem ar_513 : mm_ar 513 0 2468 := ⟨by decide +kernel, by decide⟩
theorem ar_514 : mm_ar 514 0 1619 := ⟨by decide +kernel, by decide⟩
theorem ar_515 : mm_ar 515 0 1619 := ⟨by decide +kernel, by decide⟩
theorem ar_516 : mm_ar 516 0 770 := ⟨by decide +kernel, by decide⟩
theorem ar_517 : mm_ar 517 0 9240 := ⟨by decide +kernel, by decide⟩
theorem ar_518 : mm_ar 518 1 400 := ⟨by decide +kernel, by decide⟩
theorem ar_519 : mm_ar 519 0 5 := ⟨by decide +kernel, by decide⟩
theorem ar_520 : mm_ar 520 0 400 := ⟨by decide +kernel, by decide⟩
theorem ar_521 : mm_ar 521 0 5 := ⟨by decide +kernel, by decide⟩
theorem ar_522 : mm_ar 522 0 32 := ⟨by decide +kernel, by decide⟩
theorem ar_523 : mm_ar 523 2 6 := ⟨by decide +kernel, by decide⟩
theorem ob0 {a : Nat} (h : a ∈ A0) : mm_ob a 0 [none, none, some (a + 1), some (a + 2), some (a + 3), some (a + 4)] := ⟨(by decide +kernel : ∀ a ∈ A0, mm_sh a = .inr (0, [none, none, some (a + 1), some (a + 2), some (a + 3), some (a + 4)])) a h, (by decide : ∀ a ∈ A0, a < 525) a h⟩
theorem ar0_1 {a : Nat} (h : a ∈ A0) : mm_ar (a + 1) 0 5 := ⟨(by decide +kernel : ∀ a ∈ A0, mm_sh (a + 1) = .inl (0, 5)) a h, (by decide : ∀ a ∈ A0, a + 1 < 525) a h⟩
theorem ar0_2 {a : Nat} (h : a ∈ A0) : mm_ar (a + 2) 0 5 := ⟨(by decide +kernel : ∀ a ∈ A0, mm_sh (a + 2) = .inl (0, 5)) a h, (by decide : ∀ a ∈ A0, a + 2 < 525) a h⟩
theorem ar0_3 {a : Nat} (h : a ∈ A0) : mm_ar (a + 3) 0 5 := ⟨(by decide +kernel : ∀ a ∈ A0, mm_sh (a + 3) = .inl (0, 5)) a h, (by decide : ∀ a ∈ A0, a + 3 < 525) a h⟩
theorem ar0_4 {a : Nat} (h : a ∈ A0) : mm_ar (a + 4) 0 5 := ⟨(by decide +kernel : ∀ a ∈ A0, mm_sh (a + 4) = .inl (0, 5)) a h, (by decide : ∀ a ∈ A0, a + 4 < 525) a h⟩
theorem ob1 {a : Nat} (h : a ∈ A1) : mm_ob a 1 [none, none, some (a + 1), some (a + 2), some (a + 3), some (a + 4), some (a + 5), some (a + 6), some (a + 7)] := ⟨(by decide +kernel : ∀ a ∈ A1, mm_sh a = .inr (1, [none, none, some (a + 1), some (a + 2), some (a + 3), some (a + 4), some (a + 5), some (a + 6), some (a + 7)])) a h, (by decide : ∀ a ∈ A1, a < 525) a h⟩
theorem ar1_1 {a : Nat} (h : a ∈ A1) : mm_ar (a + 1) 0 12 := ⟨(by decide +kernel : ∀ a ∈ A1, mm_sh (a + 1) = .inl (0, 12)) a h, (by decide : ∀ a ∈ A1, a + 1 < 525) a h⟩
theorem ar1_2 {a : Nat} (h : a ∈ A1) : mm_ar (a + 2) 0 12 := ⟨(by decide +kernel : ∀ a ∈ A1, mm_sh (a + 2) = .inl (0, 12)) a h, (by decide : ∀ a ∈ A1, a + 2 < 525) a h⟩
theorem ar1_3 {a : Nat} (h : a ∈ A1) : mm_ar (a + 3) 0 12 := ⟨(by decide +kernel : ∀ a ∈ A1, mm_sh (a + 3) = .inl (0, 12)) a h, (by decide : ∀ a ∈ A1, a + 3 < 525) a h⟩
theorem ar1_4 {a : Nat} (h : a ∈ A1) : mm_ar (a + 4) 0 12 := ⟨(by decide +kernel : ∀ a ∈ A1, mm_sh (a + 4) = .inl (0, 12)) a h, (by decide : ∀ a ∈ A1, a + 4 < 525) a h⟩
theorem ar1_5 {a : Nat} (h : a ∈ A1) : mm_ar (a + 5) 0 120 := ⟨(by decide +kernel : ∀ a ∈ A1, mm_sh (a + 5) = .inl (0, 120)) a h, (by decide : ∀ a ∈ A1, a + 5 < 525) a h⟩
theorem ar1_6 {a : Nat} (h : a ∈ A1) : mm_ar (a + 6) 0 120 := ⟨(by decide +kernel : ∀ a ∈ A1, mm_sh (a + 6) = .inl (0, 120)) a h, (by decide : ∀ a ∈ A1, a + 6 < 525) a h⟩
theorem ar1_7 {a : Nat} (h : a ∈ A1) : mm_ar (a + 7) 0 12 := ⟨(by decide +kernel : ∀ a ∈ A1, mm_sh (a + 7) = .inl (0, 12)) a h, (by decide : ∀ a ∈ A1, a + 7 < 525) a h⟩
theorem ob2 {a : Nat} (h : a ∈ A2) : mm_ob a 2 [none, none, some (a + 1), some (a + 2), some (a + 3), some (a + 4), some (a + 5), some (a + 6)] := ⟨(by decide +kernel : ∀ a ∈ A2, mm_sh a = .inr (2, [none, none, some (a + 1), some (a + 2), some (a + 3), some (a + 4), some (a + 5), some (a + 6)])) a h, (by decide : ∀ a ∈ A2, a < 525) a h⟩
theorem ar2_1 {a : Nat} (h : a ∈ A2) : mm_ar (a + 1) 0 12 := ⟨(by decide +kernel : ∀ a ∈ A2, mm_sh (a + 1) = .inl (0, 12)) a h, (by decide : ∀ a ∈ A2, a + 1 < 525) a h⟩
theorem ar2_2 {a : Nat} (h : a ∈ A2) : mm_ar (a + 2) 0 12 := ⟨(by decide +kernel : ∀ a ∈ A2, mm_sh (a + 2) = .inl (0, 12)) a h, (by decide : ∀ a ∈ A2, a + 2 < 525) a h⟩
theorem ar2_3 {a : Nat} (h : a ∈ A2) : mm_ar (a + 3) 0 12 := ⟨(by decide +kernel : ∀ a ∈ A2, mm_sh (a + 3) = .inl (0, 12)) a h, (by decide : ∀ a ∈ A2, a + 3 < 525) a h⟩
theorem ar2_4 {a : Nat} (h : a ∈ A2) : mm_ar (a + 4) 0 400 := ⟨(by decide +kernel : ∀ a ∈ A2, mm_sh (a + 4) = .inl (0, 400)) a h, (by decide : ∀ a ∈ A2, a + 4 < 525) a h⟩
theorem ar2_5 {a : Nat} (h : a ∈ A2) : mm_ar (a + 5) 0 10 := ⟨(by decide +kernel : ∀ a ∈ A2, mm_sh (a + 5) = .inl (0, 10)) a h, (by decide : ∀ a ∈ A2, a + 5 < 525) a h⟩
theorem ar2_6 {a : Nat} (h : a ∈ A2) : mm_ar (a + 6) 0 40 := ⟨(by decide +kernel : ∀ a ∈ A2, mm_sh (a + 6) = .inl (0, 40)) a h, (by decide : ∀ a ∈ A2, a + 6 < 525) a h⟩
theorem ob4 {a : Nat} (h : a ∈ A4) : mm_ob a 4 [none, none, some (a + 1)] := ⟨(by decide +kernel : ∀ a ∈ A4, mm_sh a = .inr (4, [none, none, some (a + 1)])) a h, (by decide : ∀ a ∈ A4, a < 525) a h⟩
theorem ar4_1 {a : Nat} (h : a ∈ A4) : mm_ar (a + 1) 0 240 := ⟨(by decide +kernel : ∀ a ∈ A4, mm_sh (a + 1) = .inl (0, 240)) a h, (by decide : ∀ a ∈ A4, a + 1 < 525) a h⟩
theorem ob6 {a : Nat} (h : a ∈ A6) : mm_ob a 6 [none, none, none, none, some (a + 1), some (a + 2), some (a + 3), some (a + 4), some (a + 5), some (a + 6), some (a + 7), some (a + 8), some (a + 9), some (a + 10), some (a + 11)] := ⟨(by decide +kernel : ∀ a ∈ A6, mm_sh a = .inr (6, [none, none, none, none, some (a + 1), some (a + 2), some (a + 3), some (a + 4), some (a + 5), some (a + 6), some (a + 7), some (a + 8), some (a + 9), some (a + 10), some (a + 11)])) a h, (by decide : ∀ a ∈ A6, a < 525) a h⟩
theorem ar6_1 {a : Nat} (h : a ∈ A6) : mm_ar (a + 1) 0 8 := ⟨(by decide +kernel : ∀ a ∈ A6, mm_sh (a + 1) = .inl (0, 8)) a h, (by decide : ∀ a ∈ A6, a + 1 < 525) a h⟩
theorem ar6_2 {a : Nat} (h : a ∈ A6) : mm_ar (a + 2) 0 8 := ⟨(by decide +kernel : ∀ a ∈ A6, mm_sh (a + 2) = .inl (0, 8)) a h, (by decide : ∀ a ∈ A6, a + 2 < 525) a h⟩
theorem ar6_3 {a : Nat} (h : a ∈ A6) : mm_ar (a + 3) 0 8 := ⟨(by decide +kernel : ∀ a ∈ A6, mm_sh (a + 3) = .inl (0, 8)) a h, (by decide : ∀ a ∈ A6, a + 3 < 525) a h⟩
theorem ar6_4 {a : Nat} (h : a ∈ A6) : mm_ar (a + 4) 0 8 := ⟨(by decide +kernel : ∀ a ∈ A6, mm_sh (a + 4) = .inl (0, 8)) a h, (by decide : ∀ a ∈ A6, a + 4 < 525) a h⟩
theorem ar6_5 {a : Nat} (h : a ∈ A6) : mm_ar (a + 5) 0 8 := ⟨(by decide +kernel : ∀ a ∈ A6, mm_sh (a + 5) = .inl (0, 8)) a h, (by decide : ∀ a ∈ A6, a + 5 < 525) a h⟩
theorem ar6_6 {a : Nat} (h : a ∈ A6) : mm_ar (a + 6) 0 8 := ⟨(by decide +kernel : ∀ a ∈ A6, mm_sh (a + 6) = .inl (0, 8)) a h, (by decide : ∀ a ∈ A6, a + 6 < 525) a h⟩
theorem ar6_7 {a : Nat} (h : a ∈ A6) : mm_ar (a + 7) 0 8 := ⟨(by decide +kernel : ∀ a ∈ A6, mm_sh (a + 7) = .inl (0, 8)) a h, (by decide : ∀ a ∈ A6, a + 7 < 525) a h⟩
theorem ar6_8 {a : Nat} (h : a ∈ A6) : mm_ar (a + 8) 0 8 := ⟨(by decide +kernel : ∀ a ∈ A6, mm_sh (a + 8) = .inl (0, 8)) a h, (by decide : ∀ a ∈ A6, a + 8 < 525) a h⟩
theorem ar6_9 {a : Nat} (h : a ∈ A6) : mm_ar (a + 9) 0 8 := ⟨(by decide +kernel : ∀ a ∈ A6, mm_sh (a + 9) = .inl (0, 8)) a h, (by decide : ∀ a ∈ A6, a + 9 < 525) a h⟩
theorem ar6_10 {a : Nat} (h : a ∈ A6) : mm_ar (a + 10) 0 8 := ⟨(by decide +kernel : ∀ a ∈ A6, mm_sh (a + 10) = .inl (0, 8)) a h, (by decide : ∀ a ∈ A6, a + 10 < 525) a h⟩
theorem ar6_11 {a : Nat} (h : a ∈ A6) : mm_ar (a + 11) 0 80 := ⟨(by decide +kernel : ∀ a ∈ A6, mm_sh (a + 11) = .inl (0, 80)) a h, (by decide : ∀ a ∈ A6, a + 11 < 525) a h⟩
theorem ob9 {a : Nat} (h : a ∈ A9) : mm_ob a 9 [some 3, some (a + 1), some (a + 6), some (a + 18), some (a + 26), some (a + 28), some (a + 29), some (a + 30), some (a + 31), none, none, none, none, none] := ⟨(by decide +kernel : ∀ a ∈ A9, mm_sh a = .inr (9, [some 3, some (a + 1), some (a + 6), some (a + 18), some (a + 26), some (a + 28), some (a + 29), some (a + 30), some (a + 31), none, none, none, none, none])) a h, (by decide : ∀ a ∈ A9, a < 525) a h⟩
theorem m9_0_1 {a : Nat} (h : a ∈ A9) : a + 1 ∈ A0 := (by decide : ∀ a ∈ A9, a + 1 ∈ A0) a h
theorem m9_6_6 {a : Nat} (h : a ∈ A9) : a + 6 ∈ A6 := (by decide : ∀ a ∈ A9, a + 6 ∈ A6) a h
theorem m9_1_18 {a : Nat} (h : a ∈ A9) : a + 18 ∈ A1 := (by decide : ∀ a ∈ A9, a + 18 ∈ A1) a h
theorem m9_4_26 {a : Nat} (h : a ∈ A9) : a + 26 ∈ A4 := (by decide : ∀ a ∈ A9, a + 26 ∈ A4) a h
theorem ar9_28 {a : Nat} (h : a ∈ A9) : mm_ar (a + 28) 0 10 := ⟨(by decide +kernel : ∀ a ∈ A9, mm_sh (a + 28) = .inl (0, 10)) a h, (by decide : ∀ a ∈ A9, a + 28 < 525) a h⟩
theorem ar9_29 {a : Nat} (h : a ∈ A9) : mm_ar (a + 29) 0 10 := ⟨(by decide +kernel : ∀ a ∈ A9, mm_sh (a + 29) = .inl (0, 10)) a h, (by decide : ∀ a ∈ A9, a + 29 < 525) a h⟩
theorem ar9_30 {a : Nat} (h : a ∈ A9) : mm_ar (a + 30) 0 10 := ⟨(by decide +kernel : ∀ a ∈ A9, mm_sh (a + 30) = .inl (0, 10)) a h, (by decide : ∀ a ∈ A9, a + 30 < 525) a h⟩
theorem ar9_31 {a : Nat} (h : a ∈ A9) : mm_ar (a + 31) 0 10 := ⟨(by decide +kernel : ∀ a ∈ A9, mm_sh (a + 31) = .inl (0, 10)) a h, (by decide : ∀ a ∈ A9, a + 31 < 525) a h⟩
theorem ar_524 : mm_ar 524 2 1 := ⟨by decide +kernel, by decide⟩
theorem mA9_d {i : Nat} (h : i < 12) : 128 + 32 * i ∈ A9 := (by decide : ∀ i, i < 12 → 128 + 32 * i ∈ A9) i h
theorem mA0_27 : 27 ∈ A0 := by decide
theorem mA2_3 : 3 ∈ A2 := by decide
theorem mA2_10 : 10 ∈ A2 := by decide
theorem mA2_18 : 18 ∈ A2 := by decide
theorem mA9_26 : 26 ∈ A9 := by decide
theorem mA9_58 : 58 ∈ A9 := by decide
theorem mA9_90 : 90 ∈ A9 := by decide
theorem ty0_0 : mm_ty 0 0 = .int ∧ mm_fin 0 0 = false := ⟨by decide +kernel, by decide +kernel⟩
theorem ty0_1 : mm_ty 0 1 = .int ∧ mm_fin 0 1 = false := ⟨by decide +kernel, by decide +kernel⟩
theorem ty1_0 : mm_ty 1 0 = .int ∧ mm_fin 1 0 = false := ⟨by decide +kernel, by decide +kernel⟩
theorem ty1_1 : mm_ty 1 1 = .int ∧ mm_fin 1 1 = false := ⟨by decide +kernel, by decide +kernel⟩
theorem ty2_0 : mm_ty 2 0 = .int ∧ mm_fin 2 0 = false := ⟨by decide +kernel, by decide +kernel⟩
theorem ty2_1 : mm_ty 2 1 = .int ∧ mm_fin 2 1 = false := ⟨by decide +kernel, by decide +kernel⟩
theorem ty3_3 : mm_ty 3 3 = .int ∧ mm_fin 3 3 = false := ⟨by decide +kernel, by decide +kernel⟩
theorem ty3_4 : mm_ty 3 4 = .int ∧ mm_fin 3 4 = false := ⟨by decide +kernel, by decide +kernel⟩
theorem ty4_0 : mm_ty 4 0 = .int ∧ mm_fin 4 0 = false := ⟨by decide +kernel, by decide +kernel⟩
theorem ty4_1 : mm_ty 4 1 = .int ∧ mm_fin 4 1 = false := ⟨by decide +kernel, by decide +kernel⟩
theorem ty5_4 : mm_ty 5 4 = .int ∧ mm_fin 5 4 = false := ⟨by decide +kernel, by decide +kernel⟩
theorem ty6_0 : mm_ty 6 0 = .int ∧ mm_fin 6 0 = false := ⟨by decide +kernel, by decide +kernel⟩
theorem ty6_1 : mm_ty 6 1 = .int ∧ mm_fin 6 1 = false := ⟨by decide +kernel, by decide +kernel⟩
theorem ty6_2 : mm_ty 6 2 = .int ∧ mm_fin 6 2 = false := ⟨by decide +kernel, by decide +kernel⟩
theorem ty6_3 : mm_ty 6 3 = .int ∧ mm_fin 6 3 = false := ⟨by decide +kernel, by decide +kernel⟩
theorem ty8_1 : mm_ty 8 1 = .int ∧ mm_fin 8 1 = false := ⟨by decide +kernel, by decide +kernel⟩
theorem ty8_2 : mm_ty 8 2 = .int ∧ mm_fin 8 2 = false := ⟨by decide +kernel, by decide +kernel⟩
theorem ty9_9 : mm_ty 9 9 = .int ∧ mm_fin 9 9 = false := ⟨by decide +kernel, by decide +kernel⟩
theorem ty9_10 : mm_ty 9 10 = .int ∧ mm_fin 9 10 = false := ⟨by decide +kernel, by decide +kernel⟩
theorem ty9_11 : mm_ty 9 11 = .int ∧ mm_fin 9 11 = false := ⟨by decide +kernel, by decide +kernel⟩
theorem ty9_12 : mm_ty 9 12 = .int ∧ mm_fin 9 12 = false := ⟨by decide +kernel, by decide +kernel⟩
theorem ty9_13 : mm_ty 9 13 = .int ∧ mm_fin 9 13 = false := ⟨by decide +kernel, by decide +kernel⟩
theorem ty10_10 : mm_ty 10 10 = .int ∧ mm_fin 10 10 = false := ⟨by decide +kernel, by decide +kernel⟩
theorem ty10_11 : mm_ty 10 11 = .int ∧ mm_fin 10 11 = false := ⟨by decide +kernel, by decide +kernel⟩
theorem ty10_12 : mm_ty 10 12 = .boolean ∧ mm_fin 10 12 = false := ⟨by decide +kernel, by decide +kernel⟩
theorem ty10_13 : mm_ty 10 13 = .int ∧ mm_fin 10 13 = false := ⟨by decide +kernel, by decide +kernel⟩
theorem ty11_0 : mm_ty 11 0 = .int ∧ mm_fin 11 0 = false := ⟨by decide +kernel, by decide +kernel⟩
theorem ty11_6 : mm_ty 11 6 = .boolean ∧ mm_fin 11 6 = false := ⟨by decide +kernel, by decide +kernel⟩
theorem ty11_7 : mm_ty 11 7 = .int ∧ mm_fin 11 7 = false := ⟨by decide +kernel, by decide +kernel⟩
theorem ty11_9 : mm_ty 11 9 = .int ∧ mm_fin 11 9 = false := ⟨by decide +kernel, by decide +kernel⟩
theorem ty11_10 : mm_ty 11 10 = .int ∧ mm_fin 11 10 = false := ⟨by decide +kernel, by decide +kernel⟩
theorem ty11_11 : mm_ty 11 11 = .int ∧ mm_fin 11 11 = false := ⟨by decide +kernel, by decide +kernel⟩
theorem ty11_12 : mm_ty 11 12 = .int ∧ mm_fin 11 12 = false := ⟨by decide +kernel, by decide +kernel⟩
theorem ty11_13 : mm_ty 11 13 = .int ∧ mm_fin 11 13 = false := ⟨by decide +kernel, by decide +kernel⟩
theorem ty11_14 : mm_ty 11 14 = .int ∧ mm_fin 11 14 = false := ⟨by decide +kernel, by decide +kernel⟩
theorem ty11_16 : mm_ty 11 16 = .int ∧ mm_fin 11 16 = false := ⟨by decide +kernel, by decide +kernel⟩
theorem ty11_18 : mm_ty 11 18 = .int ∧ mm_fin 11 18 = false := ⟨by decide +kernel, by decide +kernel⟩
theorem ty11_20 : mm_ty 11 20 = .int ∧ mm_fin 11 20 = false := ⟨by decide +kernel, by decide +kernel⟩
theorem kB_m2 : (Int8.ofInt (-2)).toInt32 = (-2 : Int32) := by decide +kernel
theorem kB_6 : (Int8.ofInt 6).toInt32 = (6 : Int32) := by decide +kernel
theorem kB_7 : (Int8.ofInt 7).toInt32 = (7 : Int32) := by decide +kernel
theorem kB_8 : (Int8.ofInt 8).toInt32 = (8 : Int32) := by decide +kernel
theorem kB_9 : (Int8.ofInt 9).toInt32 = (9 : Int32) := by decide +kernel
theorem kB_10 : (Int8.ofInt 10).toInt32 = (10 : Int32) := by decide +kernel
theorem kB_11 : (Int8.ofInt 11).toInt32 = (11 : Int32) := by decide +kernel
theorem kB_12 : (Int8.ofInt 12).toInt32 = (12 : Int32) := by decide +kernel
theorem kB_13 : (Int8.ofInt 13).toInt32 = (13 : Int32) := by decide +kernel
theorem kB_14 : (Int8.ofInt 14).toInt32 = (14 : Int32) := by decide +kernel
theorem kB_15 : (Int8.ofInt 15).toInt32 = (15 : Int32) := by decide +kernel
theorem kB_16 : (Int8.ofInt 16).toInt32 = (16 : Int32) := by decide +kernel
theorem kB_19 : (Int8.ofInt 19).toInt32 = (19 : Int32) := by decide +kernel
theorem kB_20 : (Int8.ofInt 20).toInt32 = (20 : Int32) := by decide +kernel
theorem kB_21 : (Int8.ofInt 21).toInt32 = (21 : Int32) := by decide +kernel
theorem kB_24 : (Int8.ofInt 24).toInt32 = (24 : Int32) := by decide +kernel
theorem kB_32 : (Int8.ofInt 32).toInt32 = (32 : Int32) := by decide +kernel
theorem kB_40 : (Int8.ofInt 40).toInt32 = (40 : Int32) := by decide +kernel
theorem kB_41 : (Int8.ofInt 41).toInt32 = (41 : Int32) := by decide +kernel
theorem kB_43 : (Int8.ofInt 43).toInt32 = (43 : Int32) := by decide +kernel
theorem kB_48 : (Int8.ofInt 48).toInt32 = (48 : Int32) := by decide +kernel
theorem kB_49 : (Int8.ofInt 49).toInt32 = (49 : Int32) := by decide +kernel
theorem kB_57 : (Int8.ofInt 57).toInt32 = (57 : Int32) := by decide +kernel
theorem kB_59 : (Int8.ofInt 59).toInt32 = (59 : Int32) := by decide +kernel
theorem kB_60 : (Int8.ofInt 60).toInt32 = (60 : Int32) := by decide +kernel
theorem kB_62 : (Int8.ofInt 62).toInt32 = (62 : Int32) := by decide +kernel
theorem kB_63 : (Int8.ofInt 63).toInt32 = (63 : Int32) := by decide +kernel
theorem kB_74 : (Int8.ofInt 74).toInt32 = (74 : Int32) := by decide +kernel
theorem kB_80 : (Int8.ofInt 80).toInt32 = (80 : Int32) := by decide +kernel
theorem kB_97 : (Int8.ofInt 97).toInt32 = (97 : Int32) := by decide +kernel
theorem kB_99 : (Int8.ofInt 99).toInt32 = (99 : Int32) := by decide +kernel
theorem kB_100 : (Int8.ofInt 100).toInt32 = (100 : Int32) := by decide +kernel
theorem kB_120 : (Int8.ofInt 120).toInt32 = (120 : Int32) := by decide +kernel
theorem kB_122 : (Int8.ofInt 122).toInt32 = (122 : Int32) := by decide +kernel
theorem kI_m8 : Int32.ofInt (-8) = (-8 : Int32) := by decide +kernel
theorem kI_m1 : Int32.ofInt (-1) = (-1 : Int32) := by decide +kernel
theorem kI_0 : Int32.ofInt 0 = (0 : Int32) := by decide +kernel
theorem kI_1 : Int32.ofInt 1 = (1 : Int32) := by decide +kernel
theorem kI_2 : Int32.ofInt 2 = (2 : Int32) := by decide +kernel
theorem kI_3 : Int32.ofInt 3 = (3 : Int32) := by decide +kernel
theorem kI_4 : Int32.ofInt 4 = (4 : Int32) := by decide +kernel
theorem kI_5 : Int32.ofInt 5 = (5 : Int32) := by decide +kernel
theorem kI_8 : Int32.ofInt 8 = (8 : Int32) := by decide +kernel
theorem kI_16 : Int32.ofInt 16 = (16 : Int32) := by decide +kernel
theorem kI_65536 : Int32.ofInt 65536 = (65536 : Int32) := by decide +kernel
theorem kI_1000000 : Int32.ofInt 1000000 = (1000000 : Int32) := by decide +kernel
theorem kI_252645135 : Int32.ofInt 252645135 = (252645135 : Int32) := by decide +kernel
theorem kI_858993459 : Int32.ofInt 858993459 = (858993459 : Int32) := by decide +kernel
theorem kI_1103515245 : Int32.ofInt 1103515245 = (1103515245 : Int32) := by decide +kernel
theorem kI_1431655765 : Int32.ofInt 1431655765 = (1431655765 : Int32) := by decide +kernel
theorem kI_2147483647 : Int32.ofInt 2147483647 = (2147483647 : Int32) := by decide +kernel
theorem kJ_10000 : Int64.ofInt 10000 = (10000 : Int64) := by decide +kernel
theorem kL_0 : Int64.ofNat ((0 : Fin 2) : Nat) = (0 : Int64) := by decide +kernel
theorem kL_1 : Int64.ofNat ((1 : Fin 2) : Nat) = (1 : Int64) := by decide +kernel
theorem kS_200 : (Int16.ofInt 200).toInt32 = (200 : Int32) := by decide +kernel
theorem kS_239 : (Int16.ofInt 239).toInt32 = (239 : Int32) := by decide +kernel
theorem kS_240 : (Int16.ofInt 240).toInt32 = (240 : Int32) := by decide +kernel
theorem kS_242 : (Int16.ofInt 242).toInt32 = (242 : Int32) := by decide +kernel
theorem kS_255 : (Int16.ofInt 255).toInt32 = (255 : Int32) := by decide +kernel
theorem kS_256 : (Int16.ofInt 256).toInt32 = (256 : Int32) := by decide +kernel
theorem kS_264 : (Int16.ofInt 264).toInt32 = (264 : Int32) := by decide +kernel
theorem kS_300 : (Int16.ofInt 300).toInt32 = (300 : Int32) := by decide +kernel
theorem kS_400 : (Int16.ofInt 400).toInt32 = (400 : Int32) := by decide +kernel
theorem kS_530 : (Int16.ofInt 530).toInt32 = (530 : Int32) := by decide +kernel
theorem kS_531 : (Int16.ofInt 531).toInt32 = (531 : Int32) := by decide +kernel
theorem kS_532 : (Int16.ofInt 532).toInt32 = (532 : Int32) := by decide +kernel
theorem kS_533 : (Int16.ofInt 533).toInt32 = (533 : Int32) := by decide +kernel
theorem kS_770 : (Int16.ofInt 770).toInt32 = (770 : Int32) := by decide +kernel
theorem kS_771 : (Int16.ofInt 771).toInt32 = (771 : Int32) := by decide +kernel
theorem kS_819 : (Int16.ofInt 819).toInt32 = (819 : Int32) := by decide +kernel
theorem kS_849 : (Int16.ofInt 849).toInt32 = (849 : Int32) := by decide +kernel
theorem kS_999 : (Int16.ofInt 999).toInt32 = (999 : Int32) := by decide +kernel
theorem kS_1000 : (Int16.ofInt 1000).toInt32 = (1000 : Int32) := by decide +kernel
theorem kS_1001 : (Int16.ofInt 1001).toInt32 = (1001 : Int32) := by decide +kernel
theorem kS_1002 : (Int16.ofInt 1002).toInt32 = (1002 : Int32) := by decide +kernel
theorem kS_1003 : (Int16.ofInt 1003).toInt32 = (1003 : Int32) := by decide +kernel
theorem kS_1004 : (Int16.ofInt 1004).toInt32 = (1004 : Int32) := by decide +kernel
theorem kS_1005 : (Int16.ofInt 1005).toInt32 = (1005 : Int32) := by decide +kernel
theorem kS_1006 : (Int16.ofInt 1006).toInt32 = (1006 : Int32) := by decide +kernel
theorem kS_1010 : (Int16.ofInt 1010).toInt32 = (1010 : Int32) := by decide +kernel
theorem kS_1023 : (Int16.ofInt 1023).toInt32 = (1023 : Int32) := by decide +kernel
theorem kS_1024 : (Int16.ofInt 1024).toInt32 = (1024 : Int32) := by decide +kernel
theorem kS_1619 : (Int16.ofInt 1619).toInt32 = (1619 : Int32) := by decide +kernel
theorem kS_1620 : (Int16.ofInt 1620).toInt32 = (1620 : Int32) := by decide +kernel
theorem kS_1668 : (Int16.ofInt 1668).toInt32 = (1668 : Int32) := by decide +kernel
theorem kS_2000 : (Int16.ofInt 2000).toInt32 = (2000 : Int32) := by decide +kernel
theorem kS_2001 : (Int16.ofInt 2001).toInt32 = (2001 : Int32) := by decide +kernel
theorem kS_2002 : (Int16.ofInt 2002).toInt32 = (2002 : Int32) := by decide +kernel
theorem kS_2003 : (Int16.ofInt 2003).toInt32 = (2003 : Int32) := by decide +kernel
theorem kS_2004 : (Int16.ofInt 2004).toInt32 = (2004 : Int32) := by decide +kernel
theorem kS_2005 : (Int16.ofInt 2005).toInt32 = (2005 : Int32) := by decide +kernel
theorem kS_3000 : (Int16.ofInt 3000).toInt32 = (3000 : Int32) := by decide +kernel
theorem kS_8470 : (Int16.ofInt 8470).toInt32 = (8470 : Int32) := by decide +kernel
theorem kS_9999 : (Int16.ofInt 9999).toInt32 = (9999 : Int32) := by decide +kernel
theorem kS_10000 : (Int16.ofInt 10000).toInt32 = (10000 : Int32) := by decide +kernel
theorem kS_12345 : (Int16.ofInt 12345).toInt32 = (12345 : Int32) := by decide +kernel
theorem kS_32767 : (Int16.ofInt 32767).toInt32 = (32767 : Int32) := by decide +kernel
theorem H1 : mm_hd 1 = some (0, 2, none, false, []) := rfl
theorem cal1 : mm_cal 1 0 1 (0, 2, none, false, []) := ⟨by decide +kernel, by decide +kernel, H1⟩
theorem H2 : mm_hd 2 = some (0, 4, none, false, []) := rfl
theorem cal2 : mm_cal 2 0 3 (0, 4, none, false, []) := ⟨by decide +kernel, by decide +kernel, H2⟩
theorem H3 : mm_hd 3 = some (0, 2, (some .boolean), false, []) := rfl
theorem cal3 : mm_cal 3 0 1 (0, 2, (some .boolean), false, []) := ⟨by decide +kernel, by decide +kernel, H3⟩
theorem H4 : mm_hd 4 = some (0, 2, (some .int), false, []) := rfl
theorem cal4 : mm_cal 4 0 1 (0, 2, (some .int), false, []) := ⟨by decide +kernel, by decide +kernel, H4⟩
theorem H5 : mm_hd 5 = some (0, 3, (some .boolean), false, []) := rfl
theorem cal5 : mm_cal 5 0 2 (0, 3, (some .boolean), false, []) := ⟨by decide +kernel, by decide +kernel, H5⟩
theorem H6 : mm_hd 6 = some (0, 5, (some .int), false, []) := rfl
theorem cal6 : mm_cal 6 0 1 (0, 5, (some .int), false, []) := ⟨by decide +kernel, by decide +kernel, H6⟩
theorem H7 : mm_hd 7 = some (0, 3, (some .int), false, []) := rfl
theorem cal7 : mm_cal 7 0 0 (0, 3, (some .int), false, []) := ⟨by decide +kernel, by decide +kernel, H7⟩
theorem H8 : mm_hd 8 = some (0, 3, (some .int), false, []) := rfl
theorem cal8 : mm_cal 8 0 0 (0, 3, (some .int), false, []) := ⟨by decide +kernel, by decide +kernel, H8⟩
theorem H9 : mm_hd 9 = some (0, 3, (some .int), false, []) := rfl
theorem cal9 : mm_cal 9 0 1 (0, 3, (some .int), false, []) := ⟨by decide +kernel, by decide +kernel, H9⟩
theorem H10 : mm_hd 10 = some (0, 6, (some .int), false, []) := rfl
theorem cal10 : mm_cal 10 0 0 (0, 6, (some .int), false, []) := ⟨by decide +kernel, by decide +kernel, H10⟩
theorem H11 : mm_hd 11 = some (0, 4, (some .int), false, []) := rfl
theorem cal11 : mm_cal 11 0 0 (0, 4, (some .int), false, []) := ⟨by decide +kernel, by decide +kernel, H11⟩
theorem H13 : mm_hd 13 = some (1, 2, none, false, []) := rfl
theorem cal13 : mm_cal 13 1 1 (1, 2, none, false, []) := ⟨by decide +kernel, by decide +kernel, H13⟩
theorem H14 : mm_hd 14 = some (1, 2, (some .int), false, []) := rfl
theorem cal14 : mm_cal 14 1 1 (1, 2, (some .int), false, []) := ⟨by decide +kernel, by decide +kernel, H14⟩
theorem H15 : mm_hd 15 = some (1, 5, none, false, []) := rfl
theorem cal15 : mm_cal 15 1 3 (1, 5, none, false, []) := ⟨by decide +kernel, by decide +kernel, H15⟩
theorem H19 : mm_hd 19 = some (1, 10, (some .boolean), false, []) := rfl
theorem cal19 : mm_cal 19 1 2 (1, 10, (some .boolean), false, []) := ⟨by decide +kernel, by decide +kernel, H19⟩
theorem H18 : mm_hd 18 = some (1, 3, none, false, []) := rfl
theorem cal18 : mm_cal 18 1 0 (1, 3, none, false, []) := ⟨by decide +kernel, by decide +kernel, H18⟩
theorem H17 : mm_hd 17 = some (1, 3, (some .int), false, []) := rfl
theorem cal17 : mm_cal 17 1 1 (1, 3, (some .int), false, []) := ⟨by decide +kernel, by decide +kernel, H17⟩
theorem H16 : mm_hd 16 = some (1, 5, (some .int), false, []) := rfl
theorem cal16 : mm_cal 16 1 1 (1, 5, (some .int), false, []) := ⟨by decide +kernel, by decide +kernel, H16⟩
theorem H21 : mm_hd 21 = some (2, 2, none, false, []) := rfl
theorem cal21 : mm_cal 21 2 1 (2, 2, none, false, []) := ⟨by decide +kernel, by decide +kernel, H21⟩
theorem H22 : mm_hd 22 = some (2, 1, none, false, []) := rfl
theorem cal22 : mm_cal 22 2 0 (2, 1, none, false, []) := ⟨by decide +kernel, by decide +kernel, H22⟩
theorem H23 : mm_hd 23 = some (2, 2, none, false, []) := rfl
theorem cal23 : mm_cal 23 2 1 (2, 2, none, false, []) := ⟨by decide +kernel, by decide +kernel, H23⟩
theorem H24 : mm_hd 24 = some (2, 3, none, false, []) := rfl
theorem cal24 : mm_cal 24 2 2 (2, 3, none, false, []) := ⟨by decide +kernel, by decide +kernel, H24⟩
theorem H26 : mm_hd 26 = some (2, 7, (some .boolean), false, []) := rfl
theorem cal26 : mm_cal 26 2 1 (2, 7, (some .boolean), false, []) := ⟨by decide +kernel, by decide +kernel, H26⟩
theorem H25 : mm_hd 25 = some (2, 4, (some .int), false, []) := rfl
theorem cal25 : mm_cal 25 2 1 (2, 4, (some .int), false, []) := ⟨by decide +kernel, by decide +kernel, H25⟩
theorem H102 : mm_hd 102 = some (8, 2, none, false, []) := rfl
theorem cal102 : mm_cal 102 8 1 (8, 2, none, false, []) := ⟨by decide +kernel, by decide +kernel, H102⟩
theorem H100 : mm_hd 100 = some (8, 1, none, false, []) := rfl
theorem cal100 : mm_cal 100 8 0 (8, 1, none, false, []) := ⟨by decide +kernel, by decide +kernel, H100⟩
theorem H101 : mm_hd 101 = some (8, 1, (some .boolean), false, []) := rfl
theorem cal101 : mm_cal 101 8 0 (8, 1, (some .boolean), false, []) := ⟨by decide +kernel, by decide +kernel, H101⟩
theorem H103 : mm_hd 103 = some (8, 4, (some .boolean), false, []) := rfl
theorem cal103 : mm_cal 103 8 3 (8, 4, (some .boolean), false, []) := ⟨by decide +kernel, by decide +kernel, H103⟩
theorem H105 : mm_hd 105 = some (8, 4, (some .boolean), false, []) := rfl
theorem cal105 : mm_cal 105 8 1 (8, 4, (some .boolean), false, []) := ⟨by decide +kernel, by decide +kernel, H105⟩
theorem H29 : mm_hd 29 = some (3, 1, (some .int), false, []) := rfl
theorem cal29 : mm_cal 29 3 0 (3, 1, (some .int), false, []) := ⟨by decide +kernel, by decide +kernel, H29⟩
theorem H107 : mm_hd 107 = some (8, 4, (some .int), false, []) := rfl
theorem cal107 : mm_cal 107 8 1 (8, 4, (some .int), false, []) := ⟨by decide +kernel, by decide +kernel, H107⟩
theorem H108 : mm_hd 108 = some (8, 4, (some .int), false, []) := rfl
theorem cal108 : mm_cal 108 8 1 (8, 4, (some .int), false, []) := ⟨by decide +kernel, by decide +kernel, H108⟩
theorem H32 : mm_hd 32 = some (3, 2, none, false, []) := rfl
theorem cal32 : mm_cal 32 3 1 (3, 2, none, false, []) := ⟨by decide +kernel, by decide +kernel, H32⟩
theorem H31 : mm_hd 31 = some (3, 2, none, false, []) := rfl
theorem cal31 : mm_cal 31 3 1 (3, 2, none, false, []) := ⟨by decide +kernel, by decide +kernel, H31⟩
theorem H104 : mm_hd 104 = some (8, 2, (some .boolean), false, []) := rfl
theorem cal104 : mm_cal 104 8 1 (8, 2, (some .boolean), false, []) := ⟨by decide +kernel, by decide +kernel, H104⟩
theorem H39 : mm_hd 39 = some (3, 1, (some .int), false, []) := rfl
theorem cal39 : mm_cal 39 3 0 (3, 1, (some .int), false, []) := ⟨by decide +kernel, by decide +kernel, H39⟩
theorem H40 : mm_hd 40 = some (3, 1, (some .int), false, []) := rfl
theorem cal40 : mm_cal 40 3 0 (3, 1, (some .int), false, []) := ⟨by decide +kernel, by decide +kernel, H40⟩
theorem H38 : mm_hd 38 = some (3, 3, (some .boolean), false, []) := rfl
theorem cal38 : mm_cal 38 3 0 (3, 3, (some .boolean), false, []) := ⟨by decide +kernel, by decide +kernel, H38⟩
theorem H37 : mm_hd 37 = some (3, 3, (some .boolean), false, []) := rfl
theorem cal37 : mm_cal 37 3 0 (3, 3, (some .boolean), false, []) := ⟨by decide +kernel, by decide +kernel, H37⟩
theorem H33 : mm_hd 33 = some (3, 3, (some .boolean), false, []) := rfl
theorem cal33 : mm_cal 33 3 2 (3, 3, (some .boolean), false, []) := ⟨by decide +kernel, by decide +kernel, H33⟩
theorem H35 : mm_hd 35 = some (3, 1, none, false, []) := rfl
theorem cal35 : mm_cal 35 3 0 (3, 1, none, false, []) := ⟨by decide +kernel, by decide +kernel, H35⟩
theorem H34 : mm_hd 34 = some (3, 3, none, false, []) := rfl
theorem cal34 : mm_cal 34 3 2 (3, 3, none, false, []) := ⟨by decide +kernel, by decide +kernel, H34⟩
theorem H36 : mm_hd 36 = some (3, 1, none, false, []) := rfl
theorem cal36 : mm_cal 36 3 0 (3, 1, none, false, []) := ⟨by decide +kernel, by decide +kernel, H36⟩
theorem H30 : mm_hd 30 = some (3, 3, (some .boolean), false, []) := rfl
theorem cal30 : mm_cal 30 3 0 (3, 3, (some .boolean), false, []) := ⟨by decide +kernel, by decide +kernel, H30⟩
theorem H28 : mm_hd 28 = some (3, 4, (some .boolean), false, []) := rfl
theorem cal28 : mm_cal 28 3 0 (3, 4, (some .boolean), false, []) := ⟨by decide +kernel, by decide +kernel, H28⟩
theorem H42 : mm_hd 42 = some (4, 2, none, false, []) := rfl
theorem cal42 : mm_cal 42 4 1 (4, 2, none, false, []) := ⟨by decide +kernel, by decide +kernel, H42⟩
theorem H43 : mm_hd 43 = some (4, 5, none, false, []) := rfl
theorem cal43 : mm_cal 43 4 4 (4, 5, none, false, []) := ⟨by decide +kernel, by decide +kernel, H43⟩
theorem H44 : mm_hd 44 = some (4, 3, (some .int), false, []) := rfl
theorem cal44 : mm_cal 44 4 2 (4, 3, (some .int), false, []) := ⟨by decide +kernel, by decide +kernel, H44⟩
theorem H45 : mm_hd 45 = some (4, 4, (some .boolean), false, []) := rfl
theorem cal45 : mm_cal 45 4 2 (4, 4, (some .boolean), false, []) := ⟨by decide +kernel, by decide +kernel, H45⟩
theorem H46 : mm_hd 46 = some (4, 4, (some .int), false, []) := rfl
theorem cal46 : mm_cal 46 4 1 (4, 4, (some .int), false, []) := ⟨by decide +kernel, by decide +kernel, H46⟩
theorem H47 : mm_hd 47 = some (4, 3, (some .int), false, []) := rfl
theorem cal47 : mm_cal 47 4 1 (4, 3, (some .int), false, []) := ⟨by decide +kernel, by decide +kernel, H47⟩
theorem H343 : mm_hd 343 = some (13, 1, (some .int), false, []) := rfl
theorem cal343 : mm_cal 343 13 1 (13, 1, (some .int), false, []) := ⟨by decide +kernel, by decide +kernel, H343⟩
theorem H50 : mm_hd 50 = some (5, 4, (some .boolean), false, []) := rfl
theorem cal50 : mm_cal 50 5 1 (5, 4, (some .boolean), false, []) := ⟨by decide +kernel, by decide +kernel, H50⟩
theorem H49 : mm_hd 49 = some (5, 3, (some .int), false, []) := rfl
theorem cal49 : mm_cal 49 5 0 (5, 3, (some .int), false, []) := ⟨by decide +kernel, by decide +kernel, H49⟩
theorem H54 : mm_hd 54 = some (5, 4, (some .boolean), false, []) := rfl
theorem cal54 : mm_cal 54 5 2 (5, 4, (some .boolean), false, []) := ⟨by decide +kernel, by decide +kernel, H54⟩
theorem H53 : mm_hd 53 = some (5, 5, (some .boolean), false, []) := rfl
theorem cal53 : mm_cal 53 5 4 (5, 5, (some .boolean), false, []) := ⟨by decide +kernel, by decide +kernel, H53⟩
theorem H51 : mm_hd 51 = some (5, 2, (some .int), false, []) := rfl
theorem cal51 : mm_cal 51 5 0 (5, 2, (some .int), false, []) := ⟨by decide +kernel, by decide +kernel, H51⟩
theorem H52 : mm_hd 52 = some (5, 2, (some .int), false, []) := rfl
theorem cal52 : mm_cal 52 5 1 (5, 2, (some .int), false, []) := ⟨by decide +kernel, by decide +kernel, H52⟩
theorem H56 : mm_hd 56 = some (5, 4, (some .boolean), false, []) := rfl
theorem cal56 : mm_cal 56 5 1 (5, 4, (some .boolean), false, []) := ⟨by decide +kernel, by decide +kernel, H56⟩
theorem H55 : mm_hd 55 = some (5, 3, (some .int), false, []) := rfl
theorem cal55 : mm_cal 55 5 0 (5, 3, (some .int), false, []) := ⟨by decide +kernel, by decide +kernel, H55⟩
theorem H58 : mm_hd 58 = some (5, 7, none, false, []) := rfl
theorem cal58 : mm_cal 58 5 3 (5, 7, none, false, []) := ⟨by decide +kernel, by decide +kernel, H58⟩
theorem H57 : mm_hd 57 = some (5, 3, (some .int), false, []) := rfl
theorem cal57 : mm_cal 57 5 1 (5, 3, (some .int), false, []) := ⟨by decide +kernel, by decide +kernel, H57⟩
theorem H60 : mm_hd 60 = some (5, 4, (some .int), false, []) := rfl
theorem cal60 : mm_cal 60 5 4 (5, 4, (some .int), false, []) := ⟨by decide +kernel, by decide +kernel, H60⟩
theorem H59 : mm_hd 59 = some (5, 9, (some .int), false, []) := rfl
theorem cal59 : mm_cal 59 5 2 (5, 9, (some .int), false, []) := ⟨by decide +kernel, by decide +kernel, H59⟩
theorem H61 : mm_hd 61 = some (5, 8, (some .int), false, []) := rfl
theorem cal61 : mm_cal 61 5 2 (5, 8, (some .int), false, []) := ⟨by decide +kernel, by decide +kernel, H61⟩
theorem H63 : mm_hd 63 = some (6, 2, none, false, []) := rfl
theorem cal63 : mm_cal 63 6 1 (6, 2, none, false, []) := ⟨by decide +kernel, by decide +kernel, H63⟩
theorem H64 : mm_hd 64 = some (6, 2, (some .boolean), false, []) := rfl
theorem cal64 : mm_cal 64 6 1 (6, 2, (some .boolean), false, []) := ⟨by decide +kernel, by decide +kernel, H64⟩
theorem H65 : mm_hd 65 = some (6, 2, (some .boolean), false, []) := rfl
theorem cal65 : mm_cal 65 6 1 (6, 2, (some .boolean), false, []) := ⟨by decide +kernel, by decide +kernel, H65⟩
theorem H66 : mm_hd 66 = some (6, 2, (some .boolean), false, []) := rfl
theorem cal66 : mm_cal 66 6 1 (6, 2, (some .boolean), false, []) := ⟨by decide +kernel, by decide +kernel, H66⟩
theorem H67 : mm_hd 67 = some (6, 2, (some .boolean), false, []) := rfl
theorem cal67 : mm_cal 67 6 1 (6, 2, (some .boolean), false, []) := ⟨by decide +kernel, by decide +kernel, H67⟩
theorem H68 : mm_hd 68 = some (6, 4, (some .boolean), false, []) := rfl
theorem cal68 : mm_cal 68 6 1 (6, 4, (some .boolean), false, []) := ⟨by decide +kernel, by decide +kernel, H68⟩
theorem H69 : mm_hd 69 = some (6, 2, (some .boolean), false, []) := rfl
theorem cal69 : mm_cal 69 6 1 (6, 2, (some .boolean), false, []) := ⟨by decide +kernel, by decide +kernel, H69⟩
theorem H70 : mm_hd 70 = some (6, 2, (some .int), false, []) := rfl
theorem cal70 : mm_cal 70 6 0 (6, 2, (some .int), false, []) := ⟨by decide +kernel, by decide +kernel, H70⟩
theorem H71 : mm_hd 71 = some (6, 3, (some .int), false, []) := rfl
theorem cal71 : mm_cal 71 6 1 (6, 3, (some .int), false, []) := ⟨by decide +kernel, by decide +kernel, H71⟩
theorem H72 : mm_hd 72 = some (6, 3, (some .int), false, []) := rfl
theorem cal72 : mm_cal 72 6 1 (6, 3, (some .int), false, []) := ⟨by decide +kernel, by decide +kernel, H72⟩
theorem H73 : mm_hd 73 = some (6, 4, (some .boolean), false, []) := rfl
theorem cal73 : mm_cal 73 6 2 (6, 4, (some .boolean), false, []) := ⟨by decide +kernel, by decide +kernel, H73⟩
theorem H74 : mm_hd 74 = some (6, 3, (some .int), false, []) := rfl
theorem cal74 : mm_cal 74 6 0 (6, 3, (some .int), false, []) := ⟨by decide +kernel, by decide +kernel, H74⟩
theorem H75 : mm_hd 75 = some (6, 3, (some .int), false, []) := rfl
theorem cal75 : mm_cal 75 6 0 (6, 3, (some .int), false, []) := ⟨by decide +kernel, by decide +kernel, H75⟩
theorem H76 : mm_hd 76 = some (6, 5, (some .int), false, []) := rfl
theorem cal76 : mm_cal 76 6 1 (6, 5, (some .int), false, []) := ⟨by decide +kernel, by decide +kernel, H76⟩
theorem H77 : mm_hd 77 = some (6, 3, (some .int), false, []) := rfl
theorem cal77 : mm_cal 77 6 0 (6, 3, (some .int), false, []) := ⟨by decide +kernel, by decide +kernel, H77⟩
theorem H78 : mm_hd 78 = some (6, 5, none, false, []) := rfl
theorem cal78 : mm_cal 78 6 4 (6, 5, none, false, []) := ⟨by decide +kernel, by decide +kernel, H78⟩
theorem H79 : mm_hd 79 = some (6, 3, none, false, []) := rfl
theorem cal79 : mm_cal 79 6 2 (6, 3, none, false, []) := ⟨by decide +kernel, by decide +kernel, H79⟩
theorem H80 : mm_hd 80 = some (6, 4, none, false, []) := rfl
theorem cal80 : mm_cal 80 6 1 (6, 4, none, false, []) := ⟨by decide +kernel, by decide +kernel, H80⟩
theorem H81 : mm_hd 81 = some (6, 4, none, false, []) := rfl
theorem cal81 : mm_cal 81 6 1 (6, 4, none, false, []) := ⟨by decide +kernel, by decide +kernel, H81⟩
theorem H82 : mm_hd 82 = some (6, 3, (some .boolean), false, []) := rfl
theorem cal82 : mm_cal 82 6 2 (6, 3, (some .boolean), false, []) := ⟨by decide +kernel, by decide +kernel, H82⟩
theorem H83 : mm_hd 83 = some (6, 4, none, false, []) := rfl
theorem cal83 : mm_cal 83 6 2 (6, 4, none, false, []) := ⟨by decide +kernel, by decide +kernel, H83⟩
theorem H84 : mm_hd 84 = some (6, 4, none, false, []) := rfl
theorem cal84 : mm_cal 84 6 2 (6, 4, none, false, []) := ⟨by decide +kernel, by decide +kernel, H84⟩
theorem H85 : mm_hd 85 = some (6, 5, none, false, []) := rfl
theorem cal85 : mm_cal 85 6 1 (6, 5, none, false, []) := ⟨by decide +kernel, by decide +kernel, H85⟩
theorem H88 : mm_hd 88 = some (6, 3, (some .boolean), false, []) := rfl
theorem cal88 : mm_cal 88 6 2 (6, 3, (some .boolean), false, []) := ⟨by decide +kernel, by decide +kernel, H88⟩
theorem H87 : mm_hd 87 = some (6, 6, (some .int), false, []) := rfl
theorem cal87 : mm_cal 87 6 1 (6, 6, (some .int), false, []) := ⟨by decide +kernel, by decide +kernel, H87⟩
theorem H86 : mm_hd 86 = some (6, 2, (some .int), false, []) := rfl
theorem cal86 : mm_cal 86 6 0 (6, 2, (some .int), false, []) := ⟨by decide +kernel, by decide +kernel, H86⟩
theorem H90 : mm_hd 90 = some (6, 4, (some .boolean), false, []) := rfl
theorem cal90 : mm_cal 90 6 1 (6, 4, (some .boolean), false, []) := ⟨by decide +kernel, by decide +kernel, H90⟩
theorem H89 : mm_hd 89 = some (6, 3, (some .int), false, []) := rfl
theorem cal89 : mm_cal 89 6 0 (6, 3, (some .int), false, []) := ⟨by decide +kernel, by decide +kernel, H89⟩
theorem H106 : mm_hd 106 = some (8, 1, (some .boolean), false, []) := rfl
theorem cal106 : mm_cal 106 8 0 (8, 1, (some .boolean), false, []) := ⟨by decide +kernel, by decide +kernel, H106⟩
theorem H95 : mm_hd 95 = some (7, 4, (some .int), false, []) := rfl
theorem cal95 : mm_cal 95 7 0 (7, 4, (some .int), false, []) := ⟨by decide +kernel, by decide +kernel, H95⟩
theorem H94 : mm_hd 94 = some (7, 5, (some .boolean), false, []) := rfl
theorem cal94 : mm_cal 94 7 1 (7, 5, (some .boolean), false, []) := ⟨by decide +kernel, by decide +kernel, H94⟩
theorem H96 : mm_hd 96 = some (7, 4, (some .boolean), false, []) := rfl
theorem cal96 : mm_cal 96 7 1 (7, 4, (some .boolean), false, []) := ⟨by decide +kernel, by decide +kernel, H96⟩
theorem H93 : mm_hd 93 = some (7, 3, (some .boolean), false, []) := rfl
theorem cal93 : mm_cal 93 7 1 (7, 3, (some .boolean), false, []) := ⟨by decide +kernel, by decide +kernel, H93⟩
theorem H92 : mm_hd 92 = some (7, 3, (some .boolean), false, []) := rfl
theorem cal92 : mm_cal 92 7 1 (7, 3, (some .boolean), false, []) := ⟨by decide +kernel, by decide +kernel, H92⟩
theorem H98 : mm_hd 98 = some (8, 3, none, false, []) := rfl
theorem cal98 : mm_cal 98 8 1 (8, 3, none, false, []) := ⟨by decide +kernel, by decide +kernel, H98⟩
theorem H99 : mm_hd 99 = some (8, 1, none, false, []) := rfl
theorem cal99 : mm_cal 99 8 0 (8, 1, none, false, []) := ⟨by decide +kernel, by decide +kernel, H99⟩
theorem H109 : mm_hd 109 = some (8, 2, (some .boolean), false, []) := rfl
theorem cal109 : mm_cal 109 8 0 (8, 2, (some .boolean), false, []) := ⟨by decide +kernel, by decide +kernel, H109⟩
theorem H111 : mm_hd 111 = some (9, 2, none, false, []) := rfl
theorem cal111 : mm_cal 111 9 1 (9, 2, none, false, []) := ⟨by decide +kernel, by decide +kernel, H111⟩
theorem H113 : mm_hd 113 = some (9, 1, (some .int), false, []) := rfl
theorem cal113 : mm_cal 113 9 0 (9, 1, (some .int), false, []) := ⟨by decide +kernel, by decide +kernel, H113⟩
theorem H342 : mm_hd 342 = some (13, 2, (some .int), false, []) := rfl
theorem cal342 : mm_cal 342 13 1 (13, 2, (some .int), false, []) := ⟨by decide +kernel, by decide +kernel, H342⟩
theorem H114 : mm_hd 114 = some (9, 5, (some .int), false, []) := rfl
theorem cal114 : mm_cal 114 9 1 (9, 5, (some .int), false, []) := ⟨by decide +kernel, by decide +kernel, H114⟩
theorem H115 : mm_hd 115 = some (9, 3, (some .int), false, []) := rfl
theorem cal115 : mm_cal 115 9 1 (9, 3, (some .int), false, []) := ⟨by decide +kernel, by decide +kernel, H115⟩
theorem H119 : mm_hd 119 = some (9, 4, none, false, []) := rfl
theorem cal119 : mm_cal 119 9 2 (9, 4, none, false, []) := ⟨by decide +kernel, by decide +kernel, H119⟩
theorem H124 : mm_hd 124 = some (9, 3, none, false, []) := rfl
theorem cal124 : mm_cal 124 9 1 (9, 3, none, false, []) := ⟨by decide +kernel, by decide +kernel, H124⟩
theorem H122 : mm_hd 122 = some (9, 2, (some .int), false, []) := rfl
theorem cal122 : mm_cal 122 9 1 (9, 2, (some .int), false, []) := ⟨by decide +kernel, by decide +kernel, H122⟩
theorem H121 : mm_hd 121 = some (9, 3, (some .int), false, []) := rfl
theorem cal121 : mm_cal 121 9 2 (9, 3, (some .int), false, []) := ⟨by decide +kernel, by decide +kernel, H121⟩
theorem H126 : mm_hd 126 = some (9, 6, none, false, []) := rfl
theorem cal126 : mm_cal 126 9 1 (9, 6, none, false, []) := ⟨by decide +kernel, by decide +kernel, H126⟩
theorem H125 : mm_hd 125 = some (9, 4, none, false, []) := rfl
theorem cal125 : mm_cal 125 9 0 (9, 4, none, false, []) := ⟨by decide +kernel, by decide +kernel, H125⟩
theorem H120 : mm_hd 120 = some (9, 3, none, false, []) := rfl
theorem cal120 : mm_cal 120 9 0 (9, 3, none, false, []) := ⟨by decide +kernel, by decide +kernel, H120⟩
theorem H116 : mm_hd 116 = some (9, 5, none, false, []) := rfl
theorem cal116 : mm_cal 116 9 2 (9, 5, none, false, []) := ⟨by decide +kernel, by decide +kernel, H116⟩
theorem H117 : mm_hd 117 = some (9, 3, none, false, []) := rfl
theorem cal117 : mm_cal 117 9 2 (9, 3, none, false, []) := ⟨by decide +kernel, by decide +kernel, H117⟩
theorem H123 : mm_hd 123 = some (9, 2, (some .int), false, []) := rfl
theorem cal123 : mm_cal 123 9 1 (9, 2, (some .int), false, []) := ⟨by decide +kernel, by decide +kernel, H123⟩
theorem H118 : mm_hd 118 = some (9, 6, (some .int), false, []) := rfl
theorem cal118 : mm_cal 118 9 1 (9, 6, (some .int), false, []) := ⟨by decide +kernel, by decide +kernel, H118⟩
theorem H112 : mm_hd 112 = some (9, 7, (some .int), false, []) := rfl
theorem cal112 : mm_cal 112 9 1 (9, 7, (some .int), false, []) := ⟨by decide +kernel, by decide +kernel, H112⟩
theorem H128 : mm_hd 128 = some (10, 6, (some .int), false, []) := rfl
theorem cal128 : mm_cal 128 10 5 (10, 6, (some .int), false, []) := ⟨by decide +kernel, by decide +kernel, H128⟩
theorem H129 : mm_hd 129 = some (10, 2, (some .boolean), false, []) := rfl
theorem cal129 : mm_cal 129 10 1 (10, 2, (some .boolean), false, []) := ⟨by decide +kernel, by decide +kernel, H129⟩
theorem H133 : mm_hd 133 = some (10, 2, none, false, []) := rfl
theorem cal133 : mm_cal 133 10 1 (10, 2, none, false, []) := ⟨by decide +kernel, by decide +kernel, H133⟩
theorem H178 : mm_hd 178 = some (10, 1, none, false, []) := rfl
theorem cal178 : mm_cal 178 10 0 (10, 1, none, false, []) := ⟨by decide +kernel, by decide +kernel, H178⟩
theorem H130 : mm_hd 130 = some (10, 2, (some .int), false, []) := rfl
theorem cal130 : mm_cal 130 10 0 (10, 2, (some .int), false, []) := ⟨by decide +kernel, by decide +kernel, H130⟩
theorem H131 : mm_hd 131 = some (10, 2, (some .int), false, []) := rfl
theorem cal131 : mm_cal 131 10 0 (10, 2, (some .int), false, []) := ⟨by decide +kernel, by decide +kernel, H131⟩
theorem H132 : mm_hd 132 = some (10, 1, (some .int), false, []) := rfl
theorem cal132 : mm_cal 132 10 0 (10, 1, (some .int), false, []) := ⟨by decide +kernel, by decide +kernel, H132⟩
theorem H179 : mm_hd 179 = some (10, 1, none, false, []) := rfl
theorem cal179 : mm_cal 179 10 1 (10, 1, none, false, []) := ⟨by decide +kernel, by decide +kernel, H179⟩
theorem H184 : mm_hd 184 = some (10, 2, none, false, []) := rfl
theorem cal184 : mm_cal 184 10 2 (10, 2, none, false, []) := ⟨by decide +kernel, by decide +kernel, H184⟩
theorem H134 : mm_hd 134 = some (10, 4, (some .int), false, []) := rfl
theorem cal134 : mm_cal 134 10 2 (10, 4, (some .int), false, []) := ⟨by decide +kernel, by decide +kernel, H134⟩
theorem H180 : mm_hd 180 = some (10, 1, none, false, []) := rfl
theorem cal180 : mm_cal 180 10 1 (10, 1, none, false, []) := ⟨by decide +kernel, by decide +kernel, H180⟩
theorem H135 : mm_hd 135 = some (10, 3, (some .int), false, []) := rfl
theorem cal135 : mm_cal 135 10 2 (10, 3, (some .int), false, []) := ⟨by decide +kernel, by decide +kernel, H135⟩
theorem H136 : mm_hd 136 = some (10, 3, (some .int), false, []) := rfl
theorem cal136 : mm_cal 136 10 2 (10, 3, (some .int), false, []) := ⟨by decide +kernel, by decide +kernel, H136⟩
theorem H181 : mm_hd 181 = some (10, 2, none, false, []) := rfl
theorem cal181 : mm_cal 181 10 1 (10, 2, none, false, []) := ⟨by decide +kernel, by decide +kernel, H181⟩
theorem H137 : mm_hd 137 = some (10, 4, (some .int), false, []) := rfl
theorem cal137 : mm_cal 137 10 2 (10, 4, (some .int), false, []) := ⟨by decide +kernel, by decide +kernel, H137⟩
theorem H177 : mm_hd 177 = some (10, 1, none, false, []) := rfl
theorem cal177 : mm_cal 177 10 0 (10, 1, none, false, []) := ⟨by decide +kernel, by decide +kernel, H177⟩
theorem H138 : mm_hd 138 = some (10, 2, (some .int), false, []) := rfl
theorem cal138 : mm_cal 138 10 1 (10, 2, (some .int), false, []) := ⟨by decide +kernel, by decide +kernel, H138⟩
theorem H139 : mm_hd 139 = some (10, 2, (some .int), false, []) := rfl
theorem cal139 : mm_cal 139 10 1 (10, 2, (some .int), false, []) := ⟨by decide +kernel, by decide +kernel, H139⟩
theorem H183 : mm_hd 183 = some (10, 2, none, false, []) := rfl
theorem cal183 : mm_cal 183 10 1 (10, 2, none, false, []) := ⟨by decide +kernel, by decide +kernel, H183⟩
theorem H140 : mm_hd 140 = some (10, 4, (some .int), false, []) := rfl
theorem cal140 : mm_cal 140 10 2 (10, 4, (some .int), false, []) := ⟨by decide +kernel, by decide +kernel, H140⟩
theorem H141 : mm_hd 141 = some (10, 3, (some .boolean), false, []) := rfl
theorem cal141 : mm_cal 141 10 2 (10, 3, (some .boolean), false, []) := ⟨by decide +kernel, by decide +kernel, H141⟩
theorem H142 : mm_hd 142 = some (10, 2, (some .int), false, []) := rfl
theorem cal142 : mm_cal 142 10 1 (10, 2, (some .int), false, []) := ⟨by decide +kernel, by decide +kernel, H142⟩
theorem H143 : mm_hd 143 = some (10, 3, (some .int), false, []) := rfl
theorem cal143 : mm_cal 143 10 1 (10, 3, (some .int), false, []) := ⟨by decide +kernel, by decide +kernel, H143⟩
theorem H144 : mm_hd 144 = some (10, 3, (some .int), false, []) := rfl
theorem cal144 : mm_cal 144 10 1 (10, 3, (some .int), false, []) := ⟨by decide +kernel, by decide +kernel, H144⟩
theorem H145 : mm_hd 145 = some (10, 3, (some .int), false, []) := rfl
theorem cal145 : mm_cal 145 10 1 (10, 3, (some .int), false, []) := ⟨by decide +kernel, by decide +kernel, H145⟩
theorem H146 : mm_hd 146 = some (10, 6, (some .int), false, []) := rfl
theorem cal146 : mm_cal 146 10 3 (10, 6, (some .int), false, []) := ⟨by decide +kernel, by decide +kernel, H146⟩
theorem H147 : mm_hd 147 = some (10, 3, (some .int), false, []) := rfl
theorem cal147 : mm_cal 147 10 0 (10, 3, (some .int), false, []) := ⟨by decide +kernel, by decide +kernel, H147⟩
theorem H148 : mm_hd 148 = some (10, 1, (some .int), false, []) := rfl
theorem cal148 : mm_cal 148 10 0 (10, 1, (some .int), false, []) := ⟨by decide +kernel, by decide +kernel, H148⟩
theorem H149 : mm_hd 149 = some (10, 5, (some .int), false, []) := rfl
theorem cal149 : mm_cal 149 10 2 (10, 5, (some .int), false, []) := ⟨by decide +kernel, by decide +kernel, H149⟩
theorem H150 : mm_hd 150 = some (10, 7, (some .int), false, []) := rfl
theorem cal150 : mm_cal 150 10 3 (10, 7, (some .int), false, []) := ⟨by decide +kernel, by decide +kernel, H150⟩
theorem H151 : mm_hd 151 = some (10, 2, (some .int), false, []) := rfl
theorem cal151 : mm_cal 151 10 1 (10, 2, (some .int), false, []) := ⟨by decide +kernel, by decide +kernel, H151⟩
theorem H152 : mm_hd 152 = some (10, 3, (some .int), false, []) := rfl
theorem cal152 : mm_cal 152 10 2 (10, 3, (some .int), false, []) := ⟨by decide +kernel, by decide +kernel, H152⟩
theorem H153 : mm_hd 153 = some (10, 3, (some .int), false, []) := rfl
theorem cal153 : mm_cal 153 10 2 (10, 3, (some .int), false, []) := ⟨by decide +kernel, by decide +kernel, H153⟩
theorem H182 : mm_hd 182 = some (10, 3, none, false, []) := rfl
theorem cal182 : mm_cal 182 10 2 (10, 3, none, false, []) := ⟨by decide +kernel, by decide +kernel, H182⟩
theorem H154 : mm_hd 154 = some (10, 3, (some .boolean), false, []) := rfl
theorem cal154 : mm_cal 154 10 2 (10, 3, (some .boolean), false, []) := ⟨by decide +kernel, by decide +kernel, H154⟩
theorem H155 : mm_hd 155 = some (10, 1, (some .int), false, []) := rfl
theorem cal155 : mm_cal 155 10 0 (10, 1, (some .int), false, []) := ⟨by decide +kernel, by decide +kernel, H155⟩
theorem H156 : mm_hd 156 = some (10, 1, (some .int), false, []) := rfl
theorem cal156 : mm_cal 156 10 0 (10, 1, (some .int), false, []) := ⟨by decide +kernel, by decide +kernel, H156⟩
theorem H157 : mm_hd 157 = some (10, 1, (some .int), false, []) := rfl
theorem cal157 : mm_cal 157 10 0 (10, 1, (some .int), false, []) := ⟨by decide +kernel, by decide +kernel, H157⟩
theorem H158 : mm_hd 158 = some (10, 2, (some .int), false, []) := rfl
theorem cal158 : mm_cal 158 10 1 (10, 2, (some .int), false, []) := ⟨by decide +kernel, by decide +kernel, H158⟩
theorem H159 : mm_hd 159 = some (10, 3, (some .int), false, []) := rfl
theorem cal159 : mm_cal 159 10 2 (10, 3, (some .int), false, []) := ⟨by decide +kernel, by decide +kernel, H159⟩
theorem H160 : mm_hd 160 = some (10, 3, (some .int), false, []) := rfl
theorem cal160 : mm_cal 160 10 2 (10, 3, (some .int), false, []) := ⟨by decide +kernel, by decide +kernel, H160⟩
theorem H161 : mm_hd 161 = some (10, 7, (some .int), false, []) := rfl
theorem cal161 : mm_cal 161 10 1 (10, 7, (some .int), false, []) := ⟨by decide +kernel, by decide +kernel, H161⟩
theorem H162 : mm_hd 162 = some (10, 1, (some .int), false, []) := rfl
theorem cal162 : mm_cal 162 10 0 (10, 1, (some .int), false, []) := ⟨by decide +kernel, by decide +kernel, H162⟩
theorem H163 : mm_hd 163 = some (10, 1, (some .int), false, []) := rfl
theorem cal163 : mm_cal 163 10 0 (10, 1, (some .int), false, []) := ⟨by decide +kernel, by decide +kernel, H163⟩
theorem H168 : mm_hd 168 = some (10, 5, (some .int), false, []) := rfl
theorem cal168 : mm_cal 168 10 1 (10, 5, (some .int), false, []) := ⟨by decide +kernel, by decide +kernel, H168⟩
theorem H167 : mm_hd 167 = some (10, 3, (some .int), false, []) := rfl
theorem cal167 : mm_cal 167 10 0 (10, 3, (some .int), false, []) := ⟨by decide +kernel, by decide +kernel, H167⟩
theorem H185 : mm_hd 185 = some (10, 1, none, false, []) := rfl
theorem cal185 : mm_cal 185 10 1 (10, 1, none, false, []) := ⟨by decide +kernel, by decide +kernel, H185⟩
theorem H164 : mm_hd 164 = some (10, 3, (some .int), false, []) := rfl
theorem cal164 : mm_cal 164 10 0 (10, 3, (some .int), false, []) := ⟨by decide +kernel, by decide +kernel, H164⟩
theorem H165 : mm_hd 165 = some (10, 6, (some .int), false, []) := rfl
theorem cal165 : mm_cal 165 10 0 (10, 6, (some .int), false, []) := ⟨by decide +kernel, by decide +kernel, H165⟩
theorem H166 : mm_hd 166 = some (10, 9, (some .int), false, []) := rfl
theorem cal166 : mm_cal 166 10 0 (10, 9, (some .int), false, []) := ⟨by decide +kernel, by decide +kernel, H166⟩
theorem H169 : mm_hd 169 = some (10, 1, (some .int), false, []) := rfl
theorem cal169 : mm_cal 169 10 0 (10, 1, (some .int), false, []) := ⟨by decide +kernel, by decide +kernel, H169⟩
theorem H170 : mm_hd 170 = some (10, 1, (some .int), false, []) := rfl
theorem cal170 : mm_cal 170 10 0 (10, 1, (some .int), false, []) := ⟨by decide +kernel, by decide +kernel, H170⟩
theorem H186 : mm_hd 186 = some (10, 1, none, false, []) := rfl
theorem cal186 : mm_cal 186 10 1 (10, 1, none, false, []) := ⟨by decide +kernel, by decide +kernel, H186⟩
theorem H171 : mm_hd 171 = some (10, 3, (some .int), false, []) := rfl
theorem cal171 : mm_cal 171 10 2 (10, 3, (some .int), false, []) := ⟨by decide +kernel, by decide +kernel, H171⟩
theorem H172 : mm_hd 172 = some (10, 7, (some .int), false, []) := rfl
theorem cal172 : mm_cal 172 10 2 (10, 7, (some .int), false, []) := ⟨by decide +kernel, by decide +kernel, H172⟩
theorem H173 : mm_hd 173 = some (10, 2, (some .int), false, []) := rfl
theorem cal173 : mm_cal 173 10 1 (10, 2, (some .int), false, []) := ⟨by decide +kernel, by decide +kernel, H173⟩
theorem H174 : mm_hd 174 = some (10, 1, (some .boolean), false, []) := rfl
theorem cal174 : mm_cal 174 10 0 (10, 1, (some .boolean), false, []) := ⟨by decide +kernel, by decide +kernel, H174⟩
theorem H175 : mm_hd 175 = some (10, 1, none, false, []) := rfl
theorem cal175 : mm_cal 175 10 0 (10, 1, none, false, []) := ⟨by decide +kernel, by decide +kernel, H175⟩
theorem H176 : mm_hd 176 = some (10, 1, (some .boolean), false, []) := rfl
theorem cal176 : mm_cal 176 10 0 (10, 1, (some .boolean), false, []) := ⟨by decide +kernel, by decide +kernel, H176⟩
theorem H187 : mm_hd 187 = some (11, 1, (some .int), false, []) := rfl
theorem cal187 : mm_cal 187 11 0 (11, 1, (some .int), false, []) := ⟨by decide +kernel, by decide +kernel, H187⟩
theorem H188 : mm_hd 188 = some (11, 3, (some .boolean), false, []) := rfl
theorem cal188 : mm_cal 188 11 2 (11, 3, (some .boolean), false, []) := ⟨by decide +kernel, by decide +kernel, H188⟩
theorem H189 : mm_hd 189 = some (11, 3, (some .boolean), false, []) := rfl
theorem cal189 : mm_cal 189 11 3 (11, 3, (some .boolean), false, []) := ⟨by decide +kernel, by decide +kernel, H189⟩
theorem H190 : mm_hd 190 = some (11, 2, (some .boolean), false, []) := rfl
theorem cal190 : mm_cal 190 11 2 (11, 2, (some .boolean), false, []) := ⟨by decide +kernel, by decide +kernel, H190⟩
theorem H192 : mm_hd 192 = some (11, 2, none, false, []) := rfl
theorem cal192 : mm_cal 192 11 0 (11, 2, none, false, []) := ⟨by decide +kernel, by decide +kernel, H192⟩
theorem H193 : mm_hd 193 = some (11, 2, (some .boolean), false, []) := rfl
theorem cal193 : mm_cal 193 11 0 (11, 2, (some .boolean), false, []) := ⟨by decide +kernel, by decide +kernel, H193⟩
theorem H194 : mm_hd 194 = some (11, 2, none, false, []) := rfl
theorem cal194 : mm_cal 194 11 0 (11, 2, none, false, []) := ⟨by decide +kernel, by decide +kernel, H194⟩
theorem H195 : mm_hd 195 = some (11, 2, (some .boolean), false, []) := rfl
theorem cal195 : mm_cal 195 11 0 (11, 2, (some .boolean), false, []) := ⟨by decide +kernel, by decide +kernel, H195⟩
theorem H196 : mm_hd 196 = some (11, 2, none, false, []) := rfl
theorem cal196 : mm_cal 196 11 0 (11, 2, none, false, []) := ⟨by decide +kernel, by decide +kernel, H196⟩
theorem H197 : mm_hd 197 = some (11, 2, none, false, []) := rfl
theorem cal197 : mm_cal 197 11 0 (11, 2, none, false, []) := ⟨by decide +kernel, by decide +kernel, H197⟩
theorem H198 : mm_hd 198 = some (11, 1, (some .int), false, []) := rfl
theorem cal198 : mm_cal 198 11 0 (11, 1, (some .int), false, []) := ⟨by decide +kernel, by decide +kernel, H198⟩
theorem H199 : mm_hd 199 = some (11, 2, (some .int), false, []) := rfl
theorem cal199 : mm_cal 199 11 2 (11, 2, (some .int), false, []) := ⟨by decide +kernel, by decide +kernel, H199⟩
theorem H200 : mm_hd 200 = some (11, 3, (some .int), false, []) := rfl
theorem cal200 : mm_cal 200 11 2 (11, 3, (some .int), false, []) := ⟨by decide +kernel, by decide +kernel, H200⟩
theorem H201 : mm_hd 201 = some (11, 2, (some .int), false, []) := rfl
theorem cal201 : mm_cal 201 11 2 (11, 2, (some .int), false, []) := ⟨by decide +kernel, by decide +kernel, H201⟩
theorem H202 : mm_hd 202 = some (11, 3, (some .int), false, []) := rfl
theorem cal202 : mm_cal 202 11 2 (11, 3, (some .int), false, []) := ⟨by decide +kernel, by decide +kernel, H202⟩
theorem H203 : mm_hd 203 = some (11, 2, (some .int), false, []) := rfl
theorem cal203 : mm_cal 203 11 2 (11, 2, (some .int), false, []) := ⟨by decide +kernel, by decide +kernel, H203⟩
theorem H204 : mm_hd 204 = some (11, 3, (some .int), false, []) := rfl
theorem cal204 : mm_cal 204 11 2 (11, 3, (some .int), false, []) := ⟨by decide +kernel, by decide +kernel, H204⟩
theorem H205 : mm_hd 205 = some (11, 2, (some .boolean), false, []) := rfl
theorem cal205 : mm_cal 205 11 1 (11, 2, (some .boolean), false, []) := ⟨by decide +kernel, by decide +kernel, H205⟩
theorem H206 : mm_hd 206 = some (11, 2, (some .boolean), false, []) := rfl
theorem cal206 : mm_cal 206 11 1 (11, 2, (some .boolean), false, []) := ⟨by decide +kernel, by decide +kernel, H206⟩
theorem H207 : mm_hd 207 = some (11, 2, (some .boolean), false, []) := rfl
theorem cal207 : mm_cal 207 11 1 (11, 2, (some .boolean), false, []) := ⟨by decide +kernel, by decide +kernel, H207⟩
theorem H208 : mm_hd 208 = some (11, 4, (some .int), false, []) := rfl
theorem cal208 : mm_cal 208 11 1 (11, 4, (some .int), false, []) := ⟨by decide +kernel, by decide +kernel, H208⟩
theorem H209 : mm_hd 209 = some (11, 4, (some .int), false, []) := rfl
theorem cal209 : mm_cal 209 11 1 (11, 4, (some .int), false, []) := ⟨by decide +kernel, by decide +kernel, H209⟩
theorem H210 : mm_hd 210 = some (11, 4, (some .int), false, []) := rfl
theorem cal210 : mm_cal 210 11 1 (11, 4, (some .int), false, []) := ⟨by decide +kernel, by decide +kernel, H210⟩
theorem H211 : mm_hd 211 = some (11, 4, (some .int), false, []) := rfl
theorem cal211 : mm_cal 211 11 1 (11, 4, (some .int), false, []) := ⟨by decide +kernel, by decide +kernel, H211⟩
theorem H212 : mm_hd 212 = some (11, 2, (some .int), false, []) := rfl
theorem cal212 : mm_cal 212 11 1 (11, 2, (some .int), false, []) := ⟨by decide +kernel, by decide +kernel, H212⟩
theorem H213 : mm_hd 213 = some (11, 7, (some .int), false, []) := rfl
theorem cal213 : mm_cal 213 11 5 (11, 7, (some .int), false, []) := ⟨by decide +kernel, by decide +kernel, H213⟩
theorem H214 : mm_hd 214 = some (11, 2, (some .boolean), false, []) := rfl
theorem cal214 : mm_cal 214 11 1 (11, 2, (some .boolean), false, []) := ⟨by decide +kernel, by decide +kernel, H214⟩
theorem H215 : mm_hd 215 = some (11, 3, (some .boolean), false, []) := rfl
theorem cal215 : mm_cal 215 11 2 (11, 3, (some .boolean), false, []) := ⟨by decide +kernel, by decide +kernel, H215⟩
theorem H216 : mm_hd 216 = some (11, 1, none, false, []) := rfl
theorem cal216 : mm_cal 216 11 0 (11, 1, none, false, []) := ⟨by decide +kernel, by decide +kernel, H216⟩
theorem H217 : mm_hd 217 = some (11, 1, none, false, []) := rfl
theorem cal217 : mm_cal 217 11 0 (11, 1, none, false, []) := ⟨by decide +kernel, by decide +kernel, H217⟩
theorem H218 : mm_hd 218 = some (11, 4, (some .boolean), false, []) := rfl
theorem cal218 : mm_cal 218 11 1 (11, 4, (some .boolean), false, []) := ⟨by decide +kernel, by decide +kernel, H218⟩
theorem H219 : mm_hd 219 = some (11, 2, (some .boolean), false, []) := rfl
theorem cal219 : mm_cal 219 11 1 (11, 2, (some .boolean), false, []) := ⟨by decide +kernel, by decide +kernel, H219⟩
theorem H220 : mm_hd 220 = some (11, 2, (some .boolean), false, []) := rfl
theorem cal220 : mm_cal 220 11 1 (11, 2, (some .boolean), false, []) := ⟨by decide +kernel, by decide +kernel, H220⟩
theorem H221 : mm_hd 221 = some (11, 4, (some .int), false, []) := rfl
theorem cal221 : mm_cal 221 11 2 (11, 4, (some .int), false, []) := ⟨by decide +kernel, by decide +kernel, H221⟩
theorem H222 : mm_hd 222 = some (11, 1, (some .boolean), false, []) := rfl
theorem cal222 : mm_cal 222 11 0 (11, 1, (some .boolean), false, []) := ⟨by decide +kernel, by decide +kernel, H222⟩
theorem H223 : mm_hd 223 = some (11, 1, (some .int), false, []) := rfl
theorem cal223 : mm_cal 223 11 0 (11, 1, (some .int), false, []) := ⟨by decide +kernel, by decide +kernel, H223⟩
theorem H224 : mm_hd 224 = some (11, 1, none, false, []) := rfl
theorem cal224 : mm_cal 224 11 0 (11, 1, none, false, []) := ⟨by decide +kernel, by decide +kernel, H224⟩
theorem H225 : mm_hd 225 = some (11, 5, (some .boolean), false, []) := rfl
theorem cal225 : mm_cal 225 11 3 (11, 5, (some .boolean), false, []) := ⟨by decide +kernel, by decide +kernel, H225⟩
theorem H226 : mm_hd 226 = some (11, 7, (some .int), false, []) := rfl
theorem cal226 : mm_cal 226 11 1 (11, 7, (some .int), false, []) := ⟨by decide +kernel, by decide +kernel, H226⟩
theorem H227 : mm_hd 227 = some (11, 5, (some .boolean), false, []) := rfl
theorem cal227 : mm_cal 227 11 0 (11, 5, (some .boolean), false, []) := ⟨by decide +kernel, by decide +kernel, H227⟩
theorem H228 : mm_hd 228 = some (11, 3, (some .boolean), false, []) := rfl
theorem cal228 : mm_cal 228 11 0 (11, 3, (some .boolean), false, []) := ⟨by decide +kernel, by decide +kernel, H228⟩
theorem H229 : mm_hd 229 = some (11, 1, (some .boolean), false, []) := rfl
theorem cal229 : mm_cal 229 11 0 (11, 1, (some .boolean), false, []) := ⟨by decide +kernel, by decide +kernel, H229⟩
theorem H230 : mm_hd 230 = some (11, 3, none, false, []) := rfl
theorem cal230 : mm_cal 230 11 2 (11, 3, none, false, []) := ⟨by decide +kernel, by decide +kernel, H230⟩
theorem H231 : mm_hd 231 = some (11, 1, (some .int), false, []) := rfl
theorem cal231 : mm_cal 231 11 0 (11, 1, (some .int), false, []) := ⟨by decide +kernel, by decide +kernel, H231⟩
theorem H232 : mm_hd 232 = some (11, 3, (some .boolean), false, []) := rfl
theorem cal232 : mm_cal 232 11 0 (11, 3, (some .boolean), false, []) := ⟨by decide +kernel, by decide +kernel, H232⟩
theorem H233 : mm_hd 233 = some (11, 1, (some .boolean), false, []) := rfl
theorem cal233 : mm_cal 233 11 0 (11, 1, (some .boolean), false, []) := ⟨by decide +kernel, by decide +kernel, H233⟩
theorem H234 : mm_hd 234 = some (11, 2, (some .boolean), false, []) := rfl
theorem cal234 : mm_cal 234 11 0 (11, 2, (some .boolean), false, []) := ⟨by decide +kernel, by decide +kernel, H234⟩
theorem H235 : mm_hd 235 = some (11, 2, (some .boolean), false, []) := rfl
theorem cal235 : mm_cal 235 11 0 (11, 2, (some .boolean), false, []) := ⟨by decide +kernel, by decide +kernel, H235⟩
theorem H236 : mm_hd 236 = some (11, 1, (some .boolean), false, []) := rfl
theorem cal236 : mm_cal 236 11 0 (11, 1, (some .boolean), false, []) := ⟨by decide +kernel, by decide +kernel, H236⟩
theorem H237 : mm_hd 237 = some (11, 1, (some .boolean), false, []) := rfl
theorem cal237 : mm_cal 237 11 0 (11, 1, (some .boolean), false, []) := ⟨by decide +kernel, by decide +kernel, H237⟩
theorem H238 : mm_hd 238 = some (11, 3, (some .boolean), false, []) := rfl
theorem cal238 : mm_cal 238 11 1 (11, 3, (some .boolean), false, []) := ⟨by decide +kernel, by decide +kernel, H238⟩
theorem H239 : mm_hd 239 = some (11, 3, (some .boolean), false, []) := rfl
theorem cal239 : mm_cal 239 11 2 (11, 3, (some .boolean), false, []) := ⟨by decide +kernel, by decide +kernel, H239⟩
theorem H240 : mm_hd 240 = some (11, 3, (some .int), false, []) := rfl
theorem cal240 : mm_cal 240 11 1 (11, 3, (some .int), false, []) := ⟨by decide +kernel, by decide +kernel, H240⟩
theorem H258 : mm_hd 258 = some (11, 4, (some .int), false, []) := rfl
theorem cal258 : mm_cal 258 11 1 (11, 4, (some .int), false, []) := ⟨by decide +kernel, by decide +kernel, H258⟩
theorem H249 : mm_hd 249 = some (11, 4, none, false, []) := rfl
theorem cal249 : mm_cal 249 11 2 (11, 4, none, false, []) := ⟨by decide +kernel, by decide +kernel, H249⟩
theorem H253 : mm_hd 253 = some (11, 3, none, false, []) := rfl
theorem cal253 : mm_cal 253 11 1 (11, 3, none, false, []) := ⟨by decide +kernel, by decide +kernel, H253⟩
theorem H259 : mm_hd 259 = some (11, 6, none, false, []) := rfl
theorem cal259 : mm_cal 259 11 2 (11, 6, none, false, []) := ⟨by decide +kernel, by decide +kernel, H259⟩
theorem H251 : mm_hd 251 = some (11, 4, (some .int), false, []) := rfl
theorem cal251 : mm_cal 251 11 1 (11, 4, (some .int), false, []) := ⟨by decide +kernel, by decide +kernel, H251⟩
theorem H260 : mm_hd 260 = some (11, 6, none, false, []) := rfl
theorem cal260 : mm_cal 260 11 1 (11, 6, none, false, []) := ⟨by decide +kernel, by decide +kernel, H260⟩
theorem H261 : mm_hd 261 = some (11, 4, none, false, []) := rfl
theorem cal261 : mm_cal 261 11 0 (11, 4, none, false, []) := ⟨by decide +kernel, by decide +kernel, H261⟩
theorem H241 : mm_hd 241 = some (11, 3, (some .int), false, []) := rfl
theorem cal241 : mm_cal 241 11 0 (11, 3, (some .int), false, []) := ⟨by decide +kernel, by decide +kernel, H241⟩
theorem H242 : mm_hd 242 = some (11, 3, (some .int), false, []) := rfl
theorem cal242 : mm_cal 242 11 0 (11, 3, (some .int), false, []) := ⟨by decide +kernel, by decide +kernel, H242⟩
theorem H243 : mm_hd 243 = some (11, 2, (some .boolean), false, []) := rfl
theorem cal243 : mm_cal 243 11 1 (11, 2, (some .boolean), false, []) := ⟨by decide +kernel, by decide +kernel, H243⟩
theorem H244 : mm_hd 244 = some (11, 5, (some .int), false, []) := rfl
theorem cal244 : mm_cal 244 11 3 (11, 5, (some .int), false, []) := ⟨by decide +kernel, by decide +kernel, H244⟩
theorem H245 : mm_hd 245 = some (11, 10, (some .boolean), false, []) := rfl
theorem cal245 : mm_cal 245 11 2 (11, 10, (some .boolean), false, []) := ⟨by decide +kernel, by decide +kernel, H245⟩
theorem H246 : mm_hd 246 = some (11, 5, (some .int), false, []) := rfl
theorem cal246 : mm_cal 246 11 2 (11, 5, (some .int), false, []) := ⟨by decide +kernel, by decide +kernel, H246⟩
theorem H247 : mm_hd 247 = some (11, 2, (some .int), false, []) := rfl
theorem cal247 : mm_cal 247 11 1 (11, 2, (some .int), false, []) := ⟨by decide +kernel, by decide +kernel, H247⟩
theorem H248 : mm_hd 248 = some (11, 2, (some .int), false, []) := rfl
theorem cal248 : mm_cal 248 11 1 (11, 2, (some .int), false, []) := ⟨by decide +kernel, by decide +kernel, H248⟩
theorem H250 : mm_hd 250 = some (11, 3, (some .boolean), false, []) := rfl
theorem cal250 : mm_cal 250 11 2 (11, 3, (some .boolean), false, []) := ⟨by decide +kernel, by decide +kernel, H250⟩
theorem H252 : mm_hd 252 = some (11, 4, (some .boolean), false, []) := rfl
theorem cal252 : mm_cal 252 11 1 (11, 4, (some .boolean), false, []) := ⟨by decide +kernel, by decide +kernel, H252⟩
theorem H254 : mm_hd 254 = some (11, 4, none, false, []) := rfl
theorem cal254 : mm_cal 254 11 2 (11, 4, none, false, []) := ⟨by decide +kernel, by decide +kernel, H254⟩
theorem H255 : mm_hd 255 = some (11, 6, (some .int), false, []) := rfl
theorem cal255 : mm_cal 255 11 1 (11, 6, (some .int), false, []) := ⟨by decide +kernel, by decide +kernel, H255⟩
theorem H256 : mm_hd 256 = some (11, 3, (some .int), false, []) := rfl
theorem cal256 : mm_cal 256 11 2 (11, 3, (some .int), false, []) := ⟨by decide +kernel, by decide +kernel, H256⟩
theorem H257 : mm_hd 257 = some (11, 3, none, false, []) := rfl
theorem cal257 : mm_cal 257 11 0 (11, 3, none, false, []) := ⟨by decide +kernel, by decide +kernel, H257⟩
theorem H269 : mm_hd 269 = some (11, 1, (some .int), false, []) := rfl
theorem cal269 : mm_cal 269 11 1 (11, 1, (some .int), false, []) := ⟨by decide +kernel, by decide +kernel, H269⟩
theorem H262 : mm_hd 262 = some (11, 4, (some .int), false, []) := rfl
theorem cal262 : mm_cal 262 11 1 (11, 4, (some .int), false, []) := ⟨by decide +kernel, by decide +kernel, H262⟩
theorem H263 : mm_hd 263 = some (11, 4, none, false, []) := rfl
theorem cal263 : mm_cal 263 11 2 (11, 4, none, false, []) := ⟨by decide +kernel, by decide +kernel, H263⟩
theorem H264 : mm_hd 264 = some (11, 4, (some .boolean), false, []) := rfl
theorem cal264 : mm_cal 264 11 2 (11, 4, (some .boolean), false, []) := ⟨by decide +kernel, by decide +kernel, H264⟩
theorem H265 : mm_hd 265 = some (11, 4, none, false, []) := rfl
theorem cal265 : mm_cal 265 11 2 (11, 4, none, false, []) := ⟨by decide +kernel, by decide +kernel, H265⟩
theorem H266 : mm_hd 266 = some (11, 2, (some .int), false, []) := rfl
theorem cal266 : mm_cal 266 11 1 (11, 2, (some .int), false, []) := ⟨by decide +kernel, by decide +kernel, H266⟩
theorem H267 : mm_hd 267 = some (11, 4, none, false, []) := rfl
theorem cal267 : mm_cal 267 11 1 (11, 4, none, false, []) := ⟨by decide +kernel, by decide +kernel, H267⟩
theorem H268 : mm_hd 268 = some (11, 7, (some .int), false, []) := rfl
theorem cal268 : mm_cal 268 11 1 (11, 7, (some .int), false, []) := ⟨by decide +kernel, by decide +kernel, H268⟩
theorem H270 : mm_hd 270 = some (11, 5, (some .int), false, []) := rfl
theorem cal270 : mm_cal 270 11 1 (11, 5, (some .int), false, []) := ⟨by decide +kernel, by decide +kernel, H270⟩
theorem H271 : mm_hd 271 = some (11, 4, (some .int), false, []) := rfl
theorem cal271 : mm_cal 271 11 0 (11, 4, (some .int), false, []) := ⟨by decide +kernel, by decide +kernel, H271⟩
theorem H272 : mm_hd 272 = some (11, 4, (some .int), false, []) := rfl
theorem cal272 : mm_cal 272 11 1 (11, 4, (some .int), false, []) := ⟨by decide +kernel, by decide +kernel, H272⟩
theorem H273 : mm_hd 273 = some (11, 1, (some .boolean), false, []) := rfl
theorem cal273 : mm_cal 273 11 1 (11, 1, (some .boolean), false, []) := ⟨by decide +kernel, by decide +kernel, H273⟩
theorem H274 : mm_hd 274 = some (11, 1, (some .boolean), false, []) := rfl
theorem cal274 : mm_cal 274 11 1 (11, 1, (some .boolean), false, []) := ⟨by decide +kernel, by decide +kernel, H274⟩
theorem H275 : mm_hd 275 = some (11, 2, (some .boolean), false, []) := rfl
theorem cal275 : mm_cal 275 11 1 (11, 2, (some .boolean), false, []) := ⟨by decide +kernel, by decide +kernel, H275⟩
theorem H276 : mm_hd 276 = some (11, 3, (some .int), false, []) := rfl
theorem cal276 : mm_cal 276 11 2 (11, 3, (some .int), false, []) := ⟨by decide +kernel, by decide +kernel, H276⟩
theorem H277 : mm_hd 277 = some (11, 3, (some .int), false, []) := rfl
theorem cal277 : mm_cal 277 11 2 (11, 3, (some .int), false, []) := ⟨by decide +kernel, by decide +kernel, H277⟩
theorem H278 : mm_hd 278 = some (11, 3, (some .int), false, []) := rfl
theorem cal278 : mm_cal 278 11 2 (11, 3, (some .int), false, []) := ⟨by decide +kernel, by decide +kernel, H278⟩
theorem H279 : mm_hd 279 = some (11, 3, (some .int), false, []) := rfl
theorem cal279 : mm_cal 279 11 0 (11, 3, (some .int), false, []) := ⟨by decide +kernel, by decide +kernel, H279⟩
theorem H301 : mm_hd 301 = some (11, 2, (some .int), false, []) := rfl
theorem cal301 : mm_cal 301 11 1 (11, 2, (some .int), false, []) := ⟨by decide +kernel, by decide +kernel, H301⟩
theorem H302 : mm_hd 302 = some (11, 3, (some .boolean), false, []) := rfl
theorem cal302 : mm_cal 302 11 2 (11, 3, (some .boolean), false, []) := ⟨by decide +kernel, by decide +kernel, H302⟩
theorem H307 : mm_hd 307 = some (11, 8, (some .boolean), false, []) := rfl
theorem cal307 : mm_cal 307 11 2 (11, 8, (some .boolean), false, []) := ⟨by decide +kernel, by decide +kernel, H307⟩
theorem H308 : mm_hd 308 = some (11, 4, none, false, []) := rfl
theorem cal308 : mm_cal 308 11 0 (11, 4, none, false, []) := ⟨by decide +kernel, by decide +kernel, H308⟩
theorem H280 : mm_hd 280 = some (11, 3, (some .int), false, []) := rfl
theorem cal280 : mm_cal 280 11 2 (11, 3, (some .int), false, []) := ⟨by decide +kernel, by decide +kernel, H280⟩
theorem H281 : mm_hd 281 = some (11, 2, (some .int), false, []) := rfl
theorem cal281 : mm_cal 281 11 1 (11, 2, (some .int), false, []) := ⟨by decide +kernel, by decide +kernel, H281⟩
theorem H282 : mm_hd 282 = some (11, 2, (some .int), false, []) := rfl
theorem cal282 : mm_cal 282 11 1 (11, 2, (some .int), false, []) := ⟨by decide +kernel, by decide +kernel, H282⟩
theorem H283 : mm_hd 283 = some (11, 3, (some .boolean), false, []) := rfl
theorem cal283 : mm_cal 283 11 2 (11, 3, (some .boolean), false, []) := ⟨by decide +kernel, by decide +kernel, H283⟩
theorem H284 : mm_hd 284 = some (11, 4, (some .int), false, []) := rfl
theorem cal284 : mm_cal 284 11 2 (11, 4, (some .int), false, []) := ⟨by decide +kernel, by decide +kernel, H284⟩
theorem H285 : mm_hd 285 = some (11, 3, (some .boolean), false, []) := rfl
theorem cal285 : mm_cal 285 11 2 (11, 3, (some .boolean), false, []) := ⟨by decide +kernel, by decide +kernel, H285⟩
theorem H286 : mm_hd 286 = some (11, 2, (some .boolean), false, []) := rfl
theorem cal286 : mm_cal 286 11 1 (11, 2, (some .boolean), false, []) := ⟨by decide +kernel, by decide +kernel, H286⟩
theorem H287 : mm_hd 287 = some (11, 2, (some .int), false, []) := rfl
theorem cal287 : mm_cal 287 11 1 (11, 2, (some .int), false, []) := ⟨by decide +kernel, by decide +kernel, H287⟩
theorem H288 : mm_hd 288 = some (11, 3, (some .int), false, []) := rfl
theorem cal288 : mm_cal 288 11 1 (11, 3, (some .int), false, []) := ⟨by decide +kernel, by decide +kernel, H288⟩
theorem H289 : mm_hd 289 = some (11, 3, (some .int), false, []) := rfl
theorem cal289 : mm_cal 289 11 1 (11, 3, (some .int), false, []) := ⟨by decide +kernel, by decide +kernel, H289⟩
theorem H290 : mm_hd 290 = some (11, 4, (some .int), false, []) := rfl
theorem cal290 : mm_cal 290 11 3 (11, 4, (some .int), false, []) := ⟨by decide +kernel, by decide +kernel, H290⟩
theorem H291 : mm_hd 291 = some (11, 3, (some .int), false, []) := rfl
theorem cal291 : mm_cal 291 11 0 (11, 3, (some .int), false, []) := ⟨by decide +kernel, by decide +kernel, H291⟩
theorem H292 : mm_hd 292 = some (11, 4, (some .boolean), false, []) := rfl
theorem cal292 : mm_cal 292 11 1 (11, 4, (some .boolean), false, []) := ⟨by decide +kernel, by decide +kernel, H292⟩
theorem H293 : mm_hd 293 = some (11, 4, (some .int), false, []) := rfl
theorem cal293 : mm_cal 293 11 0 (11, 4, (some .int), false, []) := ⟨by decide +kernel, by decide +kernel, H293⟩
theorem H294 : mm_hd 294 = some (11, 3, (some .int), false, []) := rfl
theorem cal294 : mm_cal 294 11 2 (11, 3, (some .int), false, []) := ⟨by decide +kernel, by decide +kernel, H294⟩
theorem H295 : mm_hd 295 = some (11, 3, (some .int), false, []) := rfl
theorem cal295 : mm_cal 295 11 2 (11, 3, (some .int), false, []) := ⟨by decide +kernel, by decide +kernel, H295⟩
theorem H296 : mm_hd 296 = some (11, 4, (some .int), false, []) := rfl
theorem cal296 : mm_cal 296 11 3 (11, 4, (some .int), false, []) := ⟨by decide +kernel, by decide +kernel, H296⟩
theorem H297 : mm_hd 297 = some (11, 4, (some .int), false, []) := rfl
theorem cal297 : mm_cal 297 11 3 (11, 4, (some .int), false, []) := ⟨by decide +kernel, by decide +kernel, H297⟩
theorem H298 : mm_hd 298 = some (11, 9, (some .boolean), false, []) := rfl
theorem cal298 : mm_cal 298 11 2 (11, 9, (some .boolean), false, []) := ⟨by decide +kernel, by decide +kernel, H298⟩
theorem H299 : mm_hd 299 = some (11, 6, (some .int), false, []) := rfl
theorem cal299 : mm_cal 299 11 1 (11, 6, (some .int), false, []) := ⟨by decide +kernel, by decide +kernel, H299⟩
theorem H300 : mm_hd 300 = some (11, 5, (some .int), false, []) := rfl
theorem cal300 : mm_cal 300 11 1 (11, 5, (some .int), false, []) := ⟨by decide +kernel, by decide +kernel, H300⟩
theorem H303 : mm_hd 303 = some (11, 3, (some .boolean), false, []) := rfl
theorem cal303 : mm_cal 303 11 2 (11, 3, (some .boolean), false, []) := ⟨by decide +kernel, by decide +kernel, H303⟩
theorem H304 : mm_hd 304 = some (11, 3, (some .boolean), false, []) := rfl
theorem cal304 : mm_cal 304 11 2 (11, 3, (some .boolean), false, []) := ⟨by decide +kernel, by decide +kernel, H304⟩
theorem H305 : mm_hd 305 = some (11, 5, (some .boolean), false, []) := rfl
theorem cal305 : mm_cal 305 11 1 (11, 5, (some .boolean), false, []) := ⟨by decide +kernel, by decide +kernel, H305⟩
theorem H306 : mm_hd 306 = some (11, 3, (some .int), false, []) := rfl
theorem cal306 : mm_cal 306 11 0 (11, 3, (some .int), false, []) := ⟨by decide +kernel, by decide +kernel, H306⟩
theorem H309 : mm_hd 309 = some (11, 1, (some .int), false, []) := rfl
theorem cal309 : mm_cal 309 11 0 (11, 1, (some .int), false, []) := ⟨by decide +kernel, by decide +kernel, H309⟩
theorem H310 : mm_hd 310 = some (11, 4, (some .boolean), false, []) := rfl
theorem cal310 : mm_cal 310 11 1 (11, 4, (some .boolean), false, []) := ⟨by decide +kernel, by decide +kernel, H310⟩
theorem H311 : mm_hd 311 = some (11, 3, (some .int), false, []) := rfl
theorem cal311 : mm_cal 311 11 0 (11, 3, (some .int), false, []) := ⟨by decide +kernel, by decide +kernel, H311⟩
theorem H312 : mm_hd 312 = some (11, 3, (some .boolean), false, []) := rfl
theorem cal312 : mm_cal 312 11 0 (11, 3, (some .boolean), false, []) := ⟨by decide +kernel, by decide +kernel, H312⟩
theorem H313 : mm_hd 313 = some (11, 3, (some .int), false, []) := rfl
theorem cal313 : mm_cal 313 11 2 (11, 3, (some .int), false, []) := ⟨by decide +kernel, by decide +kernel, H313⟩
theorem H314 : mm_hd 314 = some (11, 4, (some .int), false, []) := rfl
theorem cal314 : mm_cal 314 11 1 (11, 4, (some .int), false, []) := ⟨by decide +kernel, by decide +kernel, H314⟩
theorem H315 : mm_hd 315 = some (11, 4, (some .int), false, []) := rfl
theorem cal315 : mm_cal 315 11 1 (11, 4, (some .int), false, []) := ⟨by decide +kernel, by decide +kernel, H315⟩
theorem H316 : mm_hd 316 = some (11, 1, (some .int), false, []) := rfl
theorem cal316 : mm_cal 316 11 0 (11, 1, (some .int), false, []) := ⟨by decide +kernel, by decide +kernel, H316⟩
theorem H317 : mm_hd 317 = some (11, 2, (some .int), false, []) := rfl
theorem cal317 : mm_cal 317 11 0 (11, 2, (some .int), false, []) := ⟨by decide +kernel, by decide +kernel, H317⟩
theorem H318 : mm_hd 318 = some (11, 8, (some .int), false, []) := rfl
theorem cal318 : mm_cal 318 11 0 (11, 8, (some .int), false, []) := ⟨by decide +kernel, by decide +kernel, H318⟩
theorem H319 : mm_hd 319 = some (11, 5, (some .int), false, []) := rfl
theorem cal319 : mm_cal 319 11 2 (11, 5, (some .int), false, []) := ⟨by decide +kernel, by decide +kernel, H319⟩
theorem H320 : mm_hd 320 = some (11, 4, none, false, []) := rfl
theorem cal320 : mm_cal 320 11 0 (11, 4, none, false, []) := ⟨by decide +kernel, by decide +kernel, H320⟩
theorem H321 : mm_hd 321 = some (11, 7, (some .int), false, []) := rfl
theorem cal321 : mm_cal 321 11 1 (11, 7, (some .int), false, []) := ⟨by decide +kernel, by decide +kernel, H321⟩
theorem H322 : mm_hd 322 = some (11, 5, (some .int), false, []) := rfl
theorem cal322 : mm_cal 322 11 4 (11, 5, (some .int), false, []) := ⟨by decide +kernel, by decide +kernel, H322⟩
theorem H323 : mm_hd 323 = some (11, 6, (some .int), false, []) := rfl
theorem cal323 : mm_cal 323 11 2 (11, 6, (some .int), false, []) := ⟨by decide +kernel, by decide +kernel, H323⟩
theorem H324 : mm_hd 324 = some (11, 8, (some .int), false, []) := rfl
theorem cal324 : mm_cal 324 11 2 (11, 8, (some .int), false, []) := ⟨by decide +kernel, by decide +kernel, H324⟩
theorem H325 : mm_hd 325 = some (11, 3, (some .int), false, []) := rfl
theorem cal325 : mm_cal 325 11 2 (11, 3, (some .int), false, []) := ⟨by decide +kernel, by decide +kernel, H325⟩
theorem H326 : mm_hd 326 = some (11, 4, (some .int), false, []) := rfl
theorem cal326 : mm_cal 326 11 1 (11, 4, (some .int), false, []) := ⟨by decide +kernel, by decide +kernel, H326⟩
theorem H327 : mm_hd 327 = some (11, 1, (some .int), false, []) := rfl
theorem cal327 : mm_cal 327 11 0 (11, 1, (some .int), false, []) := ⟨by decide +kernel, by decide +kernel, H327⟩
theorem H328 : mm_hd 328 = some (11, 1, (some .int), false, []) := rfl
theorem cal328 : mm_cal 328 11 0 (11, 1, (some .int), false, []) := ⟨by decide +kernel, by decide +kernel, H328⟩
theorem H329 : mm_hd 329 = some (11, 4, (some .int), false, []) := rfl
theorem cal329 : mm_cal 329 11 1 (11, 4, (some .int), false, []) := ⟨by decide +kernel, by decide +kernel, H329⟩
theorem H330 : mm_hd 330 = some (11, 3, (some .int), false, []) := rfl
theorem cal330 : mm_cal 330 11 0 (11, 3, (some .int), false, []) := ⟨by decide +kernel, by decide +kernel, H330⟩
theorem H331 : mm_hd 331 = some (11, 4, (some .int), false, []) := rfl
theorem cal331 : mm_cal 331 11 0 (11, 4, (some .int), false, []) := ⟨by decide +kernel, by decide +kernel, H331⟩
theorem H332 : mm_hd 332 = some (11, 1, (some .boolean), false, []) := rfl
theorem cal332 : mm_cal 332 11 1 (11, 1, (some .boolean), false, []) := ⟨by decide +kernel, by decide +kernel, H332⟩
theorem H333 : mm_hd 333 = some (11, 4, (some .int), false, []) := rfl
theorem cal333 : mm_cal 333 11 2 (11, 4, (some .int), false, []) := ⟨by decide +kernel, by decide +kernel, H333⟩
theorem H334 : mm_hd 334 = some (11, 6, (some .int), false, []) := rfl
theorem cal334 : mm_cal 334 11 2 (11, 6, (some .int), false, []) := ⟨by decide +kernel, by decide +kernel, H334⟩
theorem H335 : mm_hd 335 = some (11, 3, (some .int), false, []) := rfl
theorem cal335 : mm_cal 335 11 2 (11, 3, (some .int), false, []) := ⟨by decide +kernel, by decide +kernel, H335⟩
theorem H336 : mm_hd 336 = some (11, 6, (some .int), false, []) := rfl
theorem cal336 : mm_cal 336 11 2 (11, 6, (some .int), false, []) := ⟨by decide +kernel, by decide +kernel, H336⟩
theorem H337 : mm_hd 337 = some (11, 3, (some .int), false, []) := rfl
theorem cal337 : mm_cal 337 11 2 (11, 3, (some .int), false, []) := ⟨by decide +kernel, by decide +kernel, H337⟩
theorem H338 : mm_hd 338 = some (11, 3, (some .int), false, []) := rfl
theorem cal338 : mm_cal 338 11 1 (11, 3, (some .int), false, []) := ⟨by decide +kernel, by decide +kernel, H338⟩
theorem H339 : mm_hd 339 = some (11, 3, (some .int), false, []) := rfl
theorem cal339 : mm_cal 339 11 0 (11, 3, (some .int), false, []) := ⟨by decide +kernel, by decide +kernel, H339⟩
theorem H340 : mm_hd 340 = some (11, 3, (some .int), false, []) := rfl
theorem cal340 : mm_cal 340 11 0 (11, 3, (some .int), false, []) := ⟨by decide +kernel, by decide +kernel, H340⟩
theorem H341 : mm_hd 341 = some (11, 2, (some .int), false, []) := rfl
theorem cal341 : mm_cal 341 11 1 (11, 2, (some .int), false, []) := ⟨by decide +kernel, by decide +kernel, H341⟩
theorem H344 : mm_hd 344 = some (12, 3, (some .int), false, [(0, 11, 1), (1, 14, 2)]) := rfl
theorem cal344 : mm_cal 344 12 2 (12, 3, (some .int), false, [(0, 11, 1), (1, 14, 2)]) := ⟨by decide +kernel, by decide +kernel, H344⟩
theorem H345 : mm_hd 345 = some (12, 3, (some .int), false, [(0, 11, 1)]) := rfl
theorem cal345 : mm_cal 345 12 2 (12, 3, (some .int), false, [(0, 11, 1)]) := ⟨by decide +kernel, by decide +kernel, H345⟩
theorem H346 : mm_hd 346 = some (12, 5, (some .int), false, [(2, 13, 1), (3, 17, 2)]) := rfl
theorem cal346 : mm_cal 346 12 4 (12, 5, (some .int), false, [(2, 13, 1), (3, 17, 2)]) := ⟨by decide +kernel, by decide +kernel, H346⟩
theorem H347 : mm_hd 347 = some (12, 5, (some .int), false, [(2, 13, 1)]) := rfl
theorem cal347 : mm_cal 347 12 4 (12, 5, (some .int), false, [(2, 13, 1)]) := ⟨by decide +kernel, by decide +kernel, H347⟩
theorem H348 : mm_hd 348 = some (12, 5, (some .int), false, [(2, 13, 1), (3, 17, 2)]) := rfl
theorem cal348 : mm_cal 348 12 4 (12, 5, (some .int), false, [(2, 13, 1), (3, 17, 2)]) := ⟨by decide +kernel, by decide +kernel, H348⟩
theorem H349 : mm_hd 349 = some (12, 5, (some .int), false, [(2, 13, 1), (3, 17, 2)]) := rfl
theorem cal349 : mm_cal 349 12 4 (12, 5, (some .int), false, [(2, 13, 1), (3, 17, 2)]) := ⟨by decide +kernel, by decide +kernel, H349⟩
theorem H350 : mm_hd 350 = some (12, 4, (some .int), false, [(0, 12, 1)]) := rfl
theorem cal350 : mm_cal 350 12 3 (12, 4, (some .int), false, [(0, 12, 1)]) := ⟨by decide +kernel, by decide +kernel, H350⟩
theorem H351 : mm_hd 351 = some (12, 4, (some .int), false, [(2, 12, 1), (4, 15, 2)]) := rfl
theorem cal351 : mm_cal 351 12 3 (12, 4, (some .int), false, [(2, 12, 1), (4, 15, 2)]) := ⟨by decide +kernel, by decide +kernel, H351⟩
theorem H352 : mm_hd 352 = some (12, 5, (some .int), false, [(2, 13, 1), (4, 17, 2)]) := rfl
theorem cal352 : mm_cal 352 12 4 (12, 5, (some .int), false, [(2, 13, 1), (4, 17, 2)]) := ⟨by decide +kernel, by decide +kernel, H352⟩
theorem H353 : mm_hd 353 = some (12, 5, (some .int), false, [(2, 20, 1), (4, 24, 2)]) := rfl
theorem cal353 : mm_cal 353 12 4 (12, 5, (some .int), false, [(2, 20, 1), (4, 24, 2)]) := ⟨by decide +kernel, by decide +kernel, H353⟩
theorem H354 : mm_hd 354 = some (12, 4, (some .int), false, [(2, 12, 1), (4, 15, 2)]) := rfl
theorem cal354 : mm_cal 354 12 3 (12, 4, (some .int), false, [(2, 12, 1), (4, 15, 2)]) := ⟨by decide +kernel, by decide +kernel, H354⟩
theorem H355 : mm_hd 355 = some (12, 4, (some .int), false, [(2, 12, 1), (4, 15, 2)]) := rfl
theorem cal355 : mm_cal 355 12 3 (12, 4, (some .int), false, [(2, 12, 1), (4, 15, 2)]) := ⟨by decide +kernel, by decide +kernel, H355⟩
theorem H356 : mm_hd 356 = some (12, 4, (some .int), false, [(0, 12, 1)]) := rfl
theorem cal356 : mm_cal 356 12 3 (12, 4, (some .int), false, [(0, 12, 1)]) := ⟨by decide +kernel, by decide +kernel, H356⟩
theorem H357 : mm_hd 357 = some (12, 6, (some .int), false, [(2, 15, 1), (0, 19, 2), (4, 23, 3)]) := rfl
theorem cal357 : mm_cal 357 12 5 (12, 6, (some .int), false, [(2, 15, 1), (0, 19, 2), (4, 23, 3)]) := ⟨by decide +kernel, by decide +kernel, H357⟩
theorem H358 : mm_hd 358 = some (12, 5, (some .int), false, [(3, 13, 1)]) := rfl
theorem cal358 : mm_cal 358 12 4 (12, 5, (some .int), false, [(3, 13, 1)]) := ⟨by decide +kernel, by decide +kernel, H358⟩
theorem H359 : mm_hd 359 = some (12, 6, (some .int), false, [(2, 15, 1)]) := rfl
theorem cal359 : mm_cal 359 12 5 (12, 6, (some .int), false, [(2, 15, 1)]) := ⟨by decide +kernel, by decide +kernel, H359⟩
theorem H360 : mm_hd 360 = some (12, 5, (some .int), false, [(2, 20, 1), (0, 24, 2)]) := rfl
theorem cal360 : mm_cal 360 12 4 (12, 5, (some .int), false, [(2, 20, 1), (0, 24, 2)]) := ⟨by decide +kernel, by decide +kernel, H360⟩
theorem H361 : mm_hd 361 = some (12, 3, (some .int), false, [(0, 11, 1)]) := rfl
theorem cal361 : mm_cal 361 12 2 (12, 3, (some .int), false, [(0, 11, 1)]) := ⟨by decide +kernel, by decide +kernel, H361⟩
theorem H362 : mm_hd 362 = some (12, 3, (some .int), false, [(0, 11, 1)]) := rfl
theorem cal362 : mm_cal 362 12 2 (12, 3, (some .int), false, [(0, 11, 1)]) := ⟨by decide +kernel, by decide +kernel, H362⟩
theorem H363 : mm_hd 363 = some (12, 3, (some .int), false, [(0, 11, 1)]) := rfl
theorem cal363 : mm_cal 363 12 2 (12, 3, (some .int), false, [(0, 11, 1)]) := ⟨by decide +kernel, by decide +kernel, H363⟩
theorem H364 : mm_hd 364 = some (12, 4, (some .int), false, [(2, 12, 1)]) := rfl
theorem cal364 : mm_cal 364 12 3 (12, 4, (some .int), false, [(2, 12, 1)]) := ⟨by decide +kernel, by decide +kernel, H364⟩
theorem H365 : mm_hd 365 = some (12, 5, (some .int), false, [(2, 13, 1), (0, 17, 2)]) := rfl
theorem cal365 : mm_cal 365 12 4 (12, 5, (some .int), false, [(2, 13, 1), (0, 17, 2)]) := ⟨by decide +kernel, by decide +kernel, H365⟩
theorem H366 : mm_hd 366 = some (12, 5, (some .int), false, [(0, 13, 1)]) := rfl
theorem cal366 : mm_cal 366 12 4 (12, 5, (some .int), false, [(0, 13, 1)]) := ⟨by decide +kernel, by decide +kernel, H366⟩
theorem H367 : mm_hd 367 = some (12, 4, (some .int), false, [(3, 12, 1)]) := rfl
theorem cal367 : mm_cal 367 12 3 (12, 4, (some .int), false, [(3, 12, 1)]) := ⟨by decide +kernel, by decide +kernel, H367⟩
theorem H368 : mm_hd 368 = some (12, 5, (some .int), false, [(0, 13, 1)]) := rfl
theorem cal368 : mm_cal 368 12 4 (12, 5, (some .int), false, [(0, 13, 1)]) := ⟨by decide +kernel, by decide +kernel, H368⟩
theorem H369 : mm_hd 369 = some (12, 5, (some .int), false, [(0, 13, 1)]) := rfl
theorem cal369 : mm_cal 369 12 4 (12, 5, (some .int), false, [(0, 13, 1)]) := ⟨by decide +kernel, by decide +kernel, H369⟩
theorem H370 : mm_hd 370 = some (12, 5, (some .int), false, [(2, 13, 1)]) := rfl
theorem cal370 : mm_cal 370 12 4 (12, 5, (some .int), false, [(2, 13, 1)]) := ⟨by decide +kernel, by decide +kernel, H370⟩
theorem H371 : mm_hd 371 = some (12, 5, (some .int), false, [(3, 13, 1)]) := rfl
theorem cal371 : mm_cal 371 12 4 (12, 5, (some .int), false, [(3, 13, 1)]) := ⟨by decide +kernel, by decide +kernel, H371⟩
