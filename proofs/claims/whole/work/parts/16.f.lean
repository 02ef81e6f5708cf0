/-! THE STATE AT THE LOOP'S HEAD -/
def zk (a : Nat) : Nat := if a = 0 then 1 else if a = 3 ∨ a = 10 ∨ a = 18 then 2 else if a = 512 then 3 else if a = 513 then 4 else if A9.contains a = true then 5 else 0
def zf : Nat → Nat → Int32
  | 1 => fun k => if k = 13 then -nI 1 else nI 0
  | 2 => fun k => if k = 0 then -nI 1 else nI 0
  | 3 => fun k => if k = 14 then -nI 1 else nI 0
  | 4 => f513
  | 5 => fun k => if k = 10 then nI 3 else if k = 12 then nI 1 else nI 0
  | _ => fun _ => 0
def s0 : mS := (fun a => zf (zk a), fun _ _ => 0, true, 525, 30654)
theorem mm_cell_k {a z : Nat} {sh : mShp} (h1 : mm_sh a = sh) (h2 : zk a = z) : mm_cell s0 a = mm_cellS sh (zf z) (fun _ => 0) := by
  subst h1; subst h2; rfl
theorem zk_W : ∀ a ∈ A9, zk a = 5 := by decide +kernel
theorem zk_w : ∀ a ∈ A9, ∀ i, i < 32 → 0 < i → zk (a + i) = 0 := by decide +kernel
theorem e_0 : mm_cell s0 0 = oC 10 [.ref 1, .ref 3, .ref 10, .ref 17, .ref 26, .ref 58, .ref 90, .ref 122, .ref 123, .ref 127, .int (nI 0), .int (nI 0), .int (nI 0), .int (-nI 1)] := (mm_cell_k (sh := .inr (10, [some 1, some 3, some 10, some 17, some 26, some 58, some 90, some 122, some 123, some 127, none, none, none, none])) (z := 1) (by decide +kernel) (by decide +kernel)).trans rfl
theorem e_1 : mm_cell s0 1 = oC 8 [.ref 2, .int (nI 0), .int (nI 0)] := (mm_cell_k (sh := .inr (8, [some 2, none, none])) (z := 0) (by decide +kernel) (by decide +kernel)).trans rfl
theorem e_2 : mm_cell s0 2 = ZA 400 := (mm_cell_k (sh := .inl (0, 400)) (z := 0) (by decide +kernel) (by decide +kernel)).trans rfl
theorem e_3 : mm_cell s0 3 = oC 2 [.int (-nI 1), .int (nI 0), .ref 4, .ref 5, .ref 6, .ref 7, .ref 8, .ref 9] := (mm_cell_k (sh := .inr (2, [none, none, some 4, some 5, some 6, some 7, some 8, some 9])) (z := 2) (by decide +kernel) (by decide +kernel)).trans rfl
theorem e_4 : mm_cell s0 4 = ZA 12 := (mm_cell_k (sh := .inl (0, 12)) (z := 0) (by decide +kernel) (by decide +kernel)).trans rfl
theorem e_5 : mm_cell s0 5 = ZA 12 := (mm_cell_k (sh := .inl (0, 12)) (z := 0) (by decide +kernel) (by decide +kernel)).trans rfl
theorem e_6 : mm_cell s0 6 = ZA 12 := (mm_cell_k (sh := .inl (0, 12)) (z := 0) (by decide +kernel) (by decide +kernel)).trans rfl
theorem e_7 : mm_cell s0 7 = ZA 400 := (mm_cell_k (sh := .inl (0, 400)) (z := 0) (by decide +kernel) (by decide +kernel)).trans rfl
theorem e_8 : mm_cell s0 8 = ZA 10 := (mm_cell_k (sh := .inl (0, 10)) (z := 0) (by decide +kernel) (by decide +kernel)).trans rfl
theorem e_9 : mm_cell s0 9 = ZA 40 := (mm_cell_k (sh := .inl (0, 40)) (z := 0) (by decide +kernel) (by decide +kernel)).trans rfl
theorem e_10 : mm_cell s0 10 = oC 2 [.int (-nI 1), .int (nI 0), .ref 11, .ref 12, .ref 13, .ref 14, .ref 15, .ref 16] := (mm_cell_k (sh := .inr (2, [none, none, some 11, some 12, some 13, some 14, some 15, some 16])) (z := 2) (by decide +kernel) (by decide +kernel)).trans rfl
theorem e_11 : mm_cell s0 11 = ZA 12 := (mm_cell_k (sh := .inl (0, 12)) (z := 0) (by decide +kernel) (by decide +kernel)).trans rfl
theorem e_12 : mm_cell s0 12 = ZA 12 := (mm_cell_k (sh := .inl (0, 12)) (z := 0) (by decide +kernel) (by decide +kernel)).trans rfl
theorem e_13 : mm_cell s0 13 = ZA 12 := (mm_cell_k (sh := .inl (0, 12)) (z := 0) (by decide +kernel) (by decide +kernel)).trans rfl
theorem e_14 : mm_cell s0 14 = ZA 400 := (mm_cell_k (sh := .inl (0, 400)) (z := 0) (by decide +kernel) (by decide +kernel)).trans rfl
theorem e_15 : mm_cell s0 15 = ZA 10 := (mm_cell_k (sh := .inl (0, 10)) (z := 0) (by decide +kernel) (by decide +kernel)).trans rfl
theorem e_16 : mm_cell s0 16 = ZA 40 := (mm_cell_k (sh := .inl (0, 40)) (z := 0) (by decide +kernel) (by decide +kernel)).trans rfl
theorem e_17 : mm_cell s0 17 = oC 3 [.ref 18, .ref 1, .ref 25, .int (nI 0), .int (nI 0)] := (mm_cell_k (sh := .inr (3, [some 18, some 1, some 25, none, none])) (z := 0) (by decide +kernel) (by decide +kernel)).trans rfl
theorem e_18 : mm_cell s0 18 = oC 2 [.int (-nI 1), .int (nI 0), .ref 19, .ref 20, .ref 21, .ref 22, .ref 23, .ref 24] := (mm_cell_k (sh := .inr (2, [none, none, some 19, some 20, some 21, some 22, some 23, some 24])) (z := 2) (by decide +kernel) (by decide +kernel)).trans rfl
theorem e_19 : mm_cell s0 19 = ZA 12 := (mm_cell_k (sh := .inl (0, 12)) (z := 0) (by decide +kernel) (by decide +kernel)).trans rfl
theorem e_20 : mm_cell s0 20 = ZA 12 := (mm_cell_k (sh := .inl (0, 12)) (z := 0) (by decide +kernel) (by decide +kernel)).trans rfl
theorem e_21 : mm_cell s0 21 = ZA 12 := (mm_cell_k (sh := .inl (0, 12)) (z := 0) (by decide +kernel) (by decide +kernel)).trans rfl
theorem e_22 : mm_cell s0 22 = ZA 400 := (mm_cell_k (sh := .inl (0, 400)) (z := 0) (by decide +kernel) (by decide +kernel)).trans rfl
theorem e_23 : mm_cell s0 23 = ZA 10 := (mm_cell_k (sh := .inl (0, 10)) (z := 0) (by decide +kernel) (by decide +kernel)).trans rfl
theorem e_24 : mm_cell s0 24 = ZA 40 := (mm_cell_k (sh := .inl (0, 40)) (z := 0) (by decide +kernel) (by decide +kernel)).trans rfl
theorem e_25 : mm_cell s0 25 = ZA 24 := (mm_cell_k (sh := .inl (0, 24)) (z := 0) (by decide +kernel) (by decide +kernel)).trans rfl
theorem e_122 : mm_cell s0 122 = oC 7 [.ref 1] := (mm_cell_k (sh := .inr (7, [some 1])) (z := 0) (by decide +kernel) (by decide +kernel)).trans rfl
theorem e_123 : mm_cell s0 123 = oC 5 [.ref 27, .ref 124, .ref 125, .ref 126, .int (nI 0)] := (mm_cell_k (sh := .inr (5, [some 27, some 124, some 125, some 126, none])) (z := 0) (by decide +kernel) (by decide +kernel)).trans rfl
theorem e_124 : mm_cell s0 124 = ZA 5 := (mm_cell_k (sh := .inl (0, 5)) (z := 0) (by decide +kernel) (by decide +kernel)).trans rfl
theorem e_125 : mm_cell s0 125 = ZA 5 := (mm_cell_k (sh := .inl (0, 5)) (z := 0) (by decide +kernel) (by decide +kernel)).trans rfl
theorem e_126 : mm_cell s0 126 = ZA 5 := (mm_cell_k (sh := .inl (0, 5)) (z := 0) (by decide +kernel) (by decide +kernel)).trans rfl
theorem e_127 : mm_cell s0 127 = oA (fA 12) := (mm_cell_k (sh := .inl (3, 12)) (z := 0) (by decide +kernel) (by decide +kernel)).trans rfl
theorem e_512 : mm_cell s0 512 = oC 11 [.int (nI 0), .ref 513, .ref 514, .ref 515, .ref 516, .ref 517, .int (nI 0), .int (nI 0), .ref 518, .int (nI 0), .int (nI 0), .int (nI 0), .int (nI 0), .int (nI 0), .int (-nI 1), .ref 519, .int (nI 0), .ref 520, .int (nI 0), .ref 521, .int (nI 0), .ref 522, .ref 523] := (mm_cell_k (sh := .inr (11, [none, some 513, some 514, some 515, some 516, some 517, none, none, some 518, none, none, none, none, none, none, some 519, none, some 520, none, some 521, none, some 522, some 523])) (z := 3) (by decide +kernel) (by decide +kernel)).trans rfl
theorem e_513 : mm_cell s0 513 = .inl (0, 2468, .inl f513) := (mm_cell_k (sh := .inl (0, 2468)) (z := 4) (by decide +kernel) (by decide +kernel)).trans rfl
theorem e_514 : mm_cell s0 514 = ZA 1619 := (mm_cell_k (sh := .inl (0, 1619)) (z := 0) (by decide +kernel) (by decide +kernel)).trans rfl
theorem e_515 : mm_cell s0 515 = ZA 1619 := (mm_cell_k (sh := .inl (0, 1619)) (z := 0) (by decide +kernel) (by decide +kernel)).trans rfl
theorem e_516 : mm_cell s0 516 = ZA 770 := (mm_cell_k (sh := .inl (0, 770)) (z := 0) (by decide +kernel) (by decide +kernel)).trans rfl
theorem e_517 : mm_cell s0 517 = ZA 9240 := (mm_cell_k (sh := .inl (0, 9240)) (z := 0) (by decide +kernel) (by decide +kernel)).trans rfl
theorem e_518 : mm_cell s0 518 = .inl (1, 400, .inl (fun _ => 0)) := (mm_cell_k (sh := .inl (1, 400)) (z := 0) (by decide +kernel) (by decide +kernel)).trans rfl
theorem e_519 : mm_cell s0 519 = ZA 5 := (mm_cell_k (sh := .inl (0, 5)) (z := 0) (by decide +kernel) (by decide +kernel)).trans rfl
theorem e_520 : mm_cell s0 520 = ZA 400 := (mm_cell_k (sh := .inl (0, 400)) (z := 0) (by decide +kernel) (by decide +kernel)).trans rfl
theorem e_521 : mm_cell s0 521 = ZA 5 := (mm_cell_k (sh := .inl (0, 5)) (z := 0) (by decide +kernel) (by decide +kernel)).trans rfl
theorem e_522 : mm_cell s0 522 = ZA 32 := (mm_cell_k (sh := .inl (0, 32)) (z := 0) (by decide +kernel) (by decide +kernel)).trans rfl
theorem e_523 : mm_cell s0 523 = .inl (2, 6, .inr (.inl (fun _ => 0))) := (mm_cell_k (sh := .inl (2, 6)) (z := 0) (by decide +kernel) (by decide +kernel)).trans rfl
theorem e_524 : mm_cell s0 524 = .inl (2, 1, .inr (.inl (fun _ => 0))) := (mm_cell_k (sh := .inl (2, 1)) (z := 0) (by decide +kernel) (by decide +kernel)).trans rfl
theorem w_0 {a : Nat} (h : a ∈ A9) : mm_cell s0 (a) = oC 9 [.ref 3, .ref (a + 1), .ref (a + 6), .ref (a + 18), .ref (a + 26), .ref (a + 28), .ref (a + 29), .ref (a + 30), .ref (a + 31), .int (nI 0), .int (nI 3), .int (nI 0), .int (nI 1), .int (nI 0)] := (mm_cell_k (sh := .inr (9, [some 3, some (a + 1), some (a + 6), some (a + 18), some (a + 26), some (a + 28), some (a + 29), some (a + 30), some (a + 31), none, none, none, none, none])) (z := 5) ((by decide +kernel : ∀ a ∈ A9, mm_sh (a) = .inr (9, [some 3, some (a + 1), some (a + 6), some (a + 18), some (a + 26), some (a + 28), some (a + 29), some (a + 30), some (a + 31), none, none, none, none, none])) a h) (zk_W a h)).trans rfl
theorem w_1 {a : Nat} (h : a ∈ A9) : mm_cell s0 (a + 1) = oC 0 [.int (nI 0), .int (nI 0), .ref (a + 2), .ref (a + 3), .ref (a + 4), .ref (a + 5)] := (mm_cell_k (sh := .inr (0, [none, none, some (a + 2), some (a + 3), some (a + 4), some (a + 5)])) (z := 0) ((by decide +kernel : ∀ a ∈ A9, mm_sh (a + 1) = .inr (0, [none, none, some (a + 2), some (a + 3), some (a + 4), some (a + 5)])) a h) (zk_w a h 1 (by decide) (by decide))).trans rfl
theorem w_2 {a : Nat} (h : a ∈ A9) : mm_cell s0 (a + 2) = ZA 5 := (mm_cell_k (sh := .inl (0, 5)) (z := 0) ((by decide +kernel : ∀ a ∈ A9, mm_sh (a + 2) = .inl (0, 5)) a h) (zk_w a h 2 (by decide) (by decide))).trans rfl
theorem w_3 {a : Nat} (h : a ∈ A9) : mm_cell s0 (a + 3) = ZA 5 := (mm_cell_k (sh := .inl (0, 5)) (z := 0) ((by decide +kernel : ∀ a ∈ A9, mm_sh (a + 3) = .inl (0, 5)) a h) (zk_w a h 3 (by decide) (by decide))).trans rfl
theorem w_4 {a : Nat} (h : a ∈ A9) : mm_cell s0 (a + 4) = ZA 5 := (mm_cell_k (sh := .inl (0, 5)) (z := 0) ((by decide +kernel : ∀ a ∈ A9, mm_sh (a + 4) = .inl (0, 5)) a h) (zk_w a h 4 (by decide) (by decide))).trans rfl
theorem w_5 {a : Nat} (h : a ∈ A9) : mm_cell s0 (a + 5) = ZA 5 := (mm_cell_k (sh := .inl (0, 5)) (z := 0) ((by decide +kernel : ∀ a ∈ A9, mm_sh (a + 5) = .inl (0, 5)) a h) (zk_w a h 5 (by decide) (by decide))).trans rfl
theorem w_6 {a : Nat} (h : a ∈ A9) : mm_cell s0 (a + 6) = oC 6 [.int (nI 0), .int (nI 0), .int (nI 0), .int (nI 0), .ref (a + 7), .ref (a + 8), .ref (a + 9), .ref (a + 10), .ref (a + 11), .ref (a + 12), .ref (a + 13), .ref (a + 14), .ref (a + 15), .ref (a + 16), .ref (a + 17)] := (mm_cell_k (sh := .inr (6, [none, none, none, none, some (a + 7), some (a + 8), some (a + 9), some (a + 10), some (a + 11), some (a + 12), some (a + 13), some (a + 14), some (a + 15), some (a + 16), some (a + 17)])) (z := 0) ((by decide +kernel : ∀ a ∈ A9, mm_sh (a + 6) = .inr (6, [none, none, none, none, some (a + 7), some (a + 8), some (a + 9), some (a + 10), some (a + 11), some (a + 12), some (a + 13), some (a + 14), some (a + 15), some (a + 16), some (a + 17)])) a h) (zk_w a h 6 (by decide) (by decide))).trans rfl
theorem w_7 {a : Nat} (h : a ∈ A9) : mm_cell s0 (a + 7) = ZA 8 := (mm_cell_k (sh := .inl (0, 8)) (z := 0) ((by decide +kernel : ∀ a ∈ A9, mm_sh (a + 7) = .inl (0, 8)) a h) (zk_w a h 7 (by decide) (by decide))).trans rfl
theorem w_8 {a : Nat} (h : a ∈ A9) : mm_cell s0 (a + 8) = ZA 8 := (mm_cell_k (sh := .inl (0, 8)) (z := 0) ((by decide +kernel : ∀ a ∈ A9, mm_sh (a + 8) = .inl (0, 8)) a h) (zk_w a h 8 (by decide) (by decide))).trans rfl
theorem w_9 {a : Nat} (h : a ∈ A9) : mm_cell s0 (a + 9) = ZA 8 := (mm_cell_k (sh := .inl (0, 8)) (z := 0) ((by decide +kernel : ∀ a ∈ A9, mm_sh (a + 9) = .inl (0, 8)) a h) (zk_w a h 9 (by decide) (by decide))).trans rfl
theorem w_10 {a : Nat} (h : a ∈ A9) : mm_cell s0 (a + 10) = ZA 8 := (mm_cell_k (sh := .inl (0, 8)) (z := 0) ((by decide +kernel : ∀ a ∈ A9, mm_sh (a + 10) = .inl (0, 8)) a h) (zk_w a h 10 (by decide) (by decide))).trans rfl
theorem w_11 {a : Nat} (h : a ∈ A9) : mm_cell s0 (a + 11) = ZA 8 := (mm_cell_k (sh := .inl (0, 8)) (z := 0) ((by decide +kernel : ∀ a ∈ A9, mm_sh (a + 11) = .inl (0, 8)) a h) (zk_w a h 11 (by decide) (by decide))).trans rfl
theorem w_12 {a : Nat} (h : a ∈ A9) : mm_cell s0 (a + 12) = ZA 8 := (mm_cell_k (sh := .inl (0, 8)) (z := 0) ((by decide +kernel : ∀ a ∈ A9, mm_sh (a + 12) = .inl (0, 8)) a h) (zk_w a h 12 (by decide) (by decide))).trans rfl
theorem w_13 {a : Nat} (h : a ∈ A9) : mm_cell s0 (a + 13) = ZA 8 := (mm_cell_k (sh := .inl (0, 8)) (z := 0) ((by decide +kernel : ∀ a ∈ A9, mm_sh (a + 13) = .inl (0, 8)) a h) (zk_w a h 13 (by decide) (by decide))).trans rfl
theorem w_14 {a : Nat} (h : a ∈ A9) : mm_cell s0 (a + 14) = ZA 8 := (mm_cell_k (sh := .inl (0, 8)) (z := 0) ((by decide +kernel : ∀ a ∈ A9, mm_sh (a + 14) = .inl (0, 8)) a h) (zk_w a h 14 (by decide) (by decide))).trans rfl
theorem w_15 {a : Nat} (h : a ∈ A9) : mm_cell s0 (a + 15) = ZA 8 := (mm_cell_k (sh := .inl (0, 8)) (z := 0) ((by decide +kernel : ∀ a ∈ A9, mm_sh (a + 15) = .inl (0, 8)) a h) (zk_w a h 15 (by decide) (by decide))).trans rfl
theorem w_16 {a : Nat} (h : a ∈ A9) : mm_cell s0 (a + 16) = ZA 8 := (mm_cell_k (sh := .inl (0, 8)) (z := 0) ((by decide +kernel : ∀ a ∈ A9, mm_sh (a + 16) = .inl (0, 8)) a h) (zk_w a h 16 (by decide) (by decide))).trans rfl
theorem w_17 {a : Nat} (h : a ∈ A9) : mm_cell s0 (a + 17) = ZA 80 := (mm_cell_k (sh := .inl (0, 80)) (z := 0) ((by decide +kernel : ∀ a ∈ A9, mm_sh (a + 17) = .inl (0, 80)) a h) (zk_w a h 17 (by decide) (by decide))).trans rfl
theorem w_18 {a : Nat} (h : a ∈ A9) : mm_cell s0 (a + 18) = oC 1 [.int (nI 0), .int (nI 0), .ref (a + 19), .ref (a + 20), .ref (a + 21), .ref (a + 22), .ref (a + 23), .ref (a + 24), .ref (a + 25)] := (mm_cell_k (sh := .inr (1, [none, none, some (a + 19), some (a + 20), some (a + 21), some (a + 22), some (a + 23), some (a + 24), some (a + 25)])) (z := 0) ((by decide +kernel : ∀ a ∈ A9, mm_sh (a + 18) = .inr (1, [none, none, some (a + 19), some (a + 20), some (a + 21), some (a + 22), some (a + 23), some (a + 24), some (a + 25)])) a h) (zk_w a h 18 (by decide) (by decide))).trans rfl
theorem w_19 {a : Nat} (h : a ∈ A9) : mm_cell s0 (a + 19) = ZA 12 := (mm_cell_k (sh := .inl (0, 12)) (z := 0) ((by decide +kernel : ∀ a ∈ A9, mm_sh (a + 19) = .inl (0, 12)) a h) (zk_w a h 19 (by decide) (by decide))).trans rfl
theorem w_20 {a : Nat} (h : a ∈ A9) : mm_cell s0 (a + 20) = ZA 12 := (mm_cell_k (sh := .inl (0, 12)) (z := 0) ((by decide +kernel : ∀ a ∈ A9, mm_sh (a + 20) = .inl (0, 12)) a h) (zk_w a h 20 (by decide) (by decide))).trans rfl
theorem w_21 {a : Nat} (h : a ∈ A9) : mm_cell s0 (a + 21) = ZA 12 := (mm_cell_k (sh := .inl (0, 12)) (z := 0) ((by decide +kernel : ∀ a ∈ A9, mm_sh (a + 21) = .inl (0, 12)) a h) (zk_w a h 21 (by decide) (by decide))).trans rfl
theorem w_22 {a : Nat} (h : a ∈ A9) : mm_cell s0 (a + 22) = ZA 12 := (mm_cell_k (sh := .inl (0, 12)) (z := 0) ((by decide +kernel : ∀ a ∈ A9, mm_sh (a + 22) = .inl (0, 12)) a h) (zk_w a h 22 (by decide) (by decide))).trans rfl
theorem w_23 {a : Nat} (h : a ∈ A9) : mm_cell s0 (a + 23) = ZA 120 := (mm_cell_k (sh := .inl (0, 120)) (z := 0) ((by decide +kernel : ∀ a ∈ A9, mm_sh (a + 23) = .inl (0, 120)) a h) (zk_w a h 23 (by decide) (by decide))).trans rfl
theorem w_24 {a : Nat} (h : a ∈ A9) : mm_cell s0 (a + 24) = ZA 120 := (mm_cell_k (sh := .inl (0, 120)) (z := 0) ((by decide +kernel : ∀ a ∈ A9, mm_sh (a + 24) = .inl (0, 120)) a h) (zk_w a h 24 (by decide) (by decide))).trans rfl
theorem w_25 {a : Nat} (h : a ∈ A9) : mm_cell s0 (a + 25) = ZA 12 := (mm_cell_k (sh := .inl (0, 12)) (z := 0) ((by decide +kernel : ∀ a ∈ A9, mm_sh (a + 25) = .inl (0, 12)) a h) (zk_w a h 25 (by decide) (by decide))).trans rfl
theorem w_26 {a : Nat} (h : a ∈ A9) : mm_cell s0 (a + 26) = oC 4 [.int (nI 0), .int (nI 0), .ref (a + 27)] := (mm_cell_k (sh := .inr (4, [none, none, some (a + 27)])) (z := 0) ((by decide +kernel : ∀ a ∈ A9, mm_sh (a + 26) = .inr (4, [none, none, some (a + 27)])) a h) (zk_w a h 26 (by decide) (by decide))).trans rfl
theorem w_27 {a : Nat} (h : a ∈ A9) : mm_cell s0 (a + 27) = ZA 240 := (mm_cell_k (sh := .inl (0, 240)) (z := 0) ((by decide +kernel : ∀ a ∈ A9, mm_sh (a + 27) = .inl (0, 240)) a h) (zk_w a h 27 (by decide) (by decide))).trans rfl
theorem w_28 {a : Nat} (h : a ∈ A9) : mm_cell s0 (a + 28) = ZA 10 := (mm_cell_k (sh := .inl (0, 10)) (z := 0) ((by decide +kernel : ∀ a ∈ A9, mm_sh (a + 28) = .inl (0, 10)) a h) (zk_w a h 28 (by decide) (by decide))).trans rfl
theorem w_29 {a : Nat} (h : a ∈ A9) : mm_cell s0 (a + 29) = ZA 10 := (mm_cell_k (sh := .inl (0, 10)) (z := 0) ((by decide +kernel : ∀ a ∈ A9, mm_sh (a + 29) = .inl (0, 10)) a h) (zk_w a h 29 (by decide) (by decide))).trans rfl
theorem w_30 {a : Nat} (h : a ∈ A9) : mm_cell s0 (a + 30) = ZA 10 := (mm_cell_k (sh := .inl (0, 10)) (z := 0) ((by decide +kernel : ∀ a ∈ A9, mm_sh (a + 30) = .inl (0, 10)) a h) (zk_w a h 30 (by decide) (by decide))).trans rfl
theorem w_31 {a : Nat} (h : a ∈ A9) : mm_cell s0 (a + 31) = ZA 10 := (mm_cell_k (sh := .inl (0, 10)) (z := 0) ((by decide +kernel : ∀ a ∈ A9, mm_sh (a + 31) = .inl (0, 10)) a h) (zk_w a h 31 (by decide) (by decide))).trans rfl
theorem wch {a : Nat} (h : a ∈ A9) : (List.range' a 32).map (mm_cell s0) = W110 a 3 := by
  show [mm_cell s0 a, mm_cell s0 (a + 1), mm_cell s0 (a + 2), mm_cell s0 (a + 3), mm_cell s0 (a + 4), mm_cell s0 (a + 5), mm_cell s0 (a + 6), mm_cell s0 (a + 7), mm_cell s0 (a + 8), mm_cell s0 (a + 9), mm_cell s0 (a + 10), mm_cell s0 (a + 11), mm_cell s0 (a + 12), mm_cell s0 (a + 13), mm_cell s0 (a + 14), mm_cell s0 (a + 15), mm_cell s0 (a + 16), mm_cell s0 (a + 17), mm_cell s0 (a + 18), mm_cell s0 (a + 19), mm_cell s0 (a + 20), mm_cell s0 (a + 21), mm_cell s0 (a + 22), mm_cell s0 (a + 23), mm_cell s0 (a + 24), mm_cell s0 (a + 25), mm_cell s0 (a + 26), mm_cell s0 (a + 27), mm_cell s0 (a + 28), mm_cell s0 (a + 29), mm_cell s0 (a + 30), mm_cell s0 (a + 31)] = _
  rw [w_0 h, w_1 h, w_2 h, w_3 h, w_4 h, w_5 h, w_6 h, w_7 h, w_8 h, w_9 h, w_10 h, w_11 h, w_12 h, w_13 h, w_14 h, w_15 h, w_16 h, w_17 h, w_18 h, w_19 h, w_20 h, w_21 h, w_22 h, w_23 h, w_24 h, w_25 h, w_26 h, w_27 h, w_28 h, w_29 h, w_30 h, w_31 h]
  rfl
theorem ch0 : (List.range' 0 26).map (mm_cell s0) = oC 10 gF :: (W97 1 ++ (W20 3 ++ (W20 10 ++ W27 17 1))) := by
  show [mm_cell s0 0, mm_cell s0 1, mm_cell s0 2, mm_cell s0 3, mm_cell s0 4, mm_cell s0 5, mm_cell s0 6, mm_cell s0 7, mm_cell s0 8, mm_cell s0 9, mm_cell s0 10, mm_cell s0 11, mm_cell s0 12, mm_cell s0 13, mm_cell s0 14, mm_cell s0 15, mm_cell s0 16, mm_cell s0 17, mm_cell s0 18, mm_cell s0 19, mm_cell s0 20, mm_cell s0 21, mm_cell s0 22, mm_cell s0 23, mm_cell s0 24, mm_cell s0 25] = _
  rw [e_0, e_1, e_2, e_3, e_4, e_5, e_6, e_7, e_8, e_9, e_10, e_11, e_12, e_13, e_14, e_15, e_16, e_17, e_18, e_19, e_20, e_21, e_22, e_23, e_24, e_25]
  rfl
theorem ch122 : (List.range' 122 6).map (mm_cell s0) = W91 122 1 ++ (W48 123 27 ++ [oA (fA 12)]) := by
  show [mm_cell s0 122, mm_cell s0 123, mm_cell s0 124, mm_cell s0 125, mm_cell s0 126, mm_cell s0 127] = _
  rw [e_122, e_123, e_124, e_125, e_126, e_127]
  rfl
theorem ch512 : (List.range' 512 13).map (mm_cell s0) = W191 512 f513 ++ [.inl (2, 1, .inr (.inl (fun _ => 0)))] := by
  show [mm_cell s0 512, mm_cell s0 513, mm_cell s0 514, mm_cell s0 515, mm_cell s0 516, mm_cell s0 517, mm_cell s0 518, mm_cell s0 519, mm_cell s0 520, mm_cell s0 521, mm_cell s0 522, mm_cell s0 523, mm_cell s0 524] = _
  rw [e_512, e_513, e_514, e_515, e_516, e_517, e_518, e_519, e_520, e_521, e_522, e_523, e_524]
  rfl
theorem rng : List.range 525 = List.range' 0 26 ++ (List.range' 26 32 ++ (List.range' 58 32 ++ (List.range' 90 32 ++ (List.range' 122 6 ++ (List.range' 128 32 ++ (List.range' 160 32 ++ (List.range' 192 32 ++ (List.range' 224 32 ++ (List.range' 256 32 ++ (List.range' 288 32 ++ (List.range' 320 32 ++ (List.range' 352 32 ++ (List.range' 384 32 ++ (List.range' 416 32 ++ (List.range' 448 32 ++ (List.range' 480 32 ++ (List.range' 512 13))))))))))))))))) := by decide +kernel
theorem wT12 : wT 12 = W110 128 3 ++ (W110 160 3 ++ (W110 192 3 ++ (W110 224 3 ++ (W110 256 3 ++ (W110 288 3 ++ (W110 320 3 ++ (W110 352 3 ++ (W110 384 3 ++ (W110 416 3 ++ (W110 448 3 ++ (W110 480 3))))))))))) := by
  rw [wT_s, wT_s, wT_s, wT_s, wT_s, wT_s, wT_s, wT_s, wT_s, wT_s, wT_s, wT_s]
  simp only [List.append_assoc, show wT 0 = [] from rfl, List.nil_append, Nat.reduceMul, Nat.reduceAdd]
theorem hS_e : hS = hpL s0 := by
  unfold hpL
  rw [rng]
  simp only [List.map_append]
  rw [ch0, ch122, ch512, wch (a := 26) (by decide), wch (a := 58) (by decide), wch (a := 90) (by decide), wch (a := 128) (by decide), wch (a := 160) (by decide), wch (a := 192) (by decide), wch (a := 224) (by decide), wch (a := 256) (by decide), wch (a := 288) (by decide), wch (a := 320) (by decide), wch (a := 352) (by decide), wch (a := 384) (by decide), wch (a := 416) (by decide), wch (a := 448) (by decide), wch (a := 480) (by decide)]
  unfold hS hT gP gT
  rw [wT12]
  simp only [List.append_assoc, List.nil_append, List.cons_append]
