/-! TABLES OF THE MINI MACHINE, laid by wip/whole/gen_tabs.py: class numbers 0..11 as in vwCl, 12 the law, 13 Integer, 14 Math -/
def mm_cn : Nat → String := fun k => match k with
  | 0 => RX0
  | 1 => RX1
  | 2 => RX2
  | 3 => RX3
  | 4 => RX4
  | 5 => RX5
  | 6 => RX6
  | 7 => RX7
  | 8 => RX8
  | 9 => RX9
  | 10 => RX10
  | 11 => RX11
  | 12 => RL
  | 13 => RJ6
  | _ => RJ9
def mm_TT : Nat → u_T := fun k => match k with
  | 0 => TX0
  | 1 => TX1
  | 2 => TX2
  | 3 => TX3
  | 4 => TX4
  | 5 => TX5
  | 6 => TX6
  | 7 => TX7
  | 8 => TX8
  | 9 => TX9
  | 10 => TX10
  | _ => TX11
def mm_ty : Nat → Nat → FieldType := fun k => match k with
  | 0 => tyX0
  | 1 => tyX1
  | 2 => tyX2
  | 3 => tyX3
  | 4 => tyX4
  | 5 => tyX5
  | 6 => tyX6
  | 7 => tyX7
  | 8 => tyX8
  | 9 => tyX9
  | 10 => tyX10
  | _ => tyX11
def mm_nf : Nat → Nat := fun k => match k with
  | 0 => 6
  | 1 => 9
  | 2 => 8
  | 3 => 5
  | 4 => 3
  | 5 => 5
  | 6 => 15
  | 7 => 1
  | 8 => 3
  | 9 => 14
  | 10 => 14
  | _ => 23
def mm_fin (ci k : Nat) : Bool := (mm_TT ci k).2.2.2
def mm_defv (ci : Nat) : List Value := (List.range (mm_nf ci)).map (fun k => defaultValue (mm_ty ci k))
def mm_txl : List (List Int32) := [[99, 108, 105, 101, 110, 116], [114, 101, 97, 100, 115], [119, 114, 105, 116, 101, 115], [111, 110, 108, 121], [118, 101, 114, 115, 105, 111, 110], [107, 101, 101, 112], [112, 117, 114, 115, 101], [116, 104, 101, 32, 116, 101, 120, 116, 32, 105, 115, 32, 119, 114, 111, 110, 103], [116, 104, 101, 114, 101, 32, 97, 114, 101, 32, 49, 50, 32, 116, 101, 120, 116, 115], [98, 108, 97, 109, 101], [115, 112, 97, 114, 101], [112, 97, 121], [105, 102], [110, 111, 116], [112, 105, 118, 111, 116], [114, 101, 116, 114, 105, 101, 100], [115, 108, 111, 116], [97, 103, 101], [114, 101, 116, 114, 105, 101, 115], [115, 116, 97, 109, 112], [97, 110, 100], [111, 114], [110, 111, 32, 115, 117, 99, 104, 32, 115, 108, 111, 116], [110, 111, 32, 115, 117, 99, 104, 32, 119, 104, 97, 116], [110, 111, 32, 115, 117, 99, 104, 32, 107, 101, 121], [110, 111, 32, 115, 117, 99, 104, 32, 99, 108, 105, 101, 110, 116], [49, 32, 116, 111, 32, 54, 48, 32, 116, 105, 99, 107, 115], [105, 116, 32, 114, 117, 110, 115, 44, 32, 111, 114, 32, 110, 111, 32, 115, 108, 111, 116, 32, 105, 115, 32, 102, 114, 101, 101], [116, 104, 101, 32, 115, 108, 111, 116, 32, 105, 115, 32, 110, 111, 116, 32, 114, 117, 110, 110, 105, 110, 103], [105, 116, 32, 111, 110, 108, 121, 32, 114, 101, 97, 100, 115, 44, 32, 111, 114, 32, 119, 97, 105, 116, 115], [48, 32, 116, 111, 32, 54, 32, 97, 114, 101, 32, 107, 101, 112, 116], [48, 32, 114, 101, 97, 100, 44, 32, 49, 32, 119, 114, 105, 116, 101, 44, 32, 50, 32, 99, 111, 109, 109, 105, 116], [98, 111, 116, 104, 32, 97, 114, 101, 32, 111, 110, 101, 32, 99, 108, 105, 101, 110, 116], [116, 104, 101, 32, 116, 97, 112, 101, 32, 100, 111, 101, 115, 32, 110, 111, 116, 32, 116, 101, 108, 108, 32, 114, 111, 119, 115], [48, 32, 116, 111, 32, 53], [48, 32, 116, 111, 32, 54, 48, 32, 116, 105, 99, 107, 115]]
def mm_txt (k : Nat) : List Int32 := mm_txl.getD k []
abbrev mm_M : Type := MethodName × ByteArray × Nat × Option FieldType × Nat × Bool × List (Nat × Nat × Nat × Nat) × List (Nat × Nat × Int) × List mm_I
/-- fields: (index, class, place) -/
def mm_flw (o : Nat) (q : Nat × Nat × Nat) : Jvm.Cond := .fieldLink (mm_cn o) q.1 (mm_TT q.2.1 q.2.2).1 (mm_TT q.2.1 q.2.2).2.1 (mm_TT q.2.1 q.2.2).2.2.1
def mm_fl0 : List (Nat × Nat × Nat) := [(9, 0, 0), (15, 0, 1), (18, 0, 2), (22, 0, 3), (25, 0, 4), (28, 0, 5)]
theorem mm_fl0_ok : ∀ q ∈ mm_fl0, mm_flw 0 q ∈ lw_tbl := List.forall_mem_cons.mpr ⟨List.mem_of_getElem? (i := 267) (by decide +kernel), List.forall_mem_cons.mpr ⟨List.mem_of_getElem? (i := 272) (by decide +kernel), List.forall_mem_cons.mpr ⟨List.mem_of_getElem? (i := 273) (by decide +kernel), List.forall_mem_cons.mpr ⟨List.mem_of_getElem? (i := 276) (by decide +kernel), List.forall_mem_cons.mpr ⟨List.mem_of_getElem? (i := 279) (by decide +kernel), List.forall_mem_cons.mpr ⟨List.mem_of_getElem? (i := 283) (by decide +kernel), List.forall_mem_nil _⟩⟩⟩⟩⟩⟩
def mm_fl1 : List (Nat × Nat × Nat) := [(9, 1, 0), (15, 1, 1), (18, 1, 2), (22, 1, 3), (25, 1, 4), (28, 1, 5), (31, 1, 6), (34, 1, 7), (37, 1, 8), (50, 6, 4), (53, 6, 6), (54, 6, 7), (57, 6, 9), (60, 6, 14)]
theorem mm_fl1_ok : ∀ q ∈ mm_fl1, mm_flw 1 q ∈ lw_tbl := List.forall_mem_cons.mpr ⟨List.mem_of_getElem? (i := 385) (by decide +kernel), List.forall_mem_cons.mpr ⟨List.mem_of_getElem? (i := 387) (by decide +kernel), List.forall_mem_cons.mpr ⟨List.mem_of_getElem? (i := 388) (by decide +kernel), List.forall_mem_cons.mpr ⟨List.mem_of_getElem? (i := 390) (by decide +kernel), List.forall_mem_cons.mpr ⟨List.mem_of_getElem? (i := 392) (by decide +kernel), List.forall_mem_cons.mpr ⟨List.mem_of_getElem? (i := 394) (by decide +kernel), List.forall_mem_cons.mpr ⟨List.mem_of_getElem? (i := 396) (by decide +kernel), List.forall_mem_cons.mpr ⟨List.mem_of_getElem? (i := 398) (by decide +kernel), List.forall_mem_cons.mpr ⟨List.mem_of_getElem? (i := 400) (by decide +kernel), List.forall_mem_cons.mpr ⟨List.mem_of_getElem? (i := 313) (by decide +kernel), List.forall_mem_cons.mpr ⟨List.mem_of_getElem? (i := 320) (by decide +kernel), List.forall_mem_cons.mpr ⟨List.mem_of_getElem? (i := 324) (by decide +kernel), List.forall_mem_cons.mpr ⟨List.mem_of_getElem? (i := 331) (by decide +kernel), List.forall_mem_cons.mpr ⟨List.mem_of_getElem? (i := 345) (by decide +kernel), List.forall_mem_nil _⟩⟩⟩⟩⟩⟩⟩⟩⟩⟩⟩⟩⟩⟩
def mm_fl2 : List (Nat × Nat × Nat) := [(9, 2, 0), (15, 2, 1), (18, 2, 2), (22, 2, 3), (25, 2, 4), (30, 2, 5), (33, 2, 6), (36, 2, 7)]
theorem mm_fl2_ok : ∀ q ∈ mm_fl2, mm_flw 2 q ∈ lw_tbl := List.forall_mem_cons.mpr ⟨List.mem_of_getElem? (i := 203) (by decide +kernel), List.forall_mem_cons.mpr ⟨List.mem_of_getElem? (i := 205) (by decide +kernel), List.forall_mem_cons.mpr ⟨List.mem_of_getElem? (i := 206) (by decide +kernel), List.forall_mem_cons.mpr ⟨List.mem_of_getElem? (i := 207) (by decide +kernel), List.forall_mem_cons.mpr ⟨List.mem_of_getElem? (i := 208) (by decide +kernel), List.forall_mem_cons.mpr ⟨List.mem_of_getElem? (i := 209) (by decide +kernel), List.forall_mem_cons.mpr ⟨List.mem_of_getElem? (i := 210) (by decide +kernel), List.forall_mem_cons.mpr ⟨List.mem_of_getElem? (i := 212) (by decide +kernel), List.forall_mem_nil _⟩⟩⟩⟩⟩⟩⟩⟩
def mm_fl3 : List (Nat × Nat × Nat) := [(12, 3, 0), (18, 3, 2), (22, 3, 3), (26, 3, 4), (29, 3, 1)]
theorem mm_fl3_ok : ∀ q ∈ mm_fl3, mm_flw 3 q ∈ lw_tbl := List.forall_mem_cons.mpr ⟨List.mem_of_getElem? (i := 238) (by decide +kernel), List.forall_mem_cons.mpr ⟨List.mem_of_getElem? (i := 241) (by decide +kernel), List.forall_mem_cons.mpr ⟨List.mem_of_getElem? (i := 242) (by decide +kernel), List.forall_mem_cons.mpr ⟨List.mem_of_getElem? (i := 243) (by decide +kernel), List.forall_mem_cons.mpr ⟨List.mem_of_getElem? (i := 240) (by decide +kernel), List.forall_mem_nil _⟩⟩⟩⟩⟩
def mm_fl4 : List (Nat × Nat × Nat) := [(9, 4, 0), (15, 4, 1), (18, 4, 2)]
theorem mm_fl4_ok : ∀ q ∈ mm_fl4, mm_flw 4 q ∈ lw_tbl := List.forall_mem_cons.mpr ⟨List.mem_of_getElem? (i := 426) (by decide +kernel), List.forall_mem_cons.mpr ⟨List.mem_of_getElem? (i := 428) (by decide +kernel), List.forall_mem_cons.mpr ⟨List.mem_of_getElem? (i := 429) (by decide +kernel), List.forall_mem_nil _⟩⟩⟩
def mm_fl5 : List (Nat × Nat × Nat) := [(9, 5, 1), (15, 5, 2), (18, 5, 3), (21, 5, 4), (25, 5, 0), (29, 0, 0), (75, 0, 4)]
theorem mm_fl5_ok : ∀ q ∈ mm_fl5, mm_flw 5 q ∈ lw_tbl := List.forall_mem_cons.mpr ⟨List.mem_of_getElem? (i := 515) (by decide +kernel), List.forall_mem_cons.mpr ⟨List.mem_of_getElem? (i := 516) (by decide +kernel), List.forall_mem_cons.mpr ⟨List.mem_of_getElem? (i := 517) (by decide +kernel), List.forall_mem_cons.mpr ⟨List.mem_of_getElem? (i := 518) (by decide +kernel), List.forall_mem_cons.mpr ⟨List.mem_of_getElem? (i := 514) (by decide +kernel), List.forall_mem_cons.mpr ⟨List.mem_of_getElem? (i := 268) (by decide +kernel), List.forall_mem_cons.mpr ⟨List.mem_of_getElem? (i := 282) (by decide +kernel), List.forall_mem_nil _⟩⟩⟩⟩⟩⟩⟩
def mm_fl6 : List (Nat × Nat × Nat) := [(9, 6, 0), (15, 6, 1), (18, 6, 2), (21, 6, 3), (24, 6, 4), (28, 6, 5), (31, 6, 6), (34, 6, 7), (37, 6, 8), (40, 6, 9), (43, 6, 10), (46, 6, 11), (49, 6, 12), (52, 6, 13), (55, 6, 14)]
theorem mm_fl6_ok : ∀ q ∈ mm_fl6, mm_flw 6 q ∈ lw_tbl := List.forall_mem_cons.mpr ⟨List.mem_of_getElem? (i := 305) (by decide +kernel), List.forall_mem_cons.mpr ⟨List.mem_of_getElem? (i := 307) (by decide +kernel), List.forall_mem_cons.mpr ⟨List.mem_of_getElem? (i := 310) (by decide +kernel), List.forall_mem_cons.mpr ⟨List.mem_of_getElem? (i := 311) (by decide +kernel), List.forall_mem_cons.mpr ⟨List.mem_of_getElem? (i := 312) (by decide +kernel), List.forall_mem_cons.mpr ⟨List.mem_of_getElem? (i := 316) (by decide +kernel), List.forall_mem_cons.mpr ⟨List.mem_of_getElem? (i := 319) (by decide +kernel), List.forall_mem_cons.mpr ⟨List.mem_of_getElem? (i := 323) (by decide +kernel), List.forall_mem_cons.mpr ⟨List.mem_of_getElem? (i := 327) (by decide +kernel), List.forall_mem_cons.mpr ⟨List.mem_of_getElem? (i := 330) (by decide +kernel), List.forall_mem_cons.mpr ⟨List.mem_of_getElem? (i := 334) (by decide +kernel), List.forall_mem_cons.mpr ⟨List.mem_of_getElem? (i := 337) (by decide +kernel), List.forall_mem_cons.mpr ⟨List.mem_of_getElem? (i := 340) (by decide +kernel), List.forall_mem_cons.mpr ⟨List.mem_of_getElem? (i := 342) (by decide +kernel), List.forall_mem_cons.mpr ⟨List.mem_of_getElem? (i := 344) (by decide +kernel), List.forall_mem_nil _⟩⟩⟩⟩⟩⟩⟩⟩⟩⟩⟩⟩⟩⟩⟩
def mm_fl7 : List (Nat × Nat × Nat) := [(9, 7, 0), (32, 9, 1), (38, 0, 0), (65, 9, 10), (69, 9, 11), (91, 9, 2), (100, 9, 5)]
theorem mm_fl7_ok : ∀ q ∈ mm_fl7, mm_flw 7 q ∈ lw_tbl := List.forall_mem_cons.mpr ⟨List.mem_of_getElem? (i := 504) (by decide +kernel), List.forall_mem_cons.mpr ⟨List.mem_of_getElem? (i := 440) (by decide +kernel), List.forall_mem_cons.mpr ⟨List.mem_of_getElem? (i := 269) (by decide +kernel), List.forall_mem_cons.mpr ⟨List.mem_of_getElem? (i := 460) (by decide +kernel), List.forall_mem_cons.mpr ⟨List.mem_of_getElem? (i := 463) (by decide +kernel), List.forall_mem_cons.mpr ⟨List.mem_of_getElem? (i := 442) (by decide +kernel), List.forall_mem_cons.mpr ⟨List.mem_of_getElem? (i := 449) (by decide +kernel), List.forall_mem_nil _⟩⟩⟩⟩⟩⟩⟩
def mm_fl8 : List (Nat × Nat × Nat) := [(11, 8, 0), (15, 8, 1), (19, 8, 2)]
theorem mm_fl8_ok : ∀ q ∈ mm_fl8, mm_flw 8 q ∈ lw_tbl := List.forall_mem_cons.mpr ⟨List.mem_of_getElem? (i := 183) (by decide +kernel), List.forall_mem_cons.mpr ⟨List.mem_of_getElem? (i := 185) (by decide +kernel), List.forall_mem_cons.mpr ⟨List.mem_of_getElem? (i := 187) (by decide +kernel), List.forall_mem_nil _⟩⟩⟩
def mm_fl9 : List (Nat × Nat × Nat) := [(12, 9, 1), (21, 9, 2), (28, 9, 3), (35, 9, 4), (39, 9, 5), (43, 9, 6), (46, 9, 7), (49, 9, 8), (52, 9, 9), (56, 9, 10), (59, 9, 11), (62, 9, 12), (65, 9, 13), (68, 9, 0), (91, 0, 0), (119, 0, 2), (122, 6, 7), (130, 0, 3), (133, 6, 9), (147, 6, 14), (153, 6, 8), (159, 6, 5), (162, 6, 10), (179, 6, 11), (197, 6, 4), (200, 0, 5), (203, 0, 4), (246, 2, 6), (261, 6, 6), (267, 6, 1)]
theorem mm_fl9_ok : ∀ q ∈ mm_fl9, mm_flw 9 q ∈ lw_tbl := List.forall_mem_cons.mpr ⟨List.mem_of_getElem? (i := 438) (by decide +kernel), List.forall_mem_cons.mpr ⟨List.mem_of_getElem? (i := 441) (by decide +kernel), List.forall_mem_cons.mpr ⟨List.mem_of_getElem? (i := 444) (by decide +kernel), List.forall_mem_cons.mpr ⟨List.mem_of_getElem? (i := 446) (by decide +kernel), List.forall_mem_cons.mpr ⟨List.mem_of_getElem? (i := 448) (by decide +kernel), List.forall_mem_cons.mpr ⟨List.mem_of_getElem? (i := 451) (by decide +kernel), List.forall_mem_cons.mpr ⟨List.mem_of_getElem? (i := 453) (by decide +kernel), List.forall_mem_cons.mpr ⟨List.mem_of_getElem? (i := 455) (by decide +kernel), List.forall_mem_cons.mpr ⟨List.mem_of_getElem? (i := 457) (by decide +kernel), List.forall_mem_cons.mpr ⟨List.mem_of_getElem? (i := 459) (by decide +kernel), List.forall_mem_cons.mpr ⟨List.mem_of_getElem? (i := 462) (by decide +kernel), List.forall_mem_cons.mpr ⟨List.mem_of_getElem? (i := 465) (by decide +kernel), List.forall_mem_cons.mpr ⟨List.mem_of_getElem? (i := 467) (by decide +kernel), List.forall_mem_cons.mpr ⟨List.mem_of_getElem? (i := 437) (by decide +kernel), List.forall_mem_cons.mpr ⟨List.mem_of_getElem? (i := 270) (by decide +kernel), List.forall_mem_cons.mpr ⟨List.mem_of_getElem? (i := 274) (by decide +kernel), List.forall_mem_cons.mpr ⟨List.mem_of_getElem? (i := 325) (by decide +kernel), List.forall_mem_cons.mpr ⟨List.mem_of_getElem? (i := 277) (by decide +kernel), List.forall_mem_cons.mpr ⟨List.mem_of_getElem? (i := 332) (by decide +kernel), List.forall_mem_cons.mpr ⟨List.mem_of_getElem? (i := 346) (by decide +kernel), List.forall_mem_cons.mpr ⟨List.mem_of_getElem? (i := 328) (by decide +kernel), List.forall_mem_cons.mpr ⟨List.mem_of_getElem? (i := 317) (by decide +kernel), List.forall_mem_cons.mpr ⟨List.mem_of_getElem? (i := 335) (by decide +kernel), List.forall_mem_cons.mpr ⟨List.mem_of_getElem? (i := 338) (by decide +kernel), List.forall_mem_cons.mpr ⟨List.mem_of_getElem? (i := 315) (by decide +kernel), List.forall_mem_cons.mpr ⟨List.mem_of_getElem? (i := 284) (by decide +kernel), List.forall_mem_cons.mpr ⟨List.mem_of_getElem? (i := 280) (by decide +kernel), List.forall_mem_cons.mpr ⟨List.mem_of_getElem? (i := 211) (by decide +kernel), List.forall_mem_cons.mpr ⟨List.mem_of_getElem? (i := 322) (by decide +kernel), List.forall_mem_cons.mpr ⟨List.mem_of_getElem? (i := 308) (by decide +kernel), List.forall_mem_nil _⟩⟩⟩⟩⟩⟩⟩⟩⟩⟩⟩⟩⟩⟩⟩⟩⟩⟩⟩⟩⟩⟩⟩⟩⟩⟩⟩⟩⟩⟩
def mm_fl10 : List (Nat × Nat × Nat) := [(10, 10, 0), (19, 10, 1), (23, 10, 2), (31, 10, 3), (40, 10, 4), (44, 10, 5), (47, 10, 6), (53, 10, 7), (59, 9, 1), (66, 10, 8), (70, 10, 9), (74, 10, 10), (78, 10, 11), (81, 10, 12), (85, 10, 13), (88, 8, 1), (114, 9, 13), (131, 3, 0), (136, 2, 0), (139, 8, 2), (152, 9, 2), (165, 6, 4), (169, 6, 5), (172, 6, 6), (175, 6, 7), (178, 6, 8), (181, 6, 9), (184, 6, 12), (187, 6, 13), (200, 6, 10), (203, 6, 11), (215, 6, 14), (218, 9, 5), (221, 9, 6), (224, 9, 7), (227, 9, 8), (236, 0, 2), (241, 0, 3), (247, 0, 4), (250, 0, 5), (311, 9, 10), (314, 9, 12), (319, 6, 0), (328, 9, 3), (332, 1, 0), (340, 1, 2), (341, 1, 3), (342, 1, 4), (345, 1, 5), (348, 1, 7), (351, 1, 6), (357, 9, 4), (397, 0, 0), (434, 8, 0), (437, 6, 1), (443, 9, 11), (452, 9, 9), (461, 4, 0)]
theorem mm_fl10_ok : ∀ q ∈ mm_fl10, mm_flw 10 q ∈ lw_tbl := List.forall_mem_cons.mpr ⟨List.mem_of_getElem? (i := 531) (by decide +kernel), List.forall_mem_cons.mpr ⟨List.mem_of_getElem? (i := 532) (by decide +kernel), List.forall_mem_cons.mpr ⟨List.mem_of_getElem? (i := 533) (by decide +kernel), List.forall_mem_cons.mpr ⟨List.mem_of_getElem? (i := 534) (by decide +kernel), List.forall_mem_cons.mpr ⟨List.mem_of_getElem? (i := 535) (by decide +kernel), List.forall_mem_cons.mpr ⟨List.mem_of_getElem? (i := 536) (by decide +kernel), List.forall_mem_cons.mpr ⟨List.mem_of_getElem? (i := 537) (by decide +kernel), List.forall_mem_cons.mpr ⟨List.mem_of_getElem? (i := 538) (by decide +kernel), List.forall_mem_cons.mpr ⟨List.mem_of_getElem? (i := 439) (by decide +kernel), List.forall_mem_cons.mpr ⟨List.mem_of_getElem? (i := 539) (by decide +kernel), List.forall_mem_cons.mpr ⟨List.mem_of_getElem? (i := 540) (by decide +kernel), List.forall_mem_cons.mpr ⟨List.mem_of_getElem? (i := 541) (by decide +kernel), List.forall_mem_cons.mpr ⟨List.mem_of_getElem? (i := 542) (by decide +kernel), List.forall_mem_cons.mpr ⟨List.mem_of_getElem? (i := 543) (by decide +kernel), List.forall_mem_cons.mpr ⟨List.mem_of_getElem? (i := 544) (by decide +kernel), List.forall_mem_cons.mpr ⟨List.mem_of_getElem? (i := 186) (by decide +kernel), List.forall_mem_cons.mpr ⟨List.mem_of_getElem? (i := 468) (by decide +kernel), List.forall_mem_cons.mpr ⟨List.mem_of_getElem? (i := 239) (by decide +kernel), List.forall_mem_cons.mpr ⟨List.mem_of_getElem? (i := 204) (by decide +kernel), List.forall_mem_cons.mpr ⟨List.mem_of_getElem? (i := 188) (by decide +kernel), List.forall_mem_cons.mpr ⟨List.mem_of_getElem? (i := 443) (by decide +kernel), List.forall_mem_cons.mpr ⟨List.mem_of_getElem? (i := 314) (by decide +kernel), List.forall_mem_cons.mpr ⟨List.mem_of_getElem? (i := 318) (by decide +kernel), List.forall_mem_cons.mpr ⟨List.mem_of_getElem? (i := 321) (by decide +kernel), List.forall_mem_cons.mpr ⟨List.mem_of_getElem? (i := 326) (by decide +kernel), List.forall_mem_cons.mpr ⟨List.mem_of_getElem? (i := 329) (by decide +kernel), List.forall_mem_cons.mpr ⟨List.mem_of_getElem? (i := 333) (by decide +kernel), List.forall_mem_cons.mpr ⟨List.mem_of_getElem? (i := 341) (by decide +kernel), List.forall_mem_cons.mpr ⟨List.mem_of_getElem? (i := 343) (by decide +kernel), List.forall_mem_cons.mpr ⟨List.mem_of_getElem? (i := 336) (by decide +kernel), List.forall_mem_cons.mpr ⟨List.mem_of_getElem? (i := 339) (by decide +kernel), List.forall_mem_cons.mpr ⟨List.mem_of_getElem? (i := 347) (by decide +kernel), List.forall_mem_cons.mpr ⟨List.mem_of_getElem? (i := 450) (by decide +kernel), List.forall_mem_cons.mpr ⟨List.mem_of_getElem? (i := 452) (by decide +kernel), List.forall_mem_cons.mpr ⟨List.mem_of_getElem? (i := 454) (by decide +kernel), List.forall_mem_cons.mpr ⟨List.mem_of_getElem? (i := 456) (by decide +kernel), List.forall_mem_cons.mpr ⟨List.mem_of_getElem? (i := 275) (by decide +kernel), List.forall_mem_cons.mpr ⟨List.mem_of_getElem? (i := 278) (by decide +kernel), List.forall_mem_cons.mpr ⟨List.mem_of_getElem? (i := 281) (by decide +kernel), List.forall_mem_cons.mpr ⟨List.mem_of_getElem? (i := 285) (by decide +kernel), List.forall_mem_cons.mpr ⟨List.mem_of_getElem? (i := 461) (by decide +kernel), List.forall_mem_cons.mpr ⟨List.mem_of_getElem? (i := 466) (by decide +kernel), List.forall_mem_cons.mpr ⟨List.mem_of_getElem? (i := 306) (by decide +kernel), List.forall_mem_cons.mpr ⟨List.mem_of_getElem? (i := 445) (by decide +kernel), List.forall_mem_cons.mpr ⟨List.mem_of_getElem? (i := 386) (by decide +kernel), List.forall_mem_cons.mpr ⟨List.mem_of_getElem? (i := 389) (by decide +kernel), List.forall_mem_cons.mpr ⟨List.mem_of_getElem? (i := 391) (by decide +kernel), List.forall_mem_cons.mpr ⟨List.mem_of_getElem? (i := 393) (by decide +kernel), List.forall_mem_cons.mpr ⟨List.mem_of_getElem? (i := 395) (by decide +kernel), List.forall_mem_cons.mpr ⟨List.mem_of_getElem? (i := 399) (by decide +kernel), List.forall_mem_cons.mpr ⟨List.mem_of_getElem? (i := 397) (by decide +kernel), List.forall_mem_cons.mpr ⟨List.mem_of_getElem? (i := 447) (by decide +kernel), List.forall_mem_cons.mpr ⟨List.mem_of_getElem? (i := 271) (by decide +kernel), List.forall_mem_cons.mpr ⟨List.mem_of_getElem? (i := 184) (by decide +kernel), List.forall_mem_cons.mpr ⟨List.mem_of_getElem? (i := 309) (by decide +kernel), List.forall_mem_cons.mpr ⟨List.mem_of_getElem? (i := 464) (by decide +kernel), List.forall_mem_cons.mpr ⟨List.mem_of_getElem? (i := 458) (by decide +kernel), List.forall_mem_cons.mpr ⟨List.mem_of_getElem? (i := 427) (by decide +kernel), List.forall_mem_nil _⟩⟩⟩⟩⟩⟩⟩⟩⟩⟩⟩⟩⟩⟩⟩⟩⟩⟩⟩⟩⟩⟩⟩⟩⟩⟩⟩⟩⟩⟩⟩⟩⟩⟩⟩⟩⟩⟩⟩⟩⟩⟩⟩⟩⟩⟩⟩⟩⟩⟩⟩⟩⟩⟩⟩⟩⟩⟩
def mm_fl11 : List (Nat × Nat × Nat) := [(3, 11, 0), (13, 11, 1), (17, 11, 2), (20, 11, 3), (23, 11, 4), (26, 11, 5), (29, 11, 8), (33, 11, 14), (36, 11, 15), (39, 11, 17), (42, 11, 19), (45, 11, 21), (48, 11, 22), (52, 11, 6), (56, 11, 7), (84, 11, 9), (87, 11, 10), (90, 11, 11), (96, 11, 12), (172, 11, 16), (200, 11, 13), (292, 11, 18), (435, 11, 20)]
theorem mm_fl11_ok : ∀ q ∈ mm_fl11, mm_flw 11 q ∈ lw_tbl := List.forall_mem_cons.mpr ⟨List.mem_of_getElem? (i := 1659) (by decide +kernel), List.forall_mem_cons.mpr ⟨List.mem_of_getElem? (i := 1660) (by decide +kernel), List.forall_mem_cons.mpr ⟨List.mem_of_getElem? (i := 1661) (by decide +kernel), List.forall_mem_cons.mpr ⟨List.mem_of_getElem? (i := 1662) (by decide +kernel), List.forall_mem_cons.mpr ⟨List.mem_of_getElem? (i := 1663) (by decide +kernel), List.forall_mem_cons.mpr ⟨List.mem_of_getElem? (i := 1664) (by decide +kernel), List.forall_mem_cons.mpr ⟨List.mem_of_getElem? (i := 1667) (by decide +kernel), List.forall_mem_cons.mpr ⟨List.mem_of_getElem? (i := 1673) (by decide +kernel), List.forall_mem_cons.mpr ⟨List.mem_of_getElem? (i := 1674) (by decide +kernel), List.forall_mem_cons.mpr ⟨List.mem_of_getElem? (i := 1676) (by decide +kernel), List.forall_mem_cons.mpr ⟨List.mem_of_getElem? (i := 1678) (by decide +kernel), List.forall_mem_cons.mpr ⟨List.mem_of_getElem? (i := 1680) (by decide +kernel), List.forall_mem_cons.mpr ⟨List.mem_of_getElem? (i := 1681) (by decide +kernel), List.forall_mem_cons.mpr ⟨List.mem_of_getElem? (i := 1665) (by decide +kernel), List.forall_mem_cons.mpr ⟨List.mem_of_getElem? (i := 1666) (by decide +kernel), List.forall_mem_cons.mpr ⟨List.mem_of_getElem? (i := 1668) (by decide +kernel), List.forall_mem_cons.mpr ⟨List.mem_of_getElem? (i := 1669) (by decide +kernel), List.forall_mem_cons.mpr ⟨List.mem_of_getElem? (i := 1670) (by decide +kernel), List.forall_mem_cons.mpr ⟨List.mem_of_getElem? (i := 1671) (by decide +kernel), List.forall_mem_cons.mpr ⟨List.mem_of_getElem? (i := 1675) (by decide +kernel), List.forall_mem_cons.mpr ⟨List.mem_of_getElem? (i := 1672) (by decide +kernel), List.forall_mem_cons.mpr ⟨List.mem_of_getElem? (i := 1677) (by decide +kernel), List.forall_mem_cons.mpr ⟨List.mem_of_getElem? (i := 1679) (by decide +kernel), List.forall_mem_nil _⟩⟩⟩⟩⟩⟩⟩⟩⟩⟩⟩⟩⟩⟩⟩⟩⟩⟩⟩⟩⟩⟩⟩
def mm_fl12 : List (Nat × Nat × Nat) := []
theorem mm_fl12_ok : ∀ q ∈ mm_fl12, mm_flw 12 q ∈ lw_tbl := List.forall_mem_nil _
def mm_fl13 : List (Nat × Nat × Nat) := []
theorem mm_fl13_ok : ∀ q ∈ mm_fl13, mm_flw 13 q ∈ lw_tbl := List.forall_mem_nil _
def mm_fl14 : List (Nat × Nat × Nat) := []
theorem mm_fl14_ok : ∀ q ∈ mm_fl14, mm_flw 14 q ∈ lw_tbl := List.forall_mem_nil _
def mm_fl : Nat → List (Nat × Nat × Nat) := fun k => match k with
  | 0 => mm_fl0
  | 1 => mm_fl1
  | 2 => mm_fl2
  | 3 => mm_fl3
  | 4 => mm_fl4
  | 5 => mm_fl5
  | 6 => mm_fl6
  | 7 => mm_fl7
  | 8 => mm_fl8
  | 9 => mm_fl9
  | 10 => mm_fl10
  | 11 => mm_fl11
  | 12 => mm_fl12
  | 13 => mm_fl13
  | 14 => mm_fl14
  | _ => []
theorem mm_fl_ok (o : Nat) : ∀ q ∈ mm_fl o, mm_flw o q ∈ lw_tbl := match o with
  | 0 => mm_fl0_ok
  | 1 => mm_fl1_ok
  | 2 => mm_fl2_ok
  | 3 => mm_fl3_ok
  | 4 => mm_fl4_ok
  | 5 => mm_fl5_ok
  | 6 => mm_fl6_ok
  | 7 => mm_fl7_ok
  | 8 => mm_fl8_ok
  | 9 => mm_fl9_ok
  | 10 => mm_fl10_ok
  | 11 => mm_fl11_ok
  | 12 => mm_fl12_ok
  | 13 => mm_fl13_ok
  | 14 => mm_fl14_ok
  | _ + 15 => fun _ h => nomatch h
def mm_deq (x : Except DecodeError (Instr × Nat)) (i : Instr) (n : Nat) : Bool := match x with
  | .ok q => decide (q = (i, n))
  | _ => false
