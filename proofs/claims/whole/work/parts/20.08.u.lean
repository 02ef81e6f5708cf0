/-! WHAT THE TABLES SAY OF THE CLASSES -/
/-- a word that stays: a good one, or one of the tables that keeps its face (declares, castable) -/
def mm_good (w : Jvm.Cond) : Bool := goodWord w || (w.onTables && w.keepsFace)
def mm_tbl : List Jvm.Cond := lw_tbl.filter mm_good
theorem mm_word_at {args a' : Array Value} {s U : State} (hW : s.WarmedH U.vm) {w : Jvm.Cond} (hg : mm_good w = true) (h : w.before args s = true) : w.before a' U = true := by
  unfold mm_good at hg
  rw [Bool.or_eq_true] at hg
  rcases hg with hg | hg
  · exact word_at hW (good_of_word hg) h
  · rw [Bool.and_eq_true] at hg
    have h1 := Cond.before_shiftedFace (State.Shifted.of_warmed hW) w hg.2 h
    exact va_tabs hg.1 (u := s.setVm U.vm) rfl h1
theorem mm_good_ot {w : Jvm.Cond} (hg : mm_good w = true) : vx_ot w = true := by
  unfold mm_good at hg
  unfold vx_ot
  rw [Bool.or_eq_true] at hg ⊢
  rcases hg with hg | hg
  · exact Or.inr hg
  · rw [Bool.and_eq_true] at hg
    exact Or.inl hg.1
theorem mm_hw {s : State} {args : Array Value} {w : Jvm.Cond} (hts : ∀ w ∈ mm_tbl, w.before args s = true) (h : w ∈ lw_tbl) (hg : mm_good w = true) : w.before args s = true := hts w (List.mem_filter.mpr ⟨h, hg⟩)
theorem mm_tbl_good {s : State} {args : Array Value} (hts : ∀ w ∈ mm_tbl, w.before args s = true) : ∀ w ∈ mm_tbl, ∀ (a' : Array Value) (U : State), s.WarmedH U.vm → w.before a' U = true := fun w hw a' U hW => mm_word_at hW (List.mem_filter.mp hw).2 (hts w hw)
theorem mm_ci {P : Nat → Prop} (h0 : P 0) (h1 : P 1) (h2 : P 2) (h3 : P 3) (h4 : P 4) (h5 : P 5) (h6 : P 6) (h7 : P 7) (h8 : P 8) (h9 : P 9) (h10 : P 10) (h11 : P 11) {ci : Nat} (h : ci < 12) : P ci := match ci, h with
  | 0, _ => h0
  | 1, _ => h1
  | 2, _ => h2
  | 3, _ => h3
  | 4, _ => h4
  | 5, _ => h5
  | 6, _ => h6
  | 7, _ => h7
  | 8, _ => h8
  | 9, _ => h9
  | 10, _ => h10
  | 11, _ => h11
  | k + 12, h => absurd h (by omega)
theorem mm_cl {ci : Nat} (h : ci < 12) : vwCl[ci]? = some (mm_cn ci, mm_TT ci, mm_nf ci) := mm_ci (P := fun ci => vwCl[ci]? = some (mm_cn ci, mm_TT ci, mm_nf ci)) rfl rfl rfl rfl rfl rfl rfl rfl rfl rfl rfl rfl h
theorem mm_tyok {ci : Nat} (h : ci < 12) : ∀ k, k < mm_nf ci → parseFieldDescriptor (mm_TT ci k).2.2.1 = some (mm_ty ci k) := mm_ci (P := fun ci => ∀ k, k < mm_nf ci → parseFieldDescriptor (mm_TT ci k).2.2.1 = some (mm_ty ci k)) tyX0_ok tyX1_ok tyX2_ok tyX3_ok tyX4_ok tyX5_ok tyX6_ok tyX7_ok tyX8_ok tyX9_ok tyX10_ok tyX11_ok h
theorem mm_nmok {ci : Nat} (h : ci < 12) : ∀ a, a < mm_nf ci → ∀ b, b < mm_nf ci → a ≠ b → (mm_TT ci a).2.1 ≠ (mm_TT ci b).2.1 := mm_ci (P := fun ci => ∀ a, a < mm_nf ci → ∀ b, b < mm_nf ci → a ≠ b → (mm_TT ci a).2.1 ≠ (mm_TT ci b).2.1) nmX0 nmX1 nmX2 nmX3 nmX4 nmX5 nmX6 nmX7 nmX8 nmX9 nmX10 nmX11 h
theorem mm_in0 : ∀ w ∈ u_ws RX0 TX0 (mm_nf 0), w ∈ mm_tbl := fun w h => List.mem_filter.mpr ⟨inX0 w h, List.all_eq_true.mp (show (u_ws RX0 TX0 (mm_nf 0)).all mm_good = true by decide +kernel) w h⟩
theorem mm_in1 : ∀ w ∈ u_ws RX1 TX1 (mm_nf 1), w ∈ mm_tbl := fun w h => List.mem_filter.mpr ⟨inX1 w h, List.all_eq_true.mp (show (u_ws RX1 TX1 (mm_nf 1)).all mm_good = true by decide +kernel) w h⟩
theorem mm_in2 : ∀ w ∈ u_ws RX2 TX2 (mm_nf 2), w ∈ mm_tbl := fun w h => List.mem_filter.mpr ⟨inX2 w h, List.all_eq_true.mp (show (u_ws RX2 TX2 (mm_nf 2)).all mm_good = true by decide +kernel) w h⟩
theorem mm_in3 : ∀ w ∈ u_ws RX3 TX3 (mm_nf 3), w ∈ mm_tbl := fun w h => List.mem_filter.mpr ⟨inX3 w h, List.all_eq_true.mp (show (u_ws RX3 TX3 (mm_nf 3)).all mm_good = true by decide +kernel) w h⟩
theorem mm_in4 : ∀ w ∈ u_ws RX4 TX4 (mm_nf 4), w ∈ mm_tbl := fun w h => List.mem_filter.mpr ⟨inX4 w h, List.all_eq_true.mp (show (u_ws RX4 TX4 (mm_nf 4)).all mm_good = true by decide +kernel) w h⟩
theorem mm_in5 : ∀ w ∈ u_ws RX5 TX5 (mm_nf 5), w ∈ mm_tbl := fun w h => List.mem_filter.mpr ⟨inX5 w h, List.all_eq_true.mp (show (u_ws RX5 TX5 (mm_nf 5)).all mm_good = true by decide +kernel) w h⟩
theorem mm_in6 : ∀ w ∈ u_ws RX6 TX6 (mm_nf 6), w ∈ mm_tbl := fun w h => List.mem_filter.mpr ⟨inX6 w h, List.all_eq_true.mp (show (u_ws RX6 TX6 (mm_nf 6)).all mm_good = true by decide +kernel) w h⟩
theorem mm_in7 : ∀ w ∈ u_ws RX7 TX7 (mm_nf 7), w ∈ mm_tbl := fun w h => List.mem_filter.mpr ⟨inX7 w h, List.all_eq_true.mp (show (u_ws RX7 TX7 (mm_nf 7)).all mm_good = true by decide +kernel) w h⟩
theorem mm_in8 : ∀ w ∈ u_ws RX8 TX8 (mm_nf 8), w ∈ mm_tbl := fun w h => List.mem_filter.mpr ⟨inX8 w h, List.all_eq_true.mp (show (u_ws RX8 TX8 (mm_nf 8)).all mm_good = true by decide +kernel) w h⟩
theorem mm_in9 : ∀ w ∈ u_ws RX9 TX9 (mm_nf 9), w ∈ mm_tbl := fun w h => List.mem_filter.mpr ⟨inX9 w h, List.all_eq_true.mp (show (u_ws RX9 TX9 (mm_nf 9)).all mm_good = true by decide +kernel) w h⟩
theorem mm_in10 : ∀ w ∈ u_ws RX10 TX10 (mm_nf 10), w ∈ mm_tbl := fun w h => List.mem_filter.mpr ⟨inX10 w h, List.all_eq_true.mp (show (u_ws RX10 TX10 (mm_nf 10)).all mm_good = true by decide +kernel) w h⟩
theorem mm_in11 : ∀ w ∈ u_ws RX11 TX11 (mm_nf 11), w ∈ mm_tbl := fun w h => List.mem_filter.mpr ⟨inX11 w h, List.all_eq_true.mp (show (u_ws RX11 TX11 (mm_nf 11)).all mm_good = true by decide +kernel) w h⟩
theorem mm_inok {ci : Nat} (h : ci < 12) : ∀ w ∈ u_ws (mm_cn ci) (mm_TT ci) (mm_nf ci), w ∈ mm_tbl := mm_ci (P := fun ci => ∀ w ∈ u_ws (mm_cn ci) (mm_TT ci) (mm_nf ci), w ∈ mm_tbl) mm_in0 mm_in1 mm_in2 mm_in3 mm_in4 mm_in5 mm_in6 mm_in7 mm_in8 mm_in9 mm_in10 mm_in11 h
