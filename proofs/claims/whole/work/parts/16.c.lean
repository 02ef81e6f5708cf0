theorem j127_0 : mm_cd 127 0 = some (.aload_n 0, 1, 0, 0) := rfl
theorem j127_1 : mm_cd 127 1 = some (.invokespecial 1, 3, 1, 0) := rfl
theorem j127_4 : mm_cd 127 4 = some (.aload_n 0, 1, 0, 0) := rfl
theorem j127_5 : mm_cd 127 5 = some (.new 7, 3, 0, 8) := rfl
theorem j127_8 : mm_cd 127 8 = some (.dup, 1, 0, 0) := rfl
theorem j127_9 : mm_cd 127 9 = some (.invokespecial 9, 3, 0, 97) := rfl
theorem j127_12 : mm_cd 127 12 = some (.putfield 10, 3, 10, 0) := rfl
theorem j127_15 : mm_cd 127 15 = some (.aload_n 0, 1, 0, 0) := rfl
theorem j127_16 : mm_cd 127 16 = some (.new 16, 3, 0, 2) := rfl
theorem j127_19 : mm_cd 127 19 = some (.dup, 1, 0, 0) := rfl
theorem j127_20 : mm_cd 127 20 = some (.invokespecial 18, 3, 0, 20) := rfl
theorem j127_23 : mm_cd 127 23 = some (.putfield 19, 3, 10, 1) := rfl
theorem j127_26 : mm_cd 127 26 = some (.aload_n 0, 1, 0, 0) := rfl
theorem j127_27 : mm_cd 127 27 = some (.new 16, 3, 0, 2) := rfl
theorem j127_30 : mm_cd 127 30 = some (.dup, 1, 0, 0) := rfl
theorem j127_31 : mm_cd 127 31 = some (.invokespecial 18, 3, 0, 20) := rfl
theorem j127_34 : mm_cd 127 34 = some (.putfield 23, 3, 10, 2) := rfl
theorem j127_37 : mm_cd 127 37 = some (.aload_n 0, 1, 0, 0) := rfl
theorem j127_38 : mm_cd 127 38 = some (.new 26, 3, 0, 3) := rfl
theorem j127_41 : mm_cd 127 41 = some (.dup, 1, 0, 0) := rfl
theorem j127_42 : mm_cd 127 42 = some (.aload_n 0, 1, 0, 0) := rfl
theorem j127_43 : mm_cd 127 43 = some (.getfield 10, 3, 10, 0) := rfl
theorem j127_46 : mm_cd 127 46 = some (.invokespecial 28, 3, 0, 27) := rfl
theorem j127_49 : mm_cd 127 49 = some (.putfield 31, 3, 10, 3) := rfl
theorem j127_52 : mm_cd 127 52 = some (.aload_n 0, 1, 0, 0) := rfl
theorem j127_53 : mm_cd 127 53 = some (.new 35, 3, 0, 9) := rfl
theorem j127_56 : mm_cd 127 56 = some (.dup, 1, 0, 0) := rfl
theorem j127_57 : mm_cd 127 57 = some (.aload_n 0, 1, 0, 0) := rfl
theorem j127_58 : mm_cd 127 58 = some (.getfield 19, 3, 10, 1) := rfl
theorem j127_61 : mm_cd 127 61 = some (.invokespecial 37, 3, 0, 110) := rfl
theorem j127_64 : mm_cd 127 64 = some (.putfield 40, 3, 10, 4) := rfl
theorem j127_67 : mm_cd 127 67 = some (.aload_n 0, 1, 0, 0) := rfl
theorem j127_68 : mm_cd 127 68 = some (.new 35, 3, 0, 9) := rfl
theorem j127_71 : mm_cd 127 71 = some (.dup, 1, 0, 0) := rfl
theorem j127_72 : mm_cd 127 72 = some (.aload_n 0, 1, 0, 0) := rfl
theorem j127_73 : mm_cd 127 73 = some (.getfield 19, 3, 10, 1) := rfl
theorem j127_76 : mm_cd 127 76 = some (.invokespecial 37, 3, 0, 110) := rfl
theorem j127_79 : mm_cd 127 79 = some (.putfield 44, 3, 10, 5) := rfl
theorem j127_82 : mm_cd 127 82 = some (.aload_n 0, 1, 0, 0) := rfl
theorem j127_83 : mm_cd 127 83 = some (.new 35, 3, 0, 9) := rfl
theorem j127_86 : mm_cd 127 86 = some (.dup, 1, 0, 0) := rfl
theorem j127_87 : mm_cd 127 87 = some (.aload_n 0, 1, 0, 0) := rfl
theorem j127_88 : mm_cd 127 88 = some (.getfield 19, 3, 10, 1) := rfl
theorem j127_91 : mm_cd 127 91 = some (.invokespecial 37, 3, 0, 110) := rfl
theorem j127_94 : mm_cd 127 94 = some (.putfield 47, 3, 10, 6) := rfl
theorem j127_97 : mm_cd 127 97 = some (.aload_n 0, 1, 0, 0) := rfl
theorem j127_98 : mm_cd 127 98 = some (.new 50, 3, 0, 7) := rfl
theorem j127_101 : mm_cd 127 101 = some (.dup, 1, 0, 0) := rfl
theorem j127_102 : mm_cd 127 102 = some (.aload_n 0, 1, 0, 0) := rfl
theorem j127_103 : mm_cd 127 103 = some (.getfield 10, 3, 10, 0) := rfl
theorem j127_106 : mm_cd 127 106 = some (.invokespecial 52, 3, 0, 91) := rfl
theorem j127_109 : mm_cd 127 109 = some (.putfield 53, 3, 10, 7) := rfl
theorem j127_112 : mm_cd 127 112 = some (.aload_n 0, 1, 0, 0) := rfl
theorem j127_113 : mm_cd 127 113 = some (.new 57, 3, 0, 5) := rfl
theorem j127_116 : mm_cd 127 116 = some (.dup, 1, 0, 0) := rfl
theorem j127_117 : mm_cd 127 117 = some (.aload_n 0, 1, 0, 0) := rfl
theorem j127_118 : mm_cd 127 118 = some (.getfield 40, 3, 10, 4) := rfl
theorem j127_121 : mm_cd 127 121 = some (.getfield 59, 3, 9, 1) := rfl
theorem j127_124 : mm_cd 127 124 = some (.invokespecial 63, 3, 0, 48) := rfl
theorem j127_127 : mm_cd 127 127 = some (.putfield 66, 3, 10, 8) := rfl
theorem j127_130 : mm_cd 127 130 = some (.aload_n 0, 1, 0, 0) := rfl
theorem j127_131 : mm_cd 127 131 = some (.bipush 12, 2, 0, 0) := rfl
theorem j127_133 : mm_cd 127 133 = some (.anewarray 35, 3, 0, 0) := rfl
theorem j127_136 : mm_cd 127 136 = some (.putfield 70, 3, 10, 9) := rfl
theorem j127_139 : mm_cd 127 139 = some (.aload_n 0, 1, 0, 0) := rfl
theorem j127_140 : mm_cd 127 140 = some (.iconst 0, 1, 0, 0) := rfl
theorem j127_141 : mm_cd 127 141 = some (.putfield 74, 3, 10, 10) := rfl
theorem j127_144 : mm_cd 127 144 = some (.aload_n 0, 1, 0, 0) := rfl
theorem j127_145 : mm_cd 127 145 = some (.iconst 0, 1, 0, 0) := rfl
theorem j127_146 : mm_cd 127 146 = some (.putfield 78, 3, 10, 11) := rfl
theorem j127_149 : mm_cd 127 149 = some (.aload_n 0, 1, 0, 0) := rfl
theorem j127_150 : mm_cd 127 150 = some (.iconst 0, 1, 0, 0) := rfl
theorem j127_151 : mm_cd 127 151 = some (.putfield 81, 3, 10, 12) := rfl
theorem j127_154 : mm_cd 127 154 = some (.aload_n 0, 1, 0, 0) := rfl
theorem j127_155 : mm_cd 127 155 = some (.iconst (-1), 1, 0, 0) := rfl
theorem j127_156 : mm_cd 127 156 = some (.putfield 85, 3, 10, 13) := rfl
theorem j127_159 : mm_cd 127 159 = some (.iconst 0, 1, 0, 0) := rfl
theorem j127_160 : mm_cd 127 160 = some (.istore_n 1, 1, 0, 0) := rfl
theorem j127_161 : mm_cd 127 161 = some (.iload_n 1, 1, 0, 0) := rfl
theorem j127_162 : mm_cd 127 162 = some (.bipush 12, 2, 0, 0) := rfl
theorem j127_164 : mm_cd 127 164 = some (.if_icmp .ge 26, 3, 0, 0) := rfl
theorem j127_167 : mm_cd 127 167 = some (.aload_n 0, 1, 0, 0) := rfl
theorem j127_168 : mm_cd 127 168 = some (.getfield 70, 3, 10, 9) := rfl
theorem j127_171 : mm_cd 127 171 = some (.iload_n 1, 1, 0, 0) := rfl
theorem j127_172 : mm_cd 127 172 = some (.new 35, 3, 0, 9) := rfl
theorem j127_175 : mm_cd 127 175 = some (.dup, 1, 0, 0) := rfl
theorem j127_176 : mm_cd 127 176 = some (.aload_n 0, 1, 0, 0) := rfl
theorem j127_177 : mm_cd 127 177 = some (.getfield 19, 3, 10, 1) := rfl
theorem j127_180 : mm_cd 127 180 = some (.invokespecial 37, 3, 0, 110) := rfl
theorem j127_183 : mm_cd 127 183 = some (.aastore, 1, 0, 0) := rfl
theorem j127_184 : mm_cd 127 184 = some (.iinc 1 1, 3, 0, 0) := rfl
theorem j127_187 : mm_cd 127 187 = some (.goto (-26), 3, 0, 0) := rfl
theorem j127_190 : mm_cd 127 190 = some (.return_, 1, 0, 0) := rfl
theorem H127 : mm_hd 127 = some (10, 2, none, true, []) := rfl
theorem cal127 : mm_cal 127 10 0 (10, 2, none, true, []) := ⟨rfl, rfl, rfl⟩
theorem dv10 : (mm_defv 10).length = 14 := rfl
/-! THE GATE -/
def gF : List Value := [.ref 1, .ref 3, .ref 10, .ref 17, .ref 26, .ref 58, .ref 90, .ref 122, .ref 123, .ref 127, .int (nI 0), .int (nI 0), .int (nI 0), .int (-nI 1)]
def gT : List va_E := ((((((((([] ++ W97 1) ++ W20 3) ++ W20 10) ++ W27 17 1) ++ W110 26 3) ++ W110 58 3) ++ W110 90 3) ++ W91 122 1) ++ W48 123 27)
def gP : List va_E := [] ++ oC 10 gF :: gT
def fA (j : Nat) : Nat → Option Nat := fun i => if i < j then some (128 + 32 * i) else none
def wT (j : Nat) : List va_E := (List.range j).flatMap (fun i => W110 (128 + 32 * i) 3)
theorem wT_s {j : Nat} : wT (j + 1) = wT j ++ W110 (128 + 32 * j) 3 := by
  unfold wT
  rw [List.range_succ, List.flatMap_append]
  simp only [List.flatMap_cons, List.flatMap_nil, List.append_nil]
theorem wT_l : ∀ j, (wT j).length = 32 * j
  | 0 => rfl
  | j + 1 => by rw [wT_s, List.length_append, wT_l j]; show 32 * j + 32 = _; omega
theorem gP_l : gP.length = 127 := by decide +kernel
def hT (j : Nat) : List va_E := gP ++ oA (fA j) :: wT j
theorem hT_l {j : Nat} : (hT j).length = 128 + 32 * j := by
  unfold hT
  rw [List.length_append, List.length_cons, gP_l, wT_l]; omega
theorem hT_0 {u : List va_E} : ∀ {j : Nat}, (hT j ++ u)[0]? = some (oC 10 gF) := rfl
theorem fA_s {j v : Nat} (hv : 128 + 32 * j = v) : va_up (fA j) j (some v) = fA (j + 1) := by
  subst hv
  funext i
  unfold va_up fA
  by_cases h : i = j
  · subst h
    rw [if_pos rfl, if_pos (by omega)]
  · rw [if_neg h]
    by_cases h2 : i < j
    · rw [if_pos h2, if_pos (by omega)]
    · rw [if_neg h2, if_neg (by omega)]
def lG (j : Nat) : mm_L := [(1, .int (nI j)), (0, .ref 0)]
section GA
variable {L : Nat} {xs : Nat → Int32}
theorem mkL1 {d j n k : Nat} {r : mm_R} (hd : 1 < d) (hj : j < 12) (kont : Ev L xs d 127 161 (lG (j + 1)) [] (hT (j + 1), true, n + 32, k + 807) r) : Ev L xs d 127 161 (lG j) [] (hT j, true, n, k) r := by
  refine Ev.iload_n H127 j127_161 rfl ?_
  refine Ev.bipush H127 j127_162 (show (Int8.ofInt 12).toInt32 = nI 12 by decide) ?_
  refine Ev.ic_ge H127 j127_164 (t := 190) (by decide) (fun e => ?_) (fun _ => ?_)
  · rw [nI_lev (by omega) (by omega)] at e; omega
  refine Ev.aload_n H127 j127_167 rfl ?_
  refine Mget H127 j127_168 (ci := 10) (fs := gF) (v := .ref 127) rfl (by rw [← List.append_nil (hT j)]; exact hT_0) rfl ?_
  refine Ev.iload_n H127 j127_171 rfl ?_
  refine Mnew H127 j127_172 dv9 ?_
  refine Ev.dup H127 j127_175 rfl ?_
  refine Ev.aload_n H127 j127_176 rfl ?_
  refine Mget H127 j127_177 (ci := 10) (fs := gF) (v := .ref 3) rfl hT_0 rfl ?_
  refine Mcall (As := [.ref 3]) H127 j127_180 cal110 rfl (Nat.le_of_ble_eq_true rfl) (Nat.le_of_ble_eq_true rfl) hd rfl (fun e he => mk110 (x := 3) rfl e he) ?_
  rw [hT_l]
  refine Maa (f := fA j) (j := j) (gs := [.ref 3, .ref (128 + 32 * j + 1), .ref (128 + 32 * j + 6), .ref (128 + 32 * j + 18), .ref (128 + 32 * j + 26), .ref (128 + 32 * j + 28), .ref (128 + 32 * j + 29), .ref (128 + 32 * j + 30), .ref (128 + 32 * j + 31), .int (nI 0), .int (nI 3), .int (nI 0), .int (nI 1), .int (nI 0)]) H127 j127_183 (l' := hT (j + 1)) ?_ ?_ hj ?_ ?_
  · unfold hT
    rw [app_e]
    exact mkG gP gP_l
  · exact mkG (hT j) hT_l
  · rw [fA_s rfl]
    unfold hT
    rw [app_e, mkS gP gP_l, wT_s]
  refine Ev.iinc H127 j127_184 (by decide) (x := nI j) (c := nI 1) (lv2 := lG (j + 1)) rfl (by decide) ?_ ?_
  · rw [nI_add]; rfl
  refine Ev.goto H127 j127_187 (t := 161) (by decide) ?_
  exact Mheap rfl (by omega) (by omega) kont
theorem mkL12 {d n k : Nat} {r : mm_R} (hd : 1 < d) : ∀ m j, j + m = 12 → Ev L xs d 127 161 (lG 12) [] (hT 12, true, n + 32 * m, k + 807 * m) r → Ev L xs d 127 161 (lG j) [] (hT j, true, n, k) r := by
  intro m
  induction m generalizing n k with
  | zero =>
    intro j hj kk
    have e : j = 12 := by omega
    subst e
    exact Mheap rfl (by omega) (by omega) kk
  | succ m ih =>
    intro j hj kk
    refine mkL1 hd (by omega) (ih (j + 1) (by omega) ?_)
    exact Mheap rfl (by omega) (by omega) kk
theorem mk127 : ∀ e, 2 ≤ e → Cl L xs e 127 [.ref 0] ([] ++ [oC 10 (mm_defv 10)], true, 1, 14) (.inl none, ([] ++ hT 12, true, 1 + 511, 14 + 14052)) := by
  intro e he
  have l0 : mm_look (lv_args 0 [.ref 0]) 0 = some (.ref 0) := rfl
  unfold Cl
  refine Ev.aload_n H127 j127_0 l0 ?_
  refine Mob H127 j127_1 (Nat.le_of_ble_eq_true rfl) ?_
  refine MNC (b := 0) (q := 1) (dj := 0) H127 j127_4 j127_5 j127_8 j127_9 j127_12 cal97 dv8 (Nat.le_of_ble_eq_true rfl) (by omega) rfl (by simp only [List.length_set, dv10] <;> decide) rfl (Or.inr ⟨rfl, rfl⟩) rfl l0 (by decide +kernel) (fun p1 n1 k1 hp1 e1 he1 => mk97 hp1 e1 he1) ?_
  refine MNC (b := 0) (q := 3) (dj := 0) H127 j127_15 j127_16 j127_19 j127_20 j127_23 cal20 dv2 (Nat.le_of_ble_eq_true rfl) (by omega) rfl (by simp only [List.length_set, dv10] <;> decide) rfl (Or.inr ⟨rfl, rfl⟩) rfl l0 (by decide +kernel) (fun p1 n1 k1 hp1 e1 he1 => mk20 hp1 e1 he1) ?_
  refine MNC (b := 0) (q := 10) (dj := 0) H127 j127_26 j127_27 j127_30 j127_31 j127_34 cal20 dv2 (Nat.le_of_ble_eq_true rfl) (by omega) rfl (by simp only [List.length_set, dv10] <;> decide) rfl (Or.inr ⟨rfl, rfl⟩) rfl l0 (by decide +kernel) (fun p1 n1 k1 hp1 e1 he1 => mk20 hp1 e1 he1) ?_
  refine MNX (b := 0) (q := 17) (w := 4) (x := .ref 1) (dj := 1) H127 j127_37 j127_38 j127_41 (fun kont => Ev.aload_n H127 j127_42 l0 (Mget H127 j127_43 (ci := 10) (v := .ref 1) rfl (mkG [] rfl) rfl kont)) j127_46 j127_49 cal27 dv3 (Nat.le_of_ble_eq_true rfl) (by omega) rfl (by simp only [List.length_set, dv10] <;> decide) rfl (Or.inr ⟨rfl, rfl⟩) rfl l0 (by decide +kernel) (fun p1 n1 k1 hp1 e1 he1 => mk27 (x := 1) hp1 e1 he1) ?_
  refine MNX (b := 0) (q := 26) (w := 4) (x := .ref 3) (dj := 1) H127 j127_52 j127_53 j127_56 (fun kont => Ev.aload_n H127 j127_57 l0 (Mget H127 j127_58 (ci := 10) (v := .ref 3) rfl (mkG [] rfl) rfl kont)) j127_61 j127_64 cal110 dv9 (Nat.le_of_ble_eq_true rfl) (by omega) rfl (by simp only [List.length_set, dv10] <;> decide) rfl (Or.inr ⟨rfl, rfl⟩) rfl l0 (by decide +kernel) (fun p1 n1 k1 hp1 e1 he1 => mk110 (x := 3) hp1 e1 he1) ?_
  refine MNX (b := 0) (q := 58) (w := 4) (x := .ref 3) (dj := 1) H127 j127_67 j127_68 j127_71 (fun kont => Ev.aload_n H127 j127_72 l0 (Mget H127 j127_73 (ci := 10) (v := .ref 3) rfl (mkG [] rfl) rfl kont)) j127_76 j127_79 cal110 dv9 (Nat.le_of_ble_eq_true rfl) (by omega) rfl (by simp only [List.length_set, dv10] <;> decide) rfl (Or.inr ⟨rfl, rfl⟩) rfl l0 (by decide +kernel) (fun p1 n1 k1 hp1 e1 he1 => mk110 (x := 3) hp1 e1 he1) ?_
  refine MNX (b := 0) (q := 90) (w := 4) (x := .ref 3) (dj := 1) H127 j127_82 j127_83 j127_86 (fun kont => Ev.aload_n H127 j127_87 l0 (Mget H127 j127_88 (ci := 10) (v := .ref 3) rfl (mkG [] rfl) rfl kont)) j127_91 j127_94 cal110 dv9 (Nat.le_of_ble_eq_true rfl) (by omega) rfl (by simp only [List.length_set, dv10] <;> decide) rfl (Or.inr ⟨rfl, rfl⟩) rfl l0 (by decide +kernel) (fun p1 n1 k1 hp1 e1 he1 => mk110 (x := 3) hp1 e1 he1) ?_
  refine MNX (b := 0) (q := 122) (w := 4) (x := .ref 1) (dj := 0) H127 j127_97 j127_98 j127_101 (fun kont => Ev.aload_n H127 j127_102 l0 (Mget H127 j127_103 (ci := 10) (v := .ref 1) rfl (mkG [] rfl) rfl kont)) j127_106 j127_109 cal91 dv7 (Nat.le_of_ble_eq_true rfl) (by omega) rfl (by simp only [List.length_set, dv10] <;> decide) rfl (Or.inr ⟨rfl, rfl⟩) rfl l0 (by decide +kernel) (fun p1 n1 k1 hp1 e1 he1 => mk91 (x := 1) hp1 e1 he1) ?_
  refine MNX (b := 0) (q := 123) (w := 7) (x := .ref 27) (dj := 0) H127 j127_112 j127_113 j127_116 (fun kont => Ev.aload_n H127 j127_117 l0 (Mget H127 j127_118 (ci := 10) (v := .ref 26) rfl (mkG [] rfl) rfl (Mget H127 j127_121 (ci := 9) (fs := [.ref 3, .ref (26 + 1), .ref (26 + 6), .ref (26 + 18), .ref (26 + 26), .ref (26 + 28), .ref (26 + 29), .ref (26 + 30), .ref (26 + 31), .int (nI 0), .int (nI 3), .int (nI 0), .int (nI 1), .int (nI 0)]) (v := .ref 27) rfl rfl rfl kont))) j127_124 j127_127 cal48 dv5 (Nat.le_of_ble_eq_true rfl) (by omega) rfl (by simp only [List.length_set, dv10] <;> decide) rfl (Or.inr ⟨rfl, rfl⟩) rfl l0 (by decide +kernel) (fun p1 n1 k1 hp1 e1 he1 => mk48 (x := 27) hp1 e1 he1) ?_
  refine MNR (b := 0) (w := 2) (q := 127) H127 j127_130 (fun kk => Ev.bipush H127 j127_131 (by decide) kk) j127_133 j127_136 rfl (by simp only [List.length_set, dv10] <;> decide) rfl (Or.inr ⟨rfl, rfl⟩) rfl l0 (by decide +kernel) ?_
  refine MPI (b := 0) H127 j127_139 j127_140 j127_141 (show Int32.ofInt (0) = nI 0 by decide) rfl (by simp only [List.length_set, dv10] <;> decide) (by decide) (Or.inr ⟨rfl, rfl⟩) rfl l0 ?_
  refine MPI (b := 0) H127 j127_144 j127_145 j127_146 (show Int32.ofInt (0) = nI 0 by decide) rfl (by simp only [List.length_set, dv10] <;> decide) (by decide) (Or.inr ⟨rfl, rfl⟩) rfl l0 ?_
  refine MPI (b := 0) H127 j127_149 j127_150 j127_151 (show Int32.ofInt (0) = nI 0 by decide) rfl (by simp only [List.length_set, dv10] <;> decide) (by decide) (Or.inr ⟨rfl, rfl⟩) rfl l0 ?_
  refine MPI (b := 0) H127 j127_154 j127_155 j127_156 (show Int32.ofInt (-1) = -nI 1 by decide) rfl (by simp only [List.length_set, dv10] <;> decide) (by decide) (Or.inr ⟨rfl, rfl⟩) rfl l0 ?_
  rw [← app_e]
  refine Mheap (l' := hT 0) ?_ rfl rfl ?_
  · show ([] ++ oC 10 _ :: _) ++ [oA (fun _ => none)] = gP ++ oA (fA 0) :: wT 0
    have : fA 0 = fun _ => none := by funext i; unfold fA; rw [if_neg (by omega)]
    rw [this]; rfl
  refine Ev.iconst H127 j127_159 (show Int32.ofInt 0 = nI 0 by decide) ?_
  refine Ev.istore_n H127 j127_160 (by decide) (lv2 := lG 0) rfl ?_
  refine mkL12 (by omega) 12 0 rfl ?_
  refine Ev.iload_n H127 j127_161 rfl ?_
  refine Ev.bipush H127 j127_162 (show (Int8.ofInt 12).toInt32 = nI 12 by decide) ?_
  refine Ev.ic_ge H127 j127_164 (t := 190) (by decide) (fun _ => ?_) (fun e => absurd (show nI 12 ≤ nI 12 from Int32.le_refl _) e)
  exact Mret H127 j127_190 rfl rfl (by omega) (by omega)
end GA
