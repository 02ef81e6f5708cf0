theorem j191_0 : mm_cd 191 0 = some (.aload_n 0, 1, 0, 0) := rfl
theorem j191_1 : mm_cd 191 1 = some (.invokespecial 7, 3, 1, 0) := rfl
theorem j191_4 : mm_cd 191 4 = some (.aload_n 0, 1, 0, 0) := rfl
theorem j191_5 : mm_cd 191 5 = some (.sipush 2468, 3, 0, 0) := rfl
theorem j191_8 : mm_cd 191 8 = some (.newarray .int, 2, 0, 0) := rfl
theorem j191_10 : mm_cd 191 10 = some (.putfield 13, 3, 11, 1) := rfl
theorem j191_13 : mm_cd 191 13 = some (.aload_n 0, 1, 0, 0) := rfl
theorem j191_14 : mm_cd 191 14 = some (.sipush 1619, 3, 0, 0) := rfl
theorem j191_17 : mm_cd 191 17 = some (.newarray .int, 2, 0, 0) := rfl
theorem j191_19 : mm_cd 191 19 = some (.putfield 17, 3, 11, 2) := rfl
theorem j191_22 : mm_cd 191 22 = some (.aload_n 0, 1, 0, 0) := rfl
theorem j191_23 : mm_cd 191 23 = some (.sipush 1619, 3, 0, 0) := rfl
theorem j191_26 : mm_cd 191 26 = some (.newarray .int, 2, 0, 0) := rfl
theorem j191_28 : mm_cd 191 28 = some (.putfield 20, 3, 11, 3) := rfl
theorem j191_31 : mm_cd 191 31 = some (.aload_n 0, 1, 0, 0) := rfl
theorem j191_32 : mm_cd 191 32 = some (.sipush 770, 3, 0, 0) := rfl
theorem j191_35 : mm_cd 191 35 = some (.newarray .int, 2, 0, 0) := rfl
theorem j191_37 : mm_cd 191 37 = some (.putfield 23, 3, 11, 4) := rfl
theorem j191_40 : mm_cd 191 40 = some (.aload_n 0, 1, 0, 0) := rfl
theorem j191_41 : mm_cd 191 41 = some (.sipush 9240, 3, 0, 0) := rfl
theorem j191_44 : mm_cd 191 44 = some (.newarray .int, 2, 0, 0) := rfl
theorem j191_46 : mm_cd 191 46 = some (.putfield 26, 3, 11, 5) := rfl
theorem j191_49 : mm_cd 191 49 = some (.aload_n 0, 1, 0, 0) := rfl
theorem j191_50 : mm_cd 191 50 = some (.sipush 400, 3, 0, 0) := rfl
theorem j191_53 : mm_cd 191 53 = some (.newarray .byte, 2, 0, 0) := rfl
theorem j191_55 : mm_cd 191 55 = some (.putfield 29, 3, 11, 8) := rfl
theorem j191_58 : mm_cd 191 58 = some (.aload_n 0, 1, 0, 0) := rfl
theorem j191_59 : mm_cd 191 59 = some (.iconst (-1), 1, 0, 0) := rfl
theorem j191_60 : mm_cd 191 60 = some (.putfield 33, 3, 11, 14) := rfl
theorem j191_63 : mm_cd 191 63 = some (.aload_n 0, 1, 0, 0) := rfl
theorem j191_64 : mm_cd 191 64 = some (.iconst 5, 1, 0, 0) := rfl
theorem j191_65 : mm_cd 191 65 = some (.newarray .int, 2, 0, 0) := rfl
theorem j191_67 : mm_cd 191 67 = some (.putfield 36, 3, 11, 15) := rfl
theorem j191_70 : mm_cd 191 70 = some (.aload_n 0, 1, 0, 0) := rfl
theorem j191_71 : mm_cd 191 71 = some (.sipush 400, 3, 0, 0) := rfl
theorem j191_74 : mm_cd 191 74 = some (.newarray .int, 2, 0, 0) := rfl
theorem j191_76 : mm_cd 191 76 = some (.putfield 39, 3, 11, 17) := rfl
theorem j191_79 : mm_cd 191 79 = some (.aload_n 0, 1, 0, 0) := rfl
theorem j191_80 : mm_cd 191 80 = some (.iconst 5, 1, 0, 0) := rfl
theorem j191_81 : mm_cd 191 81 = some (.newarray .int, 2, 0, 0) := rfl
theorem j191_83 : mm_cd 191 83 = some (.putfield 42, 3, 11, 19) := rfl
theorem j191_86 : mm_cd 191 86 = some (.aload_n 0, 1, 0, 0) := rfl
theorem j191_87 : mm_cd 191 87 = some (.bipush 32, 2, 0, 0) := rfl
theorem j191_89 : mm_cd 191 89 = some (.newarray .int, 2, 0, 0) := rfl
theorem j191_91 : mm_cd 191 91 = some (.putfield 45, 3, 11, 21) := rfl
theorem j191_94 : mm_cd 191 94 = some (.aload_n 0, 1, 0, 0) := rfl
theorem j191_95 : mm_cd 191 95 = some (.bipush 6, 2, 0, 0) := rfl
theorem j191_97 : mm_cd 191 97 = some (.newarray .long, 2, 0, 0) := rfl
theorem j191_99 : mm_cd 191 99 = some (.putfield 48, 3, 11, 22) := rfl
theorem j191_102 : mm_cd 191 102 = some (.aload_n 0, 1, 0, 0) := rfl
theorem j191_103 : mm_cd 191 103 = some (.getfield 13, 3, 11, 1) := rfl
theorem j191_106 : mm_cd 191 106 = some (.bipush 8, 2, 0, 0) := rfl
theorem j191_108 : mm_cd 191 108 = some (.iconst 1, 1, 0, 0) := rfl
theorem j191_109 : mm_cd 191 109 = some (.iastore, 1, 0, 0) := rfl
theorem j191_110 : mm_cd 191 110 = some (.aload_n 0, 1, 0, 0) := rfl
theorem j191_111 : mm_cd 191 111 = some (.getfield 13, 3, 11, 1) := rfl
theorem j191_114 : mm_cd 191 114 = some (.iconst 4, 1, 0, 0) := rfl
theorem j191_115 : mm_cd 191 115 = some (.iconst 3, 1, 0, 0) := rfl
theorem j191_116 : mm_cd 191 116 = some (.iastore, 1, 0, 0) := rfl
theorem j191_117 : mm_cd 191 117 = some (.return_, 1, 0, 0) := rfl
theorem H191 : mm_hd 191 = some (11, 1, none, true, []) := rfl
theorem cal191 : mm_cal 191 11 0 (11, 1, none, true, []) := ⟨rfl, rfl, rfl⟩
theorem dv11 : (mm_defv 11).length = 23 := rfl
def f513 : Nat → Int32 := upd (upd (fun _ => 0) 8 (nI 1)) 4 (nI 3)
def mF (b : Nat) : List Value := [.int (nI 0), .ref (b + 1), .ref (b + 2), .ref (b + 3), .ref (b + 4), .ref (b + 5), .int (nI 0), .int (nI 0), .ref (b + 6), .int (nI 0), .int (nI 0), .int (nI 0), .int (nI 0), .int (nI 0), .int (-nI 1), .ref (b + 7), .int (nI 0), .ref (b + 8), .int (nI 0), .ref (b + 9), .int (nI 0), .ref (b + 10), .ref (b + 11)]
def W191 (b : Nat) (f : Nat → Int32) : List va_E := [oC 11 (mF b), .inl (0, 2468, .inl f), ZA 1619, ZA 1619, ZA 770, ZA 9240, .inl (1, 400, .inl (fun _ => 0)), ZA 5, ZA 400, ZA 5, ZA 32, .inl (2, 6, .inr (.inl (fun _ => 0)))]
theorem mk191 {L : Nat} {xs : Nat → Int32} {p : List va_E} {b n k : Nat} (hb : p.length = b) : ∀ e, 0 ≤ e → Cl L xs e 191 [.ref b] (p ++ [oC 11 (mm_defv 11)], true, n, k) (.inl none, (p ++ W191 b f513, true, n + 11, k + 16564)) := by
  intro e he
  have l0 : mm_look (lv_args 0 [.ref b]) 0 = some (.ref b) := rfl
  unfold Cl
  generalize lv_args 0 [.ref b] = lv at l0 ⊢
  refine Ev.aload_n H191 j191_0 l0 ?_
  refine Mob H191 j191_1 (Nat.le_of_ble_eq_true rfl) ?_
  refine MNA (m := 2468) (w := 3) (q := 1) H191 j191_4 (fun kk => Ev.sipush H191 j191_5 (by decide) kk) j191_8 j191_10 (by decide) rfl (by simp only [List.length_set, dv11] <;> decide) rfl (Or.inr ⟨rfl, rfl⟩) hb l0 rfl ?_
  refine MNA (m := 1619) (w := 3) (q := 2) H191 j191_13 (fun kk => Ev.sipush H191 j191_14 (by decide) kk) j191_17 j191_19 (by decide) rfl (by simp only [List.length_set, dv11] <;> decide) rfl (Or.inr ⟨rfl, rfl⟩) hb l0 rfl ?_
  refine MNA (m := 1619) (w := 3) (q := 3) H191 j191_22 (fun kk => Ev.sipush H191 j191_23 (by decide) kk) j191_26 j191_28 (by decide) rfl (by simp only [List.length_set, dv11] <;> decide) rfl (Or.inr ⟨rfl, rfl⟩) hb l0 rfl ?_
  refine MNA (m := 770) (w := 3) (q := 4) H191 j191_31 (fun kk => Ev.sipush H191 j191_32 (by decide) kk) j191_35 j191_37 (by decide) rfl (by simp only [List.length_set, dv11] <;> decide) rfl (Or.inr ⟨rfl, rfl⟩) hb l0 rfl ?_
  refine MNA (m := 9240) (w := 3) (q := 5) H191 j191_40 (fun kk => Ev.sipush H191 j191_41 (by decide) kk) j191_44 j191_46 (by decide) rfl (by simp only [List.length_set, dv11] <;> decide) rfl (Or.inr ⟨rfl, rfl⟩) hb l0 rfl ?_
  refine MNB (m := 400) (w := 3) (q := 6) H191 j191_49 (fun kk => Ev.sipush H191 j191_50 (by decide) kk) j191_53 j191_55 (by decide) rfl (by simp only [List.length_set, dv11] <;> decide) rfl (Or.inr ⟨rfl, rfl⟩) hb l0 rfl ?_
  refine MPI H191 j191_58 j191_59 j191_60 (show Int32.ofInt (-1) = -nI 1 by decide) rfl (by simp only [List.length_set, dv11] <;> decide) (by decide) (Or.inr ⟨rfl, rfl⟩) hb l0 ?_
  refine MNA (m := 5) (w := 1) (q := 7) H191 j191_63 (fun kk => Ev.iconst H191 j191_64 (by decide) kk) j191_65 j191_67 (by decide) rfl (by simp only [List.length_set, dv11] <;> decide) rfl (Or.inr ⟨rfl, rfl⟩) hb l0 rfl ?_
  refine MNA (m := 400) (w := 3) (q := 8) H191 j191_70 (fun kk => Ev.sipush H191 j191_71 (by decide) kk) j191_74 j191_76 (by decide) rfl (by simp only [List.length_set, dv11] <;> decide) rfl (Or.inr ⟨rfl, rfl⟩) hb l0 rfl ?_
  refine MNA (m := 5) (w := 1) (q := 9) H191 j191_79 (fun kk => Ev.iconst H191 j191_80 (by decide) kk) j191_81 j191_83 (by decide) rfl (by simp only [List.length_set, dv11] <;> decide) rfl (Or.inr ⟨rfl, rfl⟩) hb l0 rfl ?_
  refine MNA (m := 32) (w := 2) (q := 10) H191 j191_86 (fun kk => Ev.bipush H191 j191_87 (by decide) kk) j191_89 j191_91 (by decide) rfl (by simp only [List.length_set, dv11] <;> decide) rfl (Or.inr ⟨rfl, rfl⟩) hb l0 rfl ?_
  refine MNL (m := 6) (w := 2) (q := 11) H191 j191_94 (fun kk => Ev.bipush H191 j191_95 (by decide) kk) j191_97 j191_99 (by decide) rfl (by simp only [List.length_set, dv11] <;> decide) rfl (Or.inr ⟨rfl, rfl⟩) hb l0 rfl ?_
  refine Mheap (l' := p ++ W191 b (fun _ => 0)) (n' := n + 11) (k' := k + 16564) rfl (by omega) (by omega) ?_
  have hx : ∀ f, (p ++ W191 b f) = (p ++ [oC 11 (mF b)]) ++ .inl (0, 2468, .inl f) :: (W191 b f).drop 2 := fun f => by rw [List.append_assoc]; rfl
  have hlen : (p ++ [oC 11 (mF b)]).length = b + 1 := by rw [List.length_append, hb]; rfl
  have hg : ∀ f, (p ++ W191 b f)[b]? = some (oC 11 (mF b)) := fun f => mkG p hb
  have hg1 : ∀ f, (p ++ W191 b f)[b + 1]? = some (.inl (0, 2468, .inl f)) := fun f => by rw [hx]; exact mkG _ hlen
  have hs1 : ∀ f g, (p ++ W191 b f).set (b + 1) (.inl (0, 2468, .inl g)) = p ++ W191 b g := fun f g => by rw [hx, mkS _ hlen, hx]; rfl
  refine Ev.aload_n H191 j191_102 l0 ?_
  refine Mget H191 j191_103 (ci := 11) (v := .ref (b + 1)) rfl (hg _) rfl ?_
  refine Ev.bipush H191 j191_106 (show (Int8.ofInt 8).toInt32 = nI 8 by decide) ?_
  refine Ev.iconst H191 j191_108 (show Int32.ofInt 1 = nI 1 by decide) ?_
  refine Mia H191 j191_109 (hg1 _) (by omega) (by omega) (hs1 _ _) ?_
  refine Ev.aload_n H191 j191_110 l0 ?_
  refine Mget H191 j191_111 (ci := 11) (v := .ref (b + 1)) rfl (hg _) rfl ?_
  refine Ev.iconst H191 j191_114 (show Int32.ofInt 4 = nI 4 by decide) ?_
  refine Ev.iconst H191 j191_115 (show Int32.ofInt 3 = nI 3 by decide) ?_
  refine Mia H191 j191_116 (hg1 _) (by omega) (by omega) (hs1 _ _) ?_
  exact Mret H191 j191_117 rfl rfl rfl rfl
