/-! THE LAW'S LOOP: cases -/
set_option maxRecDepth 100000 in
theorem i372_891 : mm_cd 372 891 = some (.aload_n 1, 1, 0, 0) := rfl
set_option maxRecDepth 100000 in
theorem i372_892 : mm_cd 372 892 = some (.aload_n 0, 1, 0, 0) := rfl
set_option maxRecDepth 100000 in
theorem i372_893 : mm_cd 372 893 = some (.iload 4, 2, 0, 0) := rfl
set_option maxRecDepth 100000 in
theorem i372_895 : mm_cd 372 895 = some (.iconst 1, 1, 0, 0) := rfl
set_option maxRecDepth 100000 in
theorem i372_896 : mm_cd 372 896 = some (.iadd, 1, 0, 0) := rfl
set_option maxRecDepth 100000 in
theorem i372_897 : mm_cd 372 897 = some (.iaload, 1, 0, 0) := rfl
set_option maxRecDepth 100000 in
theorem i372_898 : mm_cd 372 898 = some (.aload_n 0, 1, 0, 0) := rfl
set_option maxRecDepth 100000 in
theorem i372_899 : mm_cd 372 899 = some (.iload 4, 2, 0, 0) := rfl
set_option maxRecDepth 100000 in
theorem i372_901 : mm_cd 372 901 = some (.iconst 2, 1, 0, 0) := rfl
set_option maxRecDepth 100000 in
theorem i372_902 : mm_cd 372 902 = some (.iadd, 1, 0, 0) := rfl
set_option maxRecDepth 100000 in
theorem i372_903 : mm_cd 372 903 = some (.iaload, 1, 0, 0) := rfl
set_option maxRecDepth 100000 in
theorem i372_904 : mm_cd 372 904 = some (.aload_n 3, 1, 0, 0) := rfl
set_option maxRecDepth 100000 in
theorem i372_905 : mm_cd 372 905 = some (.invokestatic 163, 3, 0, 353) := rfl
set_option maxRecDepth 100000 in
theorem i372_908 : mm_cd 372 908 = some (.istore 5, 2, 0, 0) := rfl
set_option maxRecDepth 100000 in
theorem i372_910 : mm_cd 372 910 = some (.aload_n 2, 1, 0, 0) := rfl
set_option maxRecDepth 100000 in
theorem i372_911 : mm_cd 372 911 = some (.aload_n 0, 1, 0, 0) := rfl
set_option maxRecDepth 100000 in
theorem i372_912 : mm_cd 372 912 = some (.iload 4, 2, 0, 0) := rfl
set_option maxRecDepth 100000 in
theorem i372_914 : mm_cd 372 914 = some (.iconst 1, 1, 0, 0) := rfl
set_option maxRecDepth 100000 in
theorem i372_915 : mm_cd 372 915 = some (.iadd, 1, 0, 0) := rfl
set_option maxRecDepth 100000 in
theorem i372_916 : mm_cd 372 916 = some (.iaload, 1, 0, 0) := rfl
set_option maxRecDepth 100000 in
theorem i372_917 : mm_cd 372 917 = some (.aload_n 0, 1, 0, 0) := rfl
set_option maxRecDepth 100000 in
theorem i372_918 : mm_cd 372 918 = some (.iload 4, 2, 0, 0) := rfl
set_option maxRecDepth 100000 in
theorem i372_920 : mm_cd 372 920 = some (.iconst 2, 1, 0, 0) := rfl
set_option maxRecDepth 100000 in
theorem i372_921 : mm_cd 372 921 = some (.iadd, 1, 0, 0) := rfl
set_option maxRecDepth 100000 in
theorem i372_922 : mm_cd 372 922 = some (.iaload, 1, 0, 0) := rfl
set_option maxRecDepth 100000 in
theorem i372_923 : mm_cd 372 923 = some (.invokevirtual 165, 3, 0, 285) := rfl
set_option maxRecDepth 100000 in
theorem i372_926 : mm_cd 372 926 = some (.istore 6, 2, 0, 0) := rfl
set_option maxRecDepth 100000 in
theorem i372_928 : mm_cd 372 928 = some (.aload_n 2, 1, 0, 0) := rfl
set_option maxRecDepth 100000 in
theorem i372_929 : mm_cd 372 929 = some (.invokevirtual 130, 3, 0, 187) := rfl
set_option maxRecDepth 100000 in
theorem i372_932 : mm_cd 372 932 = some (.iload 5, 2, 0, 0) := rfl
set_option maxRecDepth 100000 in
theorem i372_934 : mm_cd 372 934 = some (.if_icmp .eq 5, 3, 0, 0) := rfl
set_option maxRecDepth 100000 in
theorem i372_937 : mm_cd 372 937 = some (.iconst 0, 1, 0, 0) := rfl
set_option maxRecDepth 100000 in
theorem i372_938 : mm_cd 372 938 = some (.ireturn, 1, 0, 0) := rfl
set_option maxRecDepth 100000 in
theorem i372_939 : mm_cd 372 939 = some (.iload 5, 2, 0, 0) := rfl
set_option maxRecDepth 100000 in
theorem i372_941 : mm_cd 372 941 = some (.ifCond .ne 22, 3, 0, 0) := rfl
set_option maxRecDepth 100000 in
theorem i372_944 : mm_cd 372 944 = some (.aload_n 3, 1, 0, 0) := rfl
set_option maxRecDepth 100000 in
theorem i372_945 : mm_cd 372 945 = some (.iconst 0, 1, 0, 0) := rfl
set_option maxRecDepth 100000 in
theorem i372_946 : mm_cd 372 946 = some (.laload, 1, 0, 0) := rfl
set_option maxRecDepth 100000 in
theorem i372_947 : mm_cd 372 947 = some (.iload 6, 2, 0, 0) := rfl
set_option maxRecDepth 100000 in
theorem i372_949 : mm_cd 372 949 = some (.ifCond .eq 7, 3, 0, 0) := rfl
set_option maxRecDepth 100000 in
theorem i372_952 : mm_cd 372 952 = some (.lconst 1, 1, 0, 0) := rfl
set_option maxRecDepth 100000 in
theorem i372_953 : mm_cd 372 953 = some (.goto 4, 3, 0, 0) := rfl
set_option maxRecDepth 100000 in
theorem i372_956 : mm_cd 372 956 = some (.lconst 0, 1, 0, 0) := rfl
set_option maxRecDepth 100000 in
theorem i372_957 : mm_cd 372 957 = some (.lcmp, 1, 0, 0) := rfl
set_option maxRecDepth 100000 in
theorem i372_958 : mm_cd 372 958 = some (.ifCond .eq 5, 3, 0, 0) := rfl
set_option maxRecDepth 100000 in
theorem i372_961 : mm_cd 372 961 = some (.iconst 0, 1, 0, 0) := rfl
set_option maxRecDepth 100000 in
theorem i372_962 : mm_cd 372 962 = some (.ireturn, 1, 0, 0) := rfl
set_option maxRecDepth 100000 in
theorem i372_963 : mm_cd 372 963 = some (.goto 1419, 3, 0, 0) := rfl
theorem K12 {L : Nat} {xs : Nat → Int32} {i B : Nat} {s : mS} (hL : L ≤ 3072) (hi : i + 6 ≤ L) (hG : G B s) (hB : B + 60 < 400000000) : KQ L xs i B 891 s := by
  have walk : ∀ (k0 v : Int32) (s1 t : mS) (r : mQ), q353 (xs (i + 1)) (xs (i + 2)) s = some (.inl (some k0), s1) → q285 (xs (i + 1)) (xs (i + 2)) s1 = some (.inl (some v), t) → t.1 512 0 = k0 → (k0 = 0 → t.2.1 524 0 = if v = 0 then 0 else 1) → Ev L xs 60 372 2382 (lvB i) [] (hp t) (hr r) → Ev L xs 60 372 891 (lvB i) [] (hp s) (hr r) := fun k0 v s1 t r z1 m1 hc hv k => by
    refine Ev.aload_n H372 i372_891 rfl ?_
    refine LD (j := 1) i372_892 i372_893 i372_895 i372_896 i372_897 (by decide) rfl rfl hL (by omega) ?_
    refine LD (j := 2) i372_898 i372_899 i372_901 i372_902 i372_903 (by decide) rfl rfl hL (by omega) ?_
    refine Ev.aload_n H372 i372_904 rfl ?_
    refine CSt (As := [.ref 0, .int (xs (i + 1)), .int (xs (i + 2)), .ref 524]) i372_905 cal353 rfl (Nat.le_of_ble_eq_true rfl) (Nat.le_of_ble_eq_true rfl) (show 7 < 60 by decide) (c353 z1) ?_
    refine Ev.istore H372 i372_908 (by decide) (lv2 := (5, .int k0) :: lvB i) rfl ?_
    refine Ev.aload_n H372 i372_910 rfl ?_
    refine LD (j := 1) i372_911 i372_912 i372_914 i372_915 i372_916 (by decide) rfl rfl hL (by omega) ?_
    refine LD (j := 2) i372_917 i372_918 i372_920 i372_921 i372_922 (by decide) rfl rfl hL (by omega) ?_
    refine CV (As := [.int (xs (i + 1)), .int (xs (i + 2))]) i372_923 cal285 ob11 rfl (Nat.le_of_ble_eq_true rfl) (Nat.le_of_ble_eq_true rfl) (show 11 < 60 by decide) (c285 m1) ?_
    refine Ev.istore H372 i372_926 (by decide) (lv2 := (6, .int v) :: (5, .int k0) :: lvB i) rfl ?_
    exact TLZ i372_928 i372_929 i372_932 i372_934 i372_939 i372_941 i372_944 i372_945 i372_946 i372_947 i372_949 i372_952 i372_953 i372_956 i372_957 i372_958 i372_963 (by decide) (by decide) (by decide) (by decide) (by decide) (by decide) hc hv k
  have h0 : (0 : Int32).toNatClampNeg = 0 := by decide
  rcases z_write hG (by omega) (xs (i + 1)) (xs (i + 2)) with ⟨v, s1, z1, z2, z3⟩ | ⟨x, u, w, c, s1, z1, z2, z4, z5, z6, z3⟩
  · by_cases ev : v = 0
    · obtain ⟨t, m1, m2, m3, m4⟩ := z3 (sL s1 524 0 (0 : Int64)) sL_1
      refine ⟨t, G_up m4 (by omega), CN_e (by rw [m2.1, sL_22, z2]), fun r k => walk 0 v (sL s1 524 0 (0 : Int64)) t r ?_ m1 m3 (fun _ => by rw [m2.2 524 (by omega), sLz_at, if_pos ev]) k⟩
      unfold q353 q353_16
      rw [z1]
      show (if v = 0 then _ else _) = _
      rw [if_pos ev]
      show gA 1 (nI 0) _ = _
      rw [gA_ok (show 0 < 1 by decide) (by omega), sp_e, h0]; rfl
    · obtain ⟨t, m1, m2, m3, m4⟩ := z3 (sL s1 524 0 (1 : Int64)) sL_1
      refine ⟨t, G_up m4 (by omega), CN_e (by rw [m2.1, sL_22, z2]), fun r k => walk 0 v (sL s1 524 0 (1 : Int64)) t r ?_ m1 m3 (fun _ => by rw [m2.2 524 (by omega), sLz_at, if_neg ev]) k⟩
      unfold q353 q353_16
      rw [z1]
      show (if v = 0 then _ else _) = _
      rw [if_neg ev]
      show gA 1 (nI 0) _ = _
      rw [gA_ok (show 0 < 1 by decide) (by omega), sp_e, h0]; rfl
  · obtain ⟨v, t, m1, m2, m3, m4⟩ := z3 (sX s1) rfl
    have hcz : ¬ nI c = 0 := by rw [nI_lit, nI_eqv (by omega) (by omega)]; omega
    refine ⟨t, G_up m4 (by omega), ?_, fun r k => walk (nI c) v (sX s1) t r ?_ m1 m3 (fun q => absurd q hcz) k⟩
    · unfold CN
      rw [m2.1]
      show s1.2.2.2.1 + 1 ≤ _ ∧ s1.2.2.2.2 + 6 ≤ _
      rw [z2]; exact ⟨Nat.le_refl _, Nat.le_refl _⟩
    · unfold q353
      rw [z1]
      exact bC_x z4 z6
set_option maxRecDepth 100000 in
theorem i372_966 : mm_cd 372 966 = some (.aload_n 1, 1, 0, 0) := rfl
set_option maxRecDepth 100000 in
theorem i372_967 : mm_cd 372 967 = some (.aload_n 0, 1, 0, 0) := rfl
set_option maxRecDepth 100000 in
theorem i372_968 : mm_cd 372 968 = some (.iload 4, 2, 0, 0) := rfl
set_option maxRecDepth 100000 in
theorem i372_970 : mm_cd 372 970 = some (.iconst 1, 1, 0, 0) := rfl
set_option maxRecDepth 100000 in
theorem i372_971 : mm_cd 372 971 = some (.iadd, 1, 0, 0) := rfl
set_option maxRecDepth 100000 in
theorem i372_972 : mm_cd 372 972 = some (.iaload, 1, 0, 0) := rfl
set_option maxRecDepth 100000 in
theorem i372_973 : mm_cd 372 973 = some (.aload_n 3, 1, 0, 0) := rfl
set_option maxRecDepth 100000 in
theorem i372_974 : mm_cd 372 974 = some (.invokestatic 166, 3, 0, 354) := rfl
set_option maxRecDepth 100000 in
theorem i372_977 : mm_cd 372 977 = some (.istore 5, 2, 0, 0) := rfl
set_option maxRecDepth 100000 in
theorem i372_979 : mm_cd 372 979 = some (.aload_n 2, 1, 0, 0) := rfl
set_option maxRecDepth 100000 in
theorem i372_980 : mm_cd 372 980 = some (.aload_n 0, 1, 0, 0) := rfl
set_option maxRecDepth 100000 in
theorem i372_981 : mm_cd 372 981 = some (.iload 4, 2, 0, 0) := rfl
set_option maxRecDepth 100000 in
theorem i372_983 : mm_cd 372 983 = some (.iconst 1, 1, 0, 0) := rfl
set_option maxRecDepth 100000 in
theorem i372_984 : mm_cd 372 984 = some (.iadd, 1, 0, 0) := rfl
set_option maxRecDepth 100000 in
theorem i372_985 : mm_cd 372 985 = some (.iaload, 1, 0, 0) := rfl
set_option maxRecDepth 100000 in
theorem i372_986 : mm_cd 372 986 = some (.invokevirtual 168, 3, 0, 287) := rfl
set_option maxRecDepth 100000 in
theorem i372_989 : mm_cd 372 989 = some (.istore 6, 2, 0, 0) := rfl
set_option maxRecDepth 100000 in
theorem i372_991 : mm_cd 372 991 = some (.aload_n 2, 1, 0, 0) := rfl
set_option maxRecDepth 100000 in
theorem i372_992 : mm_cd 372 992 = some (.invokevirtual 130, 3, 0, 187) := rfl
set_option maxRecDepth 100000 in
theorem i372_995 : mm_cd 372 995 = some (.iload 5, 2, 0, 0) := rfl
set_option maxRecDepth 100000 in
theorem i372_997 : mm_cd 372 997 = some (.if_icmp .eq 5, 3, 0, 0) := rfl
set_option maxRecDepth 100000 in
theorem i372_1000 : mm_cd 372 1000 = some (.iconst 0, 1, 0, 0) := rfl
set_option maxRecDepth 100000 in
theorem i372_1001 : mm_cd 372 1001 = some (.ireturn, 1, 0, 0) := rfl
set_option maxRecDepth 100000 in
theorem i372_1002 : mm_cd 372 1002 = some (.iload 5, 2, 0, 0) := rfl
set_option maxRecDepth 100000 in
theorem i372_1004 : mm_cd 372 1004 = some (.ifCond .ne 15, 3, 0, 0) := rfl
set_option maxRecDepth 100000 in
theorem i372_1007 : mm_cd 372 1007 = some (.aload_n 3, 1, 0, 0) := rfl
set_option maxRecDepth 100000 in
theorem i372_1008 : mm_cd 372 1008 = some (.iconst 0, 1, 0, 0) := rfl
set_option maxRecDepth 100000 in
theorem i372_1009 : mm_cd 372 1009 = some (.laload, 1, 0, 0) := rfl
set_option maxRecDepth 100000 in
theorem i372_1010 : mm_cd 372 1010 = some (.iload 6, 2, 0, 0) := rfl
set_option maxRecDepth 100000 in
theorem i372_1012 : mm_cd 372 1012 = some (.i2l, 1, 0, 0) := rfl
set_option maxRecDepth 100000 in
theorem i372_1013 : mm_cd 372 1013 = some (.lcmp, 1, 0, 0) := rfl
set_option maxRecDepth 100000 in
theorem i372_1014 : mm_cd 372 1014 = some (.ifCond .eq 5, 3, 0, 0) := rfl
set_option maxRecDepth 100000 in
theorem i372_1017 : mm_cd 372 1017 = some (.iconst 0, 1, 0, 0) := rfl
set_option maxRecDepth 100000 in
theorem i372_1018 : mm_cd 372 1018 = some (.ireturn, 1, 0, 0) := rfl
set_option maxRecDepth 100000 in
theorem i372_1019 : mm_cd 372 1019 = some (.goto 1363, 3, 0, 0) := rfl
theorem K13 {L : Nat} {xs : Nat → Int32} {i B : Nat} {s : mS} (hL : L ≤ 3072) (hi : i + 6 ≤ L) (hG : G B s) (hB : B + 60 < 400000000) : KQ L xs i B 966 s := by
  have walk : ∀ (k0 v : Int32) (s1 t : mS) (r : mQ), q354 (xs (i + 1)) s = some (.inl (some k0), s1) → q287 (xs (i + 1)) s1 = some (.inl (some v), t) → t.1 512 0 = k0 → (k0 = 0 → t.2.1 524 0 = v.toInt64) → Ev L xs 60 372 2382 (lvB i) [] (hp t) (hr r) → Ev L xs 60 372 966 (lvB i) [] (hp s) (hr r) := fun k0 v s1 t r z1 m1 hc hv k => by
    refine Ev.aload_n H372 i372_966 rfl ?_
    refine LD (j := 1) i372_967 i372_968 i372_970 i372_971 i372_972 (by decide) rfl rfl hL (by omega) ?_
    refine Ev.aload_n H372 i372_973 rfl ?_
    refine CSt (As := [.ref 0, .int (xs (i + 1)), .ref 524]) i372_974 cal354 rfl (Nat.le_of_ble_eq_true rfl) (Nat.le_of_ble_eq_true rfl) (show 7 < 60 by decide) (c354 z1) ?_
    refine Ev.istore H372 i372_977 (by decide) (lv2 := (5, .int k0) :: lvB i) rfl ?_
    refine Ev.aload_n H372 i372_979 rfl ?_
    refine LD (j := 1) i372_980 i372_981 i372_983 i372_984 i372_985 (by decide) rfl rfl hL (by omega) ?_
    refine CV (As := [.int (xs (i + 1))]) i372_986 cal287 ob11 rfl (Nat.le_of_ble_eq_true rfl) (Nat.le_of_ble_eq_true rfl) (show 11 < 60 by decide) (c287 m1) ?_
    refine Ev.istore H372 i372_989 (by decide) (lv2 := (6, .int v) :: (5, .int k0) :: lvB i) rfl ?_
    exact TLI i372_991 i372_992 i372_995 i372_997 i372_1002 i372_1004 i372_1007 i372_1008 i372_1009 i372_1010 i372_1012 i372_1013 i372_1014 i372_1019 (by decide) (by decide) (by decide) (by decide) hc hv k
  have h0 : (0 : Int32).toNatClampNeg = 0 := by decide
  rcases z_commit hG (by omega) (xs (i + 1)) with ⟨v, s1, z1, z2, z3⟩ | ⟨x, u, w, c, s1, z1, z2, z4, z5, z6, z3⟩
  · obtain ⟨t, m1, m2, m3, m4⟩ := z3 (sL s1 524 0 v.toInt64) sL_1
    refine ⟨t, G_up m4 (by omega), CN_e (by rw [m2.1, sL_22, z2]), fun r k => walk 0 v (sL s1 524 0 v.toInt64) t r ?_ m1 m3 (fun _ => by rw [m2.2 524 (by omega), sLz_at]) k⟩
    unfold q354
    rw [z1]
    show gA 1 (nI 0) _ = _
    rw [gA_ok (show 0 < 1 by decide) (by omega), sp_e, h0]; rfl
  · obtain ⟨v, t, m1, m2, m3, m4⟩ := z3 (sX s1) rfl
    have hcz : ¬ nI c = 0 := by rw [nI_lit, nI_eqv (by omega) (by omega)]; omega
    refine ⟨t, G_up m4 (by omega), ?_, fun r k => walk (nI c) v (sX s1) t r ?_ m1 m3 (fun q => absurd q hcz) k⟩
    · unfold CN
      rw [m2.1]
      show s1.2.2.2.1 + 1 ≤ _ ∧ s1.2.2.2.2 + 6 ≤ _
      rw [z2]; exact ⟨Nat.le_refl _, Nat.le_refl _⟩
    · unfold q354
      rw [z1]
      exact bC_x z4 z6
set_option maxRecDepth 100000 in
theorem i372_1022 : mm_cd 372 1022 = some (.aload_n 1, 1, 0, 0) := rfl
set_option maxRecDepth 100000 in
theorem i372_1023 : mm_cd 372 1023 = some (.aload_n 0, 1, 0, 0) := rfl
set_option maxRecDepth 100000 in
theorem i372_1024 : mm_cd 372 1024 = some (.iload 4, 2, 0, 0) := rfl
set_option maxRecDepth 100000 in
theorem i372_1026 : mm_cd 372 1026 = some (.iconst 1, 1, 0, 0) := rfl
set_option maxRecDepth 100000 in
theorem i372_1027 : mm_cd 372 1027 = some (.iadd, 1, 0, 0) := rfl
set_option maxRecDepth 100000 in
theorem i372_1028 : mm_cd 372 1028 = some (.iaload, 1, 0, 0) := rfl
set_option maxRecDepth 100000 in
theorem i372_1029 : mm_cd 372 1029 = some (.aload_n 3, 1, 0, 0) := rfl
set_option maxRecDepth 100000 in
theorem i372_1030 : mm_cd 372 1030 = some (.invokestatic 169, 3, 0, 355) := rfl
set_option maxRecDepth 100000 in
theorem i372_1033 : mm_cd 372 1033 = some (.istore 5, 2, 0, 0) := rfl
set_option maxRecDepth 100000 in
theorem i372_1035 : mm_cd 372 1035 = some (.aload_n 2, 1, 0, 0) := rfl
set_option maxRecDepth 100000 in
theorem i372_1036 : mm_cd 372 1036 = some (.aload_n 0, 1, 0, 0) := rfl
set_option maxRecDepth 100000 in
theorem i372_1037 : mm_cd 372 1037 = some (.iload 4, 2, 0, 0) := rfl
set_option maxRecDepth 100000 in
theorem i372_1039 : mm_cd 372 1039 = some (.iconst 1, 1, 0, 0) := rfl
set_option maxRecDepth 100000 in
theorem i372_1040 : mm_cd 372 1040 = some (.iadd, 1, 0, 0) := rfl
set_option maxRecDepth 100000 in
theorem i372_1041 : mm_cd 372 1041 = some (.iaload, 1, 0, 0) := rfl
set_option maxRecDepth 100000 in
theorem i372_1042 : mm_cd 372 1042 = some (.invokevirtual 171, 3, 0, 288) := rfl
set_option maxRecDepth 100000 in
theorem i372_1045 : mm_cd 372 1045 = some (.istore 6, 2, 0, 0) := rfl
set_option maxRecDepth 100000 in
theorem i372_1047 : mm_cd 372 1047 = some (.aload_n 2, 1, 0, 0) := rfl
set_option maxRecDepth 100000 in
theorem i372_1048 : mm_cd 372 1048 = some (.invokevirtual 130, 3, 0, 187) := rfl
set_option maxRecDepth 100000 in
theorem i372_1051 : mm_cd 372 1051 = some (.iload 5, 2, 0, 0) := rfl
set_option maxRecDepth 100000 in
theorem i372_1053 : mm_cd 372 1053 = some (.if_icmp .eq 5, 3, 0, 0) := rfl
set_option maxRecDepth 100000 in
theorem i372_1056 : mm_cd 372 1056 = some (.iconst 0, 1, 0, 0) := rfl
set_option maxRecDepth 100000 in
theorem i372_1057 : mm_cd 372 1057 = some (.ireturn, 1, 0, 0) := rfl
set_option maxRecDepth 100000 in
theorem i372_1058 : mm_cd 372 1058 = some (.iload 5, 2, 0, 0) := rfl
set_option maxRecDepth 100000 in
theorem i372_1060 : mm_cd 372 1060 = some (.ifCond .ne 15, 3, 0, 0) := rfl
set_option maxRecDepth 100000 in
theorem i372_1063 : mm_cd 372 1063 = some (.aload_n 3, 1, 0, 0) := rfl
set_option maxRecDepth 100000 in
theorem i372_1064 : mm_cd 372 1064 = some (.iconst 0, 1, 0, 0) := rfl
set_option maxRecDepth 100000 in
theorem i372_1065 : mm_cd 372 1065 = some (.laload, 1, 0, 0) := rfl
set_option maxRecDepth 100000 in
theorem i372_1066 : mm_cd 372 1066 = some (.iload 6, 2, 0, 0) := rfl
set_option maxRecDepth 100000 in
theorem i372_1068 : mm_cd 372 1068 = some (.i2l, 1, 0, 0) := rfl
set_option maxRecDepth 100000 in
theorem i372_1069 : mm_cd 372 1069 = some (.lcmp, 1, 0, 0) := rfl
set_option maxRecDepth 100000 in
theorem i372_1070 : mm_cd 372 1070 = some (.ifCond .eq 5, 3, 0, 0) := rfl
set_option maxRecDepth 100000 in
theorem i372_1073 : mm_cd 372 1073 = some (.iconst 0, 1, 0, 0) := rfl
set_option maxRecDepth 100000 in
theorem i372_1074 : mm_cd 372 1074 = some (.ireturn, 1, 0, 0) := rfl
set_option maxRecDepth 100000 in
theorem i372_1075 : mm_cd 372 1075 = some (.goto 1307, 3, 0, 0) := rfl
theorem K14 {L : Nat} {xs : Nat → Int32} {i B : Nat} {s : mS} (hL : L ≤ 3072) (hi : i + 6 ≤ L) (hG : G B s) (hB : B + 60 < 400000000) : KQ L xs i B 1022 s := by
  have walk : ∀ (k0 v : Int32) (s1 t : mS) (r : mQ), q355 (xs (i + 1)) s = some (.inl (some k0), s1) → q288 (xs (i + 1)) s1 = some (.inl (some v), t) → t.1 512 0 = k0 → (k0 = 0 → t.2.1 524 0 = v.toInt64) → Ev L xs 60 372 2382 (lvB i) [] (hp t) (hr r) → Ev L xs 60 372 1022 (lvB i) [] (hp s) (hr r) := fun k0 v s1 t r z1 m1 hc hv k => by
    refine Ev.aload_n H372 i372_1022 rfl ?_
    refine LD (j := 1) i372_1023 i372_1024 i372_1026 i372_1027 i372_1028 (by decide) rfl rfl hL (by omega) ?_
    refine Ev.aload_n H372 i372_1029 rfl ?_
    refine CSt (As := [.ref 0, .int (xs (i + 1)), .ref 524]) i372_1030 cal355 rfl (Nat.le_of_ble_eq_true rfl) (Nat.le_of_ble_eq_true rfl) (show 4 < 60 by decide) (c355 z1) ?_
    refine Ev.istore H372 i372_1033 (by decide) (lv2 := (5, .int k0) :: lvB i) rfl ?_
    refine Ev.aload_n H372 i372_1035 rfl ?_
    refine LD (j := 1) i372_1036 i372_1037 i372_1039 i372_1040 i372_1041 (by decide) rfl rfl hL (by omega) ?_
    refine CV (As := [.int (xs (i + 1))]) i372_1042 cal288 ob11 rfl (Nat.le_of_ble_eq_true rfl) (Nat.le_of_ble_eq_true rfl) (show 6 < 60 by decide) (c288 m1) ?_
    refine Ev.istore H372 i372_1045 (by decide) (lv2 := (6, .int v) :: (5, .int k0) :: lvB i) rfl ?_
    exact TLI i372_1047 i372_1048 i372_1051 i372_1053 i372_1058 i372_1060 i372_1063 i372_1064 i372_1065 i372_1066 i372_1068 i372_1069 i372_1070 i372_1075 (by decide) (by decide) (by decide) (by decide) hc hv k
  have h0 : (0 : Int32).toNatClampNeg = 0 := by decide
  rcases z_abort hG (by omega) (xs (i + 1)) with ⟨v, s1, z1, z2, z3⟩ | ⟨x, u, w, c, s1, z1, z2, z4, z5, z6, z3⟩
  · obtain ⟨t, m1, m2, m3, m4⟩ := z3 (sL s1 524 0 v.toInt64) sL_1
    refine ⟨t, G_up m4 (by omega), CN_e (by rw [m2.1, sL_22, z2]), fun r k => walk 0 v (sL s1 524 0 v.toInt64) t r ?_ m1 m3 (fun _ => by rw [m2.2 524 (by omega), sLz_at]) k⟩
    unfold q355
    rw [z1]
    show gA 1 (nI 0) _ = _
    rw [gA_ok (show 0 < 1 by decide) (by omega), sp_e, h0]; rfl
  · obtain ⟨v, t, m1, m2, m3, m4⟩ := z3 (sX s1) rfl
    have hcz : ¬ nI c = 0 := by rw [nI_lit, nI_eqv (by omega) (by omega)]; omega
    refine ⟨t, G_up m4 (by omega), ?_, fun r k => walk (nI c) v (sX s1) t r ?_ m1 m3 (fun q => absurd q hcz) k⟩
    · unfold CN
      rw [m2.1]
      show s1.2.2.2.1 + 1 ≤ _ ∧ s1.2.2.2.2 + 6 ≤ _
      rw [z2]; exact ⟨Nat.le_refl _, Nat.le_refl _⟩
    · unfold q355
      rw [z1]
      exact bC_x z4 z6
set_option maxRecDepth 100000 in
theorem i372_1078 : mm_cd 372 1078 = some (.aload_n 1, 1, 0, 0) := rfl
set_option maxRecDepth 100000 in
theorem i372_1079 : mm_cd 372 1079 = some (.aload_n 0, 1, 0, 0) := rfl
set_option maxRecDepth 100000 in
theorem i372_1080 : mm_cd 372 1080 = some (.iload 4, 2, 0, 0) := rfl
set_option maxRecDepth 100000 in
theorem i372_1082 : mm_cd 372 1082 = some (.iconst 1, 1, 0, 0) := rfl
set_option maxRecDepth 100000 in
theorem i372_1083 : mm_cd 372 1083 = some (.iadd, 1, 0, 0) := rfl
set_option maxRecDepth 100000 in
theorem i372_1084 : mm_cd 372 1084 = some (.iaload, 1, 0, 0) := rfl
set_option maxRecDepth 100000 in
theorem i372_1085 : mm_cd 372 1085 = some (.aload_n 3, 1, 0, 0) := rfl
set_option maxRecDepth 100000 in
theorem i372_1086 : mm_cd 372 1086 = some (.invokestatic 172, 3, 0, 356) := rfl
set_option maxRecDepth 100000 in
theorem i372_1089 : mm_cd 372 1089 = some (.istore 5, 2, 0, 0) := rfl
set_option maxRecDepth 100000 in
theorem i372_1091 : mm_cd 372 1091 = some (.aload_n 2, 1, 0, 0) := rfl
set_option maxRecDepth 100000 in
theorem i372_1092 : mm_cd 372 1092 = some (.aload_n 0, 1, 0, 0) := rfl
set_option maxRecDepth 100000 in
theorem i372_1093 : mm_cd 372 1093 = some (.iload 4, 2, 0, 0) := rfl
set_option maxRecDepth 100000 in
theorem i372_1095 : mm_cd 372 1095 = some (.iconst 1, 1, 0, 0) := rfl
set_option maxRecDepth 100000 in
theorem i372_1096 : mm_cd 372 1096 = some (.iadd, 1, 0, 0) := rfl
set_option maxRecDepth 100000 in
theorem i372_1097 : mm_cd 372 1097 = some (.iaload, 1, 0, 0) := rfl
set_option maxRecDepth 100000 in
theorem i372_1098 : mm_cd 372 1098 = some (.invokevirtual 174, 3, 0, 289) := rfl
set_option maxRecDepth 100000 in
theorem i372_1101 : mm_cd 372 1101 = some (.istore 6, 2, 0, 0) := rfl
set_option maxRecDepth 100000 in
theorem i372_1103 : mm_cd 372 1103 = some (.aload_n 2, 1, 0, 0) := rfl
set_option maxRecDepth 100000 in
theorem i372_1104 : mm_cd 372 1104 = some (.invokevirtual 130, 3, 0, 187) := rfl
set_option maxRecDepth 100000 in
theorem i372_1107 : mm_cd 372 1107 = some (.iload 5, 2, 0, 0) := rfl
set_option maxRecDepth 100000 in
theorem i372_1109 : mm_cd 372 1109 = some (.if_icmp .eq 5, 3, 0, 0) := rfl
set_option maxRecDepth 100000 in
theorem i372_1112 : mm_cd 372 1112 = some (.iconst 0, 1, 0, 0) := rfl
set_option maxRecDepth 100000 in
theorem i372_1113 : mm_cd 372 1113 = some (.ireturn, 1, 0, 0) := rfl
set_option maxRecDepth 100000 in
theorem i372_1114 : mm_cd 372 1114 = some (.iload 5, 2, 0, 0) := rfl
set_option maxRecDepth 100000 in
theorem i372_1116 : mm_cd 372 1116 = some (.ifCond .ne 15, 3, 0, 0) := rfl
set_option maxRecDepth 100000 in
theorem i372_1119 : mm_cd 372 1119 = some (.aload_n 3, 1, 0, 0) := rfl
set_option maxRecDepth 100000 in
theorem i372_1120 : mm_cd 372 1120 = some (.iconst 0, 1, 0, 0) := rfl
set_option maxRecDepth 100000 in
theorem i372_1121 : mm_cd 372 1121 = some (.laload, 1, 0, 0) := rfl
set_option maxRecDepth 100000 in
theorem i372_1122 : mm_cd 372 1122 = some (.iload 6, 2, 0, 0) := rfl
set_option maxRecDepth 100000 in
theorem i372_1124 : mm_cd 372 1124 = some (.i2l, 1, 0, 0) := rfl
set_option maxRecDepth 100000 in
theorem i372_1125 : mm_cd 372 1125 = some (.lcmp, 1, 0, 0) := rfl
set_option maxRecDepth 100000 in
theorem i372_1126 : mm_cd 372 1126 = some (.ifCond .eq 5, 3, 0, 0) := rfl
set_option maxRecDepth 100000 in
theorem i372_1129 : mm_cd 372 1129 = some (.iconst 0, 1, 0, 0) := rfl
set_option maxRecDepth 100000 in
theorem i372_1130 : mm_cd 372 1130 = some (.ireturn, 1, 0, 0) := rfl
set_option maxRecDepth 100000 in
theorem i372_1131 : mm_cd 372 1131 = some (.goto 1251, 3, 0, 0) := rfl
theorem K15 {L : Nat} {xs : Nat → Int32} {i B : Nat} {s : mS} (hL : L ≤ 3072) (hi : i + 6 ≤ L) (hG : G B s) (hB : B + 60 < 400000000) : KQ L xs i B 1078 s := by
  have walk : ∀ (k0 v : Int32) (s1 t : mS) (r : mQ), q356 (xs (i + 1)) s = some (.inl (some k0), s1) → q289 (xs (i + 1)) s1 = some (.inl (some v), t) → t.1 512 0 = k0 → (k0 = 0 → t.2.1 524 0 = v.toInt64) → Ev L xs 60 372 2382 (lvB i) [] (hp t) (hr r) → Ev L xs 60 372 1078 (lvB i) [] (hp s) (hr r) := fun k0 v s1 t r z1 m1 hc hv k => by
    refine Ev.aload_n H372 i372_1078 rfl ?_
    refine LD (j := 1) i372_1079 i372_1080 i372_1082 i372_1083 i372_1084 (by decide) rfl rfl hL (by omega) ?_
    refine Ev.aload_n H372 i372_1085 rfl ?_
    refine CSt (As := [.ref 0, .int (xs (i + 1)), .ref 524]) i372_1086 cal356 rfl (Nat.le_of_ble_eq_true rfl) (Nat.le_of_ble_eq_true rfl) (show 4 < 60 by decide) (c356 z1) ?_
    refine Ev.istore H372 i372_1089 (by decide) (lv2 := (5, .int k0) :: lvB i) rfl ?_
    refine Ev.aload_n H372 i372_1091 rfl ?_
    refine LD (j := 1) i372_1092 i372_1093 i372_1095 i372_1096 i372_1097 (by decide) rfl rfl hL (by omega) ?_
    refine CV (As := [.int (xs (i + 1))]) i372_1098 cal289 ob11 rfl (Nat.le_of_ble_eq_true rfl) (Nat.le_of_ble_eq_true rfl) (show 6 < 60 by decide) (c289 m1) ?_
    refine Ev.istore H372 i372_1101 (by decide) (lv2 := (6, .int v) :: (5, .int k0) :: lvB i) rfl ?_
    exact TLI i372_1103 i372_1104 i372_1107 i372_1109 i372_1114 i372_1116 i372_1119 i372_1120 i372_1121 i372_1122 i372_1124 i372_1125 i372_1126 i372_1131 (by decide) (by decide) (by decide) (by decide) hc hv k
  have h0 : (0 : Int32).toNatClampNeg = 0 := by decide
  rcases z_keep hG (by omega) (xs (i + 1)) with ⟨v, s1, z1, z2, z3⟩ | ⟨x, u, w, c, s1, z1, z2, z4, z5, z6, z3⟩
  · obtain ⟨t, m1, m2, m3, m4⟩ := z3 (sL s1 524 0 v.toInt64) sL_1
    refine ⟨t, G_up m4 (by omega), CN_e (by rw [m2.1, sL_22, z2]), fun r k => walk 0 v (sL s1 524 0 v.toInt64) t r ?_ m1 m3 (fun _ => by rw [m2.2 524 (by omega), sLz_at]) k⟩
    unfold q356
    rw [z1]
    show gA 1 (nI 0) _ = _
    rw [gA_ok (show 0 < 1 by decide) (by omega), sp_e, h0]; rfl
  · obtain ⟨v, t, m1, m2, m3, m4⟩ := z3 (sX s1) rfl
    have hcz : ¬ nI c = 0 := by rw [nI_lit, nI_eqv (by omega) (by omega)]; omega
    refine ⟨t, G_up m4 (by omega), ?_, fun r k => walk (nI c) v (sX s1) t r ?_ m1 m3 (fun q => absurd q hcz) k⟩
    · unfold CN
      rw [m2.1]
      show s1.2.2.2.1 + 1 ≤ _ ∧ s1.2.2.2.2 + 6 ≤ _
      rw [z2]; exact ⟨Nat.le_refl _, Nat.le_refl _⟩
    · unfold q356
      rw [z1]
      exact bC_x z4 z6
set_option maxRecDepth 100000 in
theorem i372_1134 : mm_cd 372 1134 = some (.aload_n 1, 1, 0, 0) := rfl
set_option maxRecDepth 100000 in
theorem i372_1135 : mm_cd 372 1135 = some (.aload_n 0, 1, 0, 0) := rfl
set_option maxRecDepth 100000 in
theorem i372_1136 : mm_cd 372 1136 = some (.iload 4, 2, 0, 0) := rfl
set_option maxRecDepth 100000 in
theorem i372_1138 : mm_cd 372 1138 = some (.iconst 1, 1, 0, 0) := rfl
set_option maxRecDepth 100000 in
theorem i372_1139 : mm_cd 372 1139 = some (.iadd, 1, 0, 0) := rfl
set_option maxRecDepth 100000 in
theorem i372_1140 : mm_cd 372 1140 = some (.iaload, 1, 0, 0) := rfl
set_option maxRecDepth 100000 in
theorem i372_1141 : mm_cd 372 1141 = some (.aload_n 0, 1, 0, 0) := rfl
set_option maxRecDepth 100000 in
theorem i372_1142 : mm_cd 372 1142 = some (.iload 4, 2, 0, 0) := rfl
set_option maxRecDepth 100000 in
theorem i372_1144 : mm_cd 372 1144 = some (.iconst 2, 1, 0, 0) := rfl
set_option maxRecDepth 100000 in
theorem i372_1145 : mm_cd 372 1145 = some (.iadd, 1, 0, 0) := rfl
set_option maxRecDepth 100000 in
theorem i372_1146 : mm_cd 372 1146 = some (.iaload, 1, 0, 0) := rfl
set_option maxRecDepth 100000 in
theorem i372_1147 : mm_cd 372 1147 = some (.aload_n 0, 1, 0, 0) := rfl
set_option maxRecDepth 100000 in
theorem i372_1148 : mm_cd 372 1148 = some (.iload 4, 2, 0, 0) := rfl
set_option maxRecDepth 100000 in
theorem i372_1150 : mm_cd 372 1150 = some (.iconst 3, 1, 0, 0) := rfl
set_option maxRecDepth 100000 in
theorem i372_1151 : mm_cd 372 1151 = some (.iadd, 1, 0, 0) := rfl
set_option maxRecDepth 100000 in
theorem i372_1152 : mm_cd 372 1152 = some (.iaload, 1, 0, 0) := rfl
set_option maxRecDepth 100000 in
theorem i372_1153 : mm_cd 372 1153 = some (.aload_n 3, 1, 0, 0) := rfl
set_option maxRecDepth 100000 in
theorem i372_1154 : mm_cd 372 1154 = some (.invokestatic 175, 3, 0, 357) := rfl
set_option maxRecDepth 100000 in
theorem i372_1157 : mm_cd 372 1157 = some (.istore 5, 2, 0, 0) := rfl
set_option maxRecDepth 100000 in
theorem i372_1159 : mm_cd 372 1159 = some (.aload_n 2, 1, 0, 0) := rfl
set_option maxRecDepth 100000 in
theorem i372_1160 : mm_cd 372 1160 = some (.aload_n 0, 1, 0, 0) := rfl
set_option maxRecDepth 100000 in
theorem i372_1161 : mm_cd 372 1161 = some (.iload 4, 2, 0, 0) := rfl
set_option maxRecDepth 100000 in
theorem i372_1163 : mm_cd 372 1163 = some (.iconst 1, 1, 0, 0) := rfl
set_option maxRecDepth 100000 in
theorem i372_1164 : mm_cd 372 1164 = some (.iadd, 1, 0, 0) := rfl
set_option maxRecDepth 100000 in
theorem i372_1165 : mm_cd 372 1165 = some (.iaload, 1, 0, 0) := rfl
set_option maxRecDepth 100000 in
theorem i372_1166 : mm_cd 372 1166 = some (.aload_n 0, 1, 0, 0) := rfl
set_option maxRecDepth 100000 in
theorem i372_1167 : mm_cd 372 1167 = some (.iload 4, 2, 0, 0) := rfl
set_option maxRecDepth 100000 in
theorem i372_1169 : mm_cd 372 1169 = some (.iconst 2, 1, 0, 0) := rfl
set_option maxRecDepth 100000 in
theorem i372_1170 : mm_cd 372 1170 = some (.iadd, 1, 0, 0) := rfl
set_option maxRecDepth 100000 in
theorem i372_1171 : mm_cd 372 1171 = some (.iaload, 1, 0, 0) := rfl
set_option maxRecDepth 100000 in
theorem i372_1172 : mm_cd 372 1172 = some (.aload_n 0, 1, 0, 0) := rfl
set_option maxRecDepth 100000 in
theorem i372_1173 : mm_cd 372 1173 = some (.iload 4, 2, 0, 0) := rfl
set_option maxRecDepth 100000 in
theorem i372_1175 : mm_cd 372 1175 = some (.iconst 3, 1, 0, 0) := rfl
set_option maxRecDepth 100000 in
theorem i372_1176 : mm_cd 372 1176 = some (.iadd, 1, 0, 0) := rfl
set_option maxRecDepth 100000 in
theorem i372_1177 : mm_cd 372 1177 = some (.iaload, 1, 0, 0) := rfl
set_option maxRecDepth 100000 in
theorem i372_1178 : mm_cd 372 1178 = some (.invokevirtual 178, 3, 0, 290) := rfl
set_option maxRecDepth 100000 in
theorem i372_1181 : mm_cd 372 1181 = some (.istore 6, 2, 0, 0) := rfl
set_option maxRecDepth 100000 in
theorem i372_1183 : mm_cd 372 1183 = some (.aload_n 2, 1, 0, 0) := rfl
set_option maxRecDepth 100000 in
theorem i372_1184 : mm_cd 372 1184 = some (.invokevirtual 130, 3, 0, 187) := rfl
set_option maxRecDepth 100000 in
theorem i372_1187 : mm_cd 372 1187 = some (.iload 5, 2, 0, 0) := rfl
set_option maxRecDepth 100000 in
theorem i372_1189 : mm_cd 372 1189 = some (.if_icmp .eq 5, 3, 0, 0) := rfl
set_option maxRecDepth 100000 in
theorem i372_1192 : mm_cd 372 1192 = some (.iconst 0, 1, 0, 0) := rfl
set_option maxRecDepth 100000 in
theorem i372_1193 : mm_cd 372 1193 = some (.ireturn, 1, 0, 0) := rfl
set_option maxRecDepth 100000 in
theorem i372_1194 : mm_cd 372 1194 = some (.iload 5, 2, 0, 0) := rfl
set_option maxRecDepth 100000 in
theorem i372_1196 : mm_cd 372 1196 = some (.ifCond .ne 15, 3, 0, 0) := rfl
set_option maxRecDepth 100000 in
theorem i372_1199 : mm_cd 372 1199 = some (.aload_n 3, 1, 0, 0) := rfl
set_option maxRecDepth 100000 in
theorem i372_1200 : mm_cd 372 1200 = some (.iconst 0, 1, 0, 0) := rfl
set_option maxRecDepth 100000 in
theorem i372_1201 : mm_cd 372 1201 = some (.laload, 1, 0, 0) := rfl
set_option maxRecDepth 100000 in
theorem i372_1202 : mm_cd 372 1202 = some (.iload 6, 2, 0, 0) := rfl
set_option maxRecDepth 100000 in
theorem i372_1204 : mm_cd 372 1204 = some (.i2l, 1, 0, 0) := rfl
set_option maxRecDepth 100000 in
theorem i372_1205 : mm_cd 372 1205 = some (.lcmp, 1, 0, 0) := rfl
set_option maxRecDepth 100000 in
theorem i372_1206 : mm_cd 372 1206 = some (.ifCond .eq 5, 3, 0, 0) := rfl
set_option maxRecDepth 100000 in
theorem i372_1209 : mm_cd 372 1209 = some (.iconst 0, 1, 0, 0) := rfl
set_option maxRecDepth 100000 in
theorem i372_1210 : mm_cd 372 1210 = some (.ireturn, 1, 0, 0) := rfl
set_option maxRecDepth 100000 in
theorem i372_1211 : mm_cd 372 1211 = some (.goto 1171, 3, 0, 0) := rfl
theorem K16 {L : Nat} {xs : Nat → Int32} {i B : Nat} {s : mS} (hL : L ≤ 3072) (hi : i + 6 ≤ L) (hG : G B s) (hB : B + 60 < 400000000) : KQ L xs i B 1134 s := by
  have walk : ∀ (k0 v : Int32) (s1 t : mS) (r : mQ), q357 (xs (i + 1)) (xs (i + 2)) (xs (i + 3)) s = some (.inl (some k0), s1) → q290 (xs (i + 1)) (xs (i + 2)) (xs (i + 3)) s1 = some (.inl (some v), t) → t.1 512 0 = k0 → (k0 = 0 → t.2.1 524 0 = v.toInt64) → Ev L xs 60 372 2382 (lvB i) [] (hp t) (hr r) → Ev L xs 60 372 1134 (lvB i) [] (hp s) (hr r) := fun k0 v s1 t r z1 m1 hc hv k => by
    refine Ev.aload_n H372 i372_1134 rfl ?_
    refine LD (j := 1) i372_1135 i372_1136 i372_1138 i372_1139 i372_1140 (by decide) rfl rfl hL (by omega) ?_
    refine LD (j := 2) i372_1141 i372_1142 i372_1144 i372_1145 i372_1146 (by decide) rfl rfl hL (by omega) ?_
    refine LD (j := 3) i372_1147 i372_1148 i372_1150 i372_1151 i372_1152 (by decide) rfl rfl hL (by omega) ?_
    refine Ev.aload_n H372 i372_1153 rfl ?_
    refine CSt (As := [.ref 0, .int (xs (i + 1)), .int (xs (i + 2)), .int (xs (i + 3)), .ref 524]) i372_1154 cal357 rfl (Nat.le_of_ble_eq_true rfl) (Nat.le_of_ble_eq_true rfl) (show 7 < 60 by decide) (c357 z1) ?_
    refine Ev.istore H372 i372_1157 (by decide) (lv2 := (5, .int k0) :: lvB i) rfl ?_
    refine Ev.aload_n H372 i372_1159 rfl ?_
    refine LD (j := 1) i372_1160 i372_1161 i372_1163 i372_1164 i372_1165 (by decide) rfl rfl hL (by omega) ?_
    refine LD (j := 2) i372_1166 i372_1167 i372_1169 i372_1170 i372_1171 (by decide) rfl rfl hL (by omega) ?_
    refine LD (j := 3) i372_1172 i372_1173 i372_1175 i372_1176 i372_1177 (by decide) rfl rfl hL (by omega) ?_
    refine CV (As := [.int (xs (i + 1)), .int (xs (i + 2)), .int (xs (i + 3))]) i372_1178 cal290 ob11 rfl (Nat.le_of_ble_eq_true rfl) (Nat.le_of_ble_eq_true rfl) (show 11 < 60 by decide) (c290 m1) ?_
    refine Ev.istore H372 i372_1181 (by decide) (lv2 := (6, .int v) :: (5, .int k0) :: lvB i) rfl ?_
    exact TLI i372_1183 i372_1184 i372_1187 i372_1189 i372_1194 i372_1196 i372_1199 i372_1200 i372_1201 i372_1202 i372_1204 i372_1205 i372_1206 i372_1211 (by decide) (by decide) (by decide) (by decide) hc hv k
  have h0 : (0 : Int32).toNatClampNeg = 0 := by decide
  rcases z_dooms hG (by omega) (xs (i + 1)) (xs (i + 2)) (xs (i + 3)) with ⟨v, s1, z1, z2, z3⟩ | ⟨x, u, w, c, s1, z1, z2, z4, z5, z6, z3⟩
  · obtain ⟨t, m1, m2, m3, m4⟩ := z3 (sL s1 524 0 v.toInt64) sL_1
    refine ⟨t, G_up m4 (by omega), CN_e (by rw [m2.1, sL_22, z2]), fun r k => walk 0 v (sL s1 524 0 v.toInt64) t r ?_ m1 m3 (fun _ => by rw [m2.2 524 (by omega), sLz_at]) k⟩
    unfold q357
    rw [z1]
    show gA 1 (nI 0) _ = _
    rw [gA_ok (show 0 < 1 by decide) (by omega), sp_e, h0]; rfl
  · obtain ⟨v, t, m1, m2, m3, m4⟩ := z3 (sX s1) rfl
    have hcz : ¬ nI c = 0 := by rw [nI_lit, nI_eqv (by omega) (by omega)]; omega
    refine ⟨t, G_up m4 (by omega), ?_, fun r k => walk (nI c) v (sX s1) t r ?_ m1 m3 (fun q => absurd q hcz) k⟩
    · unfold CN
      rw [m2.1]
      show s1.2.2.2.1 + 1 ≤ _ ∧ s1.2.2.2.2 + 6 ≤ _
      rw [z2]; exact ⟨Nat.le_refl _, Nat.le_refl _⟩
    · unfold q357
      rw [z1]
      exact bC_x z4 z6
set_option maxRecDepth 100000 in
theorem i372_1214 : mm_cd 372 1214 = some (.aload_n 1, 1, 0, 0) := rfl
set_option maxRecDepth 100000 in
theorem i372_1215 : mm_cd 372 1215 = some (.invokevirtual 179, 3, 0, 147) := rfl
set_option maxRecDepth 100000 in
theorem i372_1218 : mm_cd 372 1218 = some (.aload_n 2, 1, 0, 0) := rfl
set_option maxRecDepth 100000 in
theorem i372_1219 : mm_cd 372 1219 = some (.invokevirtual 182, 3, 0, 291) := rfl
set_option maxRecDepth 100000 in
theorem i372_1222 : mm_cd 372 1222 = some (.if_icmp .eq 1160, 3, 0, 0) := rfl
set_option maxRecDepth 100000 in
theorem i372_1225 : mm_cd 372 1225 = some (.iconst 0, 1, 0, 0) := rfl
set_option maxRecDepth 100000 in
theorem i372_1226 : mm_cd 372 1226 = some (.ireturn, 1, 0, 0) := rfl
theorem K17 {L : Nat} {xs : Nat → Int32} {i B : Nat} {s : mS} (hL : L ≤ 3072) (hi : i + 6 ≤ L) (hG : G B s) (hB : B + 60 < 400000000) : KQ L xs i B 1214 s := by
  obtain ⟨v, s1, z1, z2, z3⟩ := z_pivots hG
  obtain ⟨t, m1, m2, m3⟩ := z3 s1 rfl
  refine ⟨t, G_up m3 (by omega), CN_e (by rw [m2.1, z2]), fun r k => ?_⟩
  refine Ev.aload_n H372 i372_1214 rfl ?_
  refine CV (As := []) i372_1215 cal147 ob10 rfl (Nat.le_of_ble_eq_true rfl) (Nat.le_of_ble_eq_true rfl) (show 1 < 60 by decide) (c147 z1) ?_
  refine Ev.aload_n H372 i372_1218 rfl ?_
  refine CV (As := []) i372_1219 cal291 ob11 rfl (Nat.le_of_ble_eq_true rfl) (Nat.le_of_ble_eq_true rfl) (show 4 < 60 by decide) (c291 m1) ?_
  exact Ev.ic_eq H372 i372_1222 (by decide) (fun _ => k) (fun e => absurd rfl e)
set_option maxRecDepth 100000 in
theorem i372_1227 : mm_cd 372 1227 = some (.aload_n 1, 1, 0, 0) := rfl
set_option maxRecDepth 100000 in
theorem i372_1228 : mm_cd 372 1228 = some (.invokevirtual 183, 3, 0, 148) := rfl
set_option maxRecDepth 100000 in
theorem i372_1231 : mm_cd 372 1231 = some (.aload_n 2, 1, 0, 0) := rfl
set_option maxRecDepth 100000 in
theorem i372_1232 : mm_cd 372 1232 = some (.invokevirtual 186, 3, 0, 293) := rfl
set_option maxRecDepth 100000 in
theorem i372_1235 : mm_cd 372 1235 = some (.if_icmp .eq 1147, 3, 0, 0) := rfl
set_option maxRecDepth 100000 in
theorem i372_1238 : mm_cd 372 1238 = some (.iconst 0, 1, 0, 0) := rfl
set_option maxRecDepth 100000 in
theorem i372_1239 : mm_cd 372 1239 = some (.ireturn, 1, 0, 0) := rfl
theorem K18 {L : Nat} {xs : Nat → Int32} {i B : Nat} {s : mS} (hL : L ≤ 3072) (hi : i + 6 ≤ L) (hG : G B s) (hB : B + 60 < 400000000) : KQ L xs i B 1227 s := by
  obtain ⟨v, s1, z1, z2, z3⟩ := z_cut hG
  obtain ⟨t, m1, m2, m3⟩ := z3 s1 rfl
  refine ⟨t, G_up m3 (by omega), CN_e (by rw [m2.1, z2]), fun r k => ?_⟩
  refine Ev.aload_n H372 i372_1227 rfl ?_
  refine CV (As := []) i372_1228 cal148 ob10 rfl (Nat.le_of_ble_eq_true rfl) (Nat.le_of_ble_eq_true rfl) (show 2 < 60 by decide) (c148 z1) ?_
  refine Ev.aload_n H372 i372_1231 rfl ?_
  refine CV (As := []) i372_1232 cal293 ob11 rfl (Nat.le_of_ble_eq_true rfl) (Nat.le_of_ble_eq_true rfl) (show 4 < 60 by decide) (c293 m1) ?_
  exact Ev.ic_eq H372 i372_1235 (by decide) (fun _ => k) (fun e => absurd rfl e)
set_option maxRecDepth 100000 in
theorem i372_1240 : mm_cd 372 1240 = some (.aload_n 1, 1, 0, 0) := rfl
set_option maxRecDepth 100000 in
theorem i372_1241 : mm_cd 372 1241 = some (.aload_n 0, 1, 0, 0) := rfl
set_option maxRecDepth 100000 in
theorem i372_1242 : mm_cd 372 1242 = some (.iload 4, 2, 0, 0) := rfl
set_option maxRecDepth 100000 in
theorem i372_1244 : mm_cd 372 1244 = some (.iconst 1, 1, 0, 0) := rfl
set_option maxRecDepth 100000 in
theorem i372_1245 : mm_cd 372 1245 = some (.iadd, 1, 0, 0) := rfl
set_option maxRecDepth 100000 in
theorem i372_1246 : mm_cd 372 1246 = some (.iaload, 1, 0, 0) := rfl
set_option maxRecDepth 100000 in
theorem i372_1247 : mm_cd 372 1247 = some (.aload_n 0, 1, 0, 0) := rfl
set_option maxRecDepth 100000 in
theorem i372_1248 : mm_cd 372 1248 = some (.iload 4, 2, 0, 0) := rfl
set_option maxRecDepth 100000 in
theorem i372_1250 : mm_cd 372 1250 = some (.iconst 2, 1, 0, 0) := rfl
set_option maxRecDepth 100000 in
theorem i372_1251 : mm_cd 372 1251 = some (.iadd, 1, 0, 0) := rfl
set_option maxRecDepth 100000 in
theorem i372_1252 : mm_cd 372 1252 = some (.iaload, 1, 0, 0) := rfl
set_option maxRecDepth 100000 in
theorem i372_1253 : mm_cd 372 1253 = some (.aload_n 3, 1, 0, 0) := rfl
set_option maxRecDepth 100000 in
theorem i372_1254 : mm_cd 372 1254 = some (.invokestatic 187, 3, 0, 358) := rfl
set_option maxRecDepth 100000 in
theorem i372_1257 : mm_cd 372 1257 = some (.istore 5, 2, 0, 0) := rfl
set_option maxRecDepth 100000 in
theorem i372_1259 : mm_cd 372 1259 = some (.aload_n 2, 1, 0, 0) := rfl
set_option maxRecDepth 100000 in
theorem i372_1260 : mm_cd 372 1260 = some (.aload_n 0, 1, 0, 0) := rfl
set_option maxRecDepth 100000 in
theorem i372_1261 : mm_cd 372 1261 = some (.iload 4, 2, 0, 0) := rfl
set_option maxRecDepth 100000 in
theorem i372_1263 : mm_cd 372 1263 = some (.iconst 1, 1, 0, 0) := rfl
set_option maxRecDepth 100000 in
theorem i372_1264 : mm_cd 372 1264 = some (.iadd, 1, 0, 0) := rfl
set_option maxRecDepth 100000 in
theorem i372_1265 : mm_cd 372 1265 = some (.iaload, 1, 0, 0) := rfl
set_option maxRecDepth 100000 in
theorem i372_1266 : mm_cd 372 1266 = some (.aload_n 0, 1, 0, 0) := rfl
set_option maxRecDepth 100000 in
theorem i372_1267 : mm_cd 372 1267 = some (.iload 4, 2, 0, 0) := rfl
set_option maxRecDepth 100000 in
theorem i372_1269 : mm_cd 372 1269 = some (.iconst 2, 1, 0, 0) := rfl
set_option maxRecDepth 100000 in
theorem i372_1270 : mm_cd 372 1270 = some (.iadd, 1, 0, 0) := rfl
set_option maxRecDepth 100000 in
theorem i372_1271 : mm_cd 372 1271 = some (.iaload, 1, 0, 0) := rfl
set_option maxRecDepth 100000 in
theorem i372_1272 : mm_cd 372 1272 = some (.invokevirtual 189, 3, 0, 295) := rfl
set_option maxRecDepth 100000 in
theorem i372_1275 : mm_cd 372 1275 = some (.istore 6, 2, 0, 0) := rfl
set_option maxRecDepth 100000 in
theorem i372_1277 : mm_cd 372 1277 = some (.aload_n 2, 1, 0, 0) := rfl
set_option maxRecDepth 100000 in
theorem i372_1278 : mm_cd 372 1278 = some (.invokevirtual 130, 3, 0, 187) := rfl
set_option maxRecDepth 100000 in
theorem i372_1281 : mm_cd 372 1281 = some (.iload 5, 2, 0, 0) := rfl
set_option maxRecDepth 100000 in
theorem i372_1283 : mm_cd 372 1283 = some (.if_icmp .eq 5, 3, 0, 0) := rfl
set_option maxRecDepth 100000 in
theorem i372_1286 : mm_cd 372 1286 = some (.iconst 0, 1, 0, 0) := rfl
set_option maxRecDepth 100000 in
theorem i372_1287 : mm_cd 372 1287 = some (.ireturn, 1, 0, 0) := rfl
set_option maxRecDepth 100000 in
theorem i372_1288 : mm_cd 372 1288 = some (.iload 5, 2, 0, 0) := rfl
set_option maxRecDepth 100000 in
theorem i372_1290 : mm_cd 372 1290 = some (.ifCond .ne 15, 3, 0, 0) := rfl
set_option maxRecDepth 100000 in
theorem i372_1293 : mm_cd 372 1293 = some (.aload_n 3, 1, 0, 0) := rfl
set_option maxRecDepth 100000 in
theorem i372_1294 : mm_cd 372 1294 = some (.iconst 0, 1, 0, 0) := rfl
set_option maxRecDepth 100000 in
theorem i372_1295 : mm_cd 372 1295 = some (.laload, 1, 0, 0) := rfl
set_option maxRecDepth 100000 in
theorem i372_1296 : mm_cd 372 1296 = some (.iload 6, 2, 0, 0) := rfl
set_option maxRecDepth 100000 in
theorem i372_1298 : mm_cd 372 1298 = some (.i2l, 1, 0, 0) := rfl
set_option maxRecDepth 100000 in
theorem i372_1299 : mm_cd 372 1299 = some (.lcmp, 1, 0, 0) := rfl
set_option maxRecDepth 100000 in
theorem i372_1300 : mm_cd 372 1300 = some (.ifCond .eq 5, 3, 0, 0) := rfl
set_option maxRecDepth 100000 in
theorem i372_1303 : mm_cd 372 1303 = some (.iconst 0, 1, 0, 0) := rfl
set_option maxRecDepth 100000 in
theorem i372_1304 : mm_cd 372 1304 = some (.ireturn, 1, 0, 0) := rfl
set_option maxRecDepth 100000 in
theorem i372_1305 : mm_cd 372 1305 = some (.goto 1077, 3, 0, 0) := rfl
theorem K19 {L : Nat} {xs : Nat → Int32} {i B : Nat} {s : mS} (hL : L ≤ 3072) (hi : i + 6 ≤ L) (hG : G B s) (hB : B + 60 < 400000000) : KQ L xs i B 1240 s := by
  have walk : ∀ (k0 v : Int32) (s1 t : mS) (r : mQ), q358 (xs (i + 1)) (xs (i + 2)) s = some (.inl (some k0), s1) → q295 (xs (i + 1)) (xs (i + 2)) s1 = some (.inl (some v), t) → t.1 512 0 = k0 → (k0 = 0 → t.2.1 524 0 = v.toInt64) → Ev L xs 60 372 2382 (lvB i) [] (hp t) (hr r) → Ev L xs 60 372 1240 (lvB i) [] (hp s) (hr r) := fun k0 v s1 t r z1 m1 hc hv k => by
    refine Ev.aload_n H372 i372_1240 rfl ?_
    refine LD (j := 1) i372_1241 i372_1242 i372_1244 i372_1245 i372_1246 (by decide) rfl rfl hL (by omega) ?_
    refine LD (j := 2) i372_1247 i372_1248 i372_1250 i372_1251 i372_1252 (by decide) rfl rfl hL (by omega) ?_
    refine Ev.aload_n H372 i372_1253 rfl ?_
    refine CSt (As := [.ref 0, .int (xs (i + 1)), .int (xs (i + 2)), .ref 524]) i372_1254 cal358 rfl (Nat.le_of_ble_eq_true rfl) (Nat.le_of_ble_eq_true rfl) (show 2 < 60 by decide) (c358 z1) ?_
    refine Ev.istore H372 i372_1257 (by decide) (lv2 := (5, .int k0) :: lvB i) rfl ?_
    refine Ev.aload_n H372 i372_1259 rfl ?_
    refine LD (j := 1) i372_1260 i372_1261 i372_1263 i372_1264 i372_1265 (by decide) rfl rfl hL (by omega) ?_
    refine LD (j := 2) i372_1266 i372_1267 i372_1269 i372_1270 i372_1271 (by decide) rfl rfl hL (by omega) ?_
    refine CV (As := [.int (xs (i + 1)), .int (xs (i + 2))]) i372_1272 cal295 ob11 rfl (Nat.le_of_ble_eq_true rfl) (Nat.le_of_ble_eq_true rfl) (show 2 < 60 by decide) (c295 m1) ?_
    refine Ev.istore H372 i372_1275 (by decide) (lv2 := (6, .int v) :: (5, .int k0) :: lvB i) rfl ?_
    exact TLI i372_1277 i372_1278 i372_1281 i372_1283 i372_1288 i372_1290 i372_1293 i372_1294 i372_1295 i372_1296 i372_1298 i372_1299 i372_1300 i372_1305 (by decide) (by decide) (by decide) (by decide) hc hv k
  have h0 : (0 : Int32).toNatClampNeg = 0 := by decide
  rcases z_history hG (xs (i + 1)) (xs (i + 2)) with ⟨v, s1, z1, z2, z3⟩ | ⟨x, u, w, c, s1, z1, z2, z4, z5, z6, z3⟩
  · obtain ⟨t, m1, m2, m3, m4⟩ := z3 (sL s1 524 0 v.toInt64) sL_1
    refine ⟨t, G_up m4 (by omega), CN_e (by rw [m2.1, sL_22, z2]), fun r k => walk 0 v (sL s1 524 0 v.toInt64) t r ?_ m1 m3 (fun _ => by rw [m2.2 524 (by omega), sLz_at]) k⟩
    unfold q358
    rw [z1]
    show gA 1 (nI 0) _ = _
    rw [gA_ok (show 0 < 1 by decide) (by omega), sp_e, h0]; rfl
  · obtain ⟨v, t, m1, m2, m3, m4⟩ := z3 (sX s1) rfl
    have hcz : ¬ nI c = 0 := by rw [nI_lit, nI_eqv (by omega) (by omega)]; omega
    refine ⟨t, G_up m4 (by omega), ?_, fun r k => walk (nI c) v (sX s1) t r ?_ m1 m3 (fun q => absurd q hcz) k⟩
    · unfold CN
      rw [m2.1]
      show s1.2.2.2.1 + 1 ≤ _ ∧ s1.2.2.2.2 + 6 ≤ _
      rw [z2]; exact ⟨Nat.le_refl _, Nat.le_refl _⟩
    · unfold q358
      rw [z1]
      exact bC_x z4 z6
set_option maxRecDepth 100000 in
theorem i372_1308 : mm_cd 372 1308 = some (.aload_n 1, 1, 0, 0) := rfl
set_option maxRecDepth 100000 in
theorem i372_1309 : mm_cd 372 1309 = some (.aload_n 0, 1, 0, 0) := rfl
set_option maxRecDepth 100000 in
theorem i372_1310 : mm_cd 372 1310 = some (.iload 4, 2, 0, 0) := rfl
set_option maxRecDepth 100000 in
theorem i372_1312 : mm_cd 372 1312 = some (.iconst 1, 1, 0, 0) := rfl
set_option maxRecDepth 100000 in
theorem i372_1313 : mm_cd 372 1313 = some (.iadd, 1, 0, 0) := rfl
set_option maxRecDepth 100000 in
theorem i372_1314 : mm_cd 372 1314 = some (.iaload, 1, 0, 0) := rfl
set_option maxRecDepth 100000 in
theorem i372_1315 : mm_cd 372 1315 = some (.aload_n 0, 1, 0, 0) := rfl
set_option maxRecDepth 100000 in
theorem i372_1316 : mm_cd 372 1316 = some (.iload 4, 2, 0, 0) := rfl
set_option maxRecDepth 100000 in
theorem i372_1318 : mm_cd 372 1318 = some (.iconst 2, 1, 0, 0) := rfl
set_option maxRecDepth 100000 in
theorem i372_1319 : mm_cd 372 1319 = some (.iadd, 1, 0, 0) := rfl
set_option maxRecDepth 100000 in
theorem i372_1320 : mm_cd 372 1320 = some (.iaload, 1, 0, 0) := rfl
set_option maxRecDepth 100000 in
theorem i372_1321 : mm_cd 372 1321 = some (.aload_n 0, 1, 0, 0) := rfl
set_option maxRecDepth 100000 in
theorem i372_1322 : mm_cd 372 1322 = some (.iload 4, 2, 0, 0) := rfl
set_option maxRecDepth 100000 in
theorem i372_1324 : mm_cd 372 1324 = some (.iconst 3, 1, 0, 0) := rfl
set_option maxRecDepth 100000 in
theorem i372_1325 : mm_cd 372 1325 = some (.iadd, 1, 0, 0) := rfl
set_option maxRecDepth 100000 in
theorem i372_1326 : mm_cd 372 1326 = some (.iaload, 1, 0, 0) := rfl
set_option maxRecDepth 100000 in
theorem i372_1327 : mm_cd 372 1327 = some (.ifCond .eq 7, 3, 0, 0) := rfl
set_option maxRecDepth 100000 in
theorem i372_1330 : mm_cd 372 1330 = some (.iconst 1, 1, 0, 0) := rfl
set_option maxRecDepth 100000 in
theorem i372_1331 : mm_cd 372 1331 = some (.goto 4, 3, 0, 0) := rfl
set_option maxRecDepth 100000 in
theorem i372_1334 : mm_cd 372 1334 = some (.iconst 0, 1, 0, 0) := rfl
set_option maxRecDepth 100000 in
theorem i372_1335 : mm_cd 372 1335 = some (.aload_n 3, 1, 0, 0) := rfl
set_option maxRecDepth 100000 in
theorem i372_1336 : mm_cd 372 1336 = some (.invokestatic 190, 3, 0, 359) := rfl
set_option maxRecDepth 100000 in
theorem i372_1339 : mm_cd 372 1339 = some (.istore 5, 2, 0, 0) := rfl
set_option maxRecDepth 100000 in
theorem i372_1341 : mm_cd 372 1341 = some (.aload_n 2, 1, 0, 0) := rfl
set_option maxRecDepth 100000 in
theorem i372_1342 : mm_cd 372 1342 = some (.aload_n 0, 1, 0, 0) := rfl
set_option maxRecDepth 100000 in
theorem i372_1343 : mm_cd 372 1343 = some (.iload 4, 2, 0, 0) := rfl
set_option maxRecDepth 100000 in
theorem i372_1345 : mm_cd 372 1345 = some (.iconst 1, 1, 0, 0) := rfl
set_option maxRecDepth 100000 in
theorem i372_1346 : mm_cd 372 1346 = some (.iadd, 1, 0, 0) := rfl
set_option maxRecDepth 100000 in
theorem i372_1347 : mm_cd 372 1347 = some (.iaload, 1, 0, 0) := rfl
set_option maxRecDepth 100000 in
theorem i372_1348 : mm_cd 372 1348 = some (.aload_n 0, 1, 0, 0) := rfl
set_option maxRecDepth 100000 in
theorem i372_1349 : mm_cd 372 1349 = some (.iload 4, 2, 0, 0) := rfl
set_option maxRecDepth 100000 in
theorem i372_1351 : mm_cd 372 1351 = some (.iconst 2, 1, 0, 0) := rfl
set_option maxRecDepth 100000 in
theorem i372_1352 : mm_cd 372 1352 = some (.iadd, 1, 0, 0) := rfl
set_option maxRecDepth 100000 in
theorem i372_1353 : mm_cd 372 1353 = some (.iaload, 1, 0, 0) := rfl
set_option maxRecDepth 100000 in
theorem i372_1354 : mm_cd 372 1354 = some (.aload_n 0, 1, 0, 0) := rfl
set_option maxRecDepth 100000 in
theorem i372_1355 : mm_cd 372 1355 = some (.iload 4, 2, 0, 0) := rfl
set_option maxRecDepth 100000 in
theorem i372_1357 : mm_cd 372 1357 = some (.iconst 3, 1, 0, 0) := rfl
set_option maxRecDepth 100000 in
theorem i372_1358 : mm_cd 372 1358 = some (.iadd, 1, 0, 0) := rfl
set_option maxRecDepth 100000 in
theorem i372_1359 : mm_cd 372 1359 = some (.iaload, 1, 0, 0) := rfl
set_option maxRecDepth 100000 in
theorem i372_1360 : mm_cd 372 1360 = some (.ifCond .eq 7, 3, 0, 0) := rfl
set_option maxRecDepth 100000 in
theorem i372_1363 : mm_cd 372 1363 = some (.iconst 1, 1, 0, 0) := rfl
set_option maxRecDepth 100000 in
theorem i372_1364 : mm_cd 372 1364 = some (.goto 4, 3, 0, 0) := rfl
set_option maxRecDepth 100000 in
theorem i372_1367 : mm_cd 372 1367 = some (.iconst 0, 1, 0, 0) := rfl
set_option maxRecDepth 100000 in
theorem i372_1368 : mm_cd 372 1368 = some (.invokevirtual 193, 3, 0, 297) := rfl
set_option maxRecDepth 100000 in
theorem i372_1371 : mm_cd 372 1371 = some (.istore 6, 2, 0, 0) := rfl
set_option maxRecDepth 100000 in
theorem i372_1373 : mm_cd 372 1373 = some (.aload_n 2, 1, 0, 0) := rfl
set_option maxRecDepth 100000 in
theorem i372_1374 : mm_cd 372 1374 = some (.invokevirtual 130, 3, 0, 187) := rfl
set_option maxRecDepth 100000 in
theorem i372_1377 : mm_cd 372 1377 = some (.iload 5, 2, 0, 0) := rfl
set_option maxRecDepth 100000 in
theorem i372_1379 : mm_cd 372 1379 = some (.if_icmp .eq 5, 3, 0, 0) := rfl
set_option maxRecDepth 100000 in
theorem i372_1382 : mm_cd 372 1382 = some (.iconst 0, 1, 0, 0) := rfl
set_option maxRecDepth 100000 in
theorem i372_1383 : mm_cd 372 1383 = some (.ireturn, 1, 0, 0) := rfl
set_option maxRecDepth 100000 in
theorem i372_1384 : mm_cd 372 1384 = some (.iload 5, 2, 0, 0) := rfl
set_option maxRecDepth 100000 in
theorem i372_1386 : mm_cd 372 1386 = some (.ifCond .ne 15, 3, 0, 0) := rfl
set_option maxRecDepth 100000 in
theorem i372_1389 : mm_cd 372 1389 = some (.aload_n 3, 1, 0, 0) := rfl
set_option maxRecDepth 100000 in
theorem i372_1390 : mm_cd 372 1390 = some (.iconst 0, 1, 0, 0) := rfl
set_option maxRecDepth 100000 in
theorem i372_1391 : mm_cd 372 1391 = some (.laload, 1, 0, 0) := rfl
set_option maxRecDepth 100000 in
theorem i372_1392 : mm_cd 372 1392 = some (.iload 6, 2, 0, 0) := rfl
set_option maxRecDepth 100000 in
theorem i372_1394 : mm_cd 372 1394 = some (.i2l, 1, 0, 0) := rfl
set_option maxRecDepth 100000 in
theorem i372_1395 : mm_cd 372 1395 = some (.lcmp, 1, 0, 0) := rfl
set_option maxRecDepth 100000 in
theorem i372_1396 : mm_cd 372 1396 = some (.ifCond .eq 5, 3, 0, 0) := rfl
set_option maxRecDepth 100000 in
theorem i372_1399 : mm_cd 372 1399 = some (.iconst 0, 1, 0, 0) := rfl
set_option maxRecDepth 100000 in
theorem i372_1400 : mm_cd 372 1400 = some (.ireturn, 1, 0, 0) := rfl
set_option maxRecDepth 100000 in
theorem i372_1401 : mm_cd 372 1401 = some (.goto 981, 3, 0, 0) := rfl
theorem K20 {L : Nat} {xs : Nat → Int32} {i B : Nat} {s : mS} (hL : L ≤ 3072) (hi : i + 6 ≤ L) (hG : G B s) (hB : B + 60 < 400000000) : KQ L xs i B 1308 s := by
  have walk : ∀ (k0 v : Int32) (s1 t : mS) (r : mQ), q359 (xs (i + 1)) (xs (i + 2)) (if xs (i + 3) = 0 then nI 0 else nI 1) s = some (.inl (some k0), s1) → q297 (xs (i + 1)) (xs (i + 2)) (if xs (i + 3) = 0 then nI 0 else nI 1) s1 = some (.inl (some v), t) → t.1 512 0 = k0 → (k0 = 0 → t.2.1 524 0 = v.toInt64) → Ev L xs 60 372 2382 (lvB i) [] (hp t) (hr r) → Ev L xs 60 372 1308 (lvB i) [] (hp s) (hr r) := fun k0 v s1 t r z1 m1 hc hv k => by
    refine Ev.aload_n H372 i372_1308 rfl ?_
    refine LD (j := 1) i372_1309 i372_1310 i372_1312 i372_1313 i372_1314 (by decide) rfl rfl hL (by omega) ?_
    refine LD (j := 2) i372_1315 i372_1316 i372_1318 i372_1319 i372_1320 (by decide) rfl rfl hL (by omega) ?_
    refine LD (j := 3) i372_1321 i372_1322 i372_1324 i372_1325 i372_1326 (by decide) rfl rfl hL (by omega) ?_
    refine LZ i372_1327 i372_1330 i372_1331 i372_1334 (by decide) (by decide) ?_
    refine Ev.aload_n H372 i372_1335 rfl ?_
    refine CSt (As := [.ref 0, .int (xs (i + 1)), .int (xs (i + 2)), .int (if xs (i + 3) = 0 then nI 0 else nI 1), .ref 524]) i372_1336 cal359 rfl (Nat.le_of_ble_eq_true rfl) (Nat.le_of_ble_eq_true rfl) (show 2 < 60 by decide) (c359 z1) ?_
    refine Ev.istore H372 i372_1339 (by decide) (lv2 := (5, .int k0) :: lvB i) rfl ?_
    refine Ev.aload_n H372 i372_1341 rfl ?_
    refine LD (j := 1) i372_1342 i372_1343 i372_1345 i372_1346 i372_1347 (by decide) rfl rfl hL (by omega) ?_
    refine LD (j := 2) i372_1348 i372_1349 i372_1351 i372_1352 i372_1353 (by decide) rfl rfl hL (by omega) ?_
    refine LD (j := 3) i372_1354 i372_1355 i372_1357 i372_1358 i372_1359 (by decide) rfl rfl hL (by omega) ?_
    refine LZ i372_1360 i372_1363 i372_1364 i372_1367 (by decide) (by decide) ?_
    refine CV (As := [.int (xs (i + 1)), .int (xs (i + 2)), .int (if xs (i + 3) = 0 then nI 0 else nI 1)]) i372_1368 cal297 ob11 rfl (Nat.le_of_ble_eq_true rfl) (Nat.le_of_ble_eq_true rfl) (show 3 < 60 by decide) (c297 m1) ?_
    refine Ev.istore H372 i372_1371 (by decide) (lv2 := (6, .int v) :: (5, .int k0) :: lvB i) rfl ?_
    exact TLI i372_1373 i372_1374 i372_1377 i372_1379 i372_1384 i372_1386 i372_1389 i372_1390 i372_1391 i372_1392 i372_1394 i372_1395 i372_1396 i372_1401 (by decide) (by decide) (by decide) (by decide) hc hv k
  have h0 : (0 : Int32).toNatClampNeg = 0 := by decide
  rcases z_version hG (xs (i + 1)) (xs (i + 2)) (if xs (i + 3) = 0 then nI 0 else nI 1) with ⟨v, s1, z1, z2, z3⟩ | ⟨x, u, w, c, s1, z1, z2, z4, z5, z6, z3⟩
  · obtain ⟨t, m1, m2, m3, m4⟩ := z3 (sL s1 524 0 v.toInt64) sL_1
    refine ⟨t, G_up m4 (by omega), CN_e (by rw [m2.1, sL_22, z2]), fun r k => walk 0 v (sL s1 524 0 v.toInt64) t r ?_ m1 m3 (fun _ => by rw [m2.2 524 (by omega), sLz_at]) k⟩
    unfold q359
    rw [z1]
    show gA 1 (nI 0) _ = _
    rw [gA_ok (show 0 < 1 by decide) (by omega), sp_e, h0]; rfl
  · obtain ⟨v, t, m1, m2, m3, m4⟩ := z3 (sX s1) rfl
    have hcz : ¬ nI c = 0 := by rw [nI_lit, nI_eqv (by omega) (by omega)]; omega
    refine ⟨t, G_up m4 (by omega), ?_, fun r k => walk (nI c) v (sX s1) t r ?_ m1 m3 (fun q => absurd q hcz) k⟩
    · unfold CN
      rw [m2.1]
      show s1.2.2.2.1 + 1 ≤ _ ∧ s1.2.2.2.2 + 6 ≤ _
      rw [z2]; exact ⟨Nat.le_refl _, Nat.le_refl _⟩
    · unfold q359
      rw [z1]
      exact bC_x z4 z6
set_option maxRecDepth 100000 in
theorem i372_1404 : mm_cd 372 1404 = some (.aload_n 1, 1, 0, 0) := rfl
set_option maxRecDepth 100000 in
theorem i372_1405 : mm_cd 372 1405 = some (.aload_n 0, 1, 0, 0) := rfl
set_option maxRecDepth 100000 in
theorem i372_1406 : mm_cd 372 1406 = some (.iload 4, 2, 0, 0) := rfl
set_option maxRecDepth 100000 in
theorem i372_1408 : mm_cd 372 1408 = some (.iconst 1, 1, 0, 0) := rfl
set_option maxRecDepth 100000 in
theorem i372_1409 : mm_cd 372 1409 = some (.iadd, 1, 0, 0) := rfl
set_option maxRecDepth 100000 in
theorem i372_1410 : mm_cd 372 1410 = some (.iaload, 1, 0, 0) := rfl
set_option maxRecDepth 100000 in
theorem i372_1411 : mm_cd 372 1411 = some (.invokevirtual 194, 3, 0, 151) := rfl
set_option maxRecDepth 100000 in
theorem i372_1414 : mm_cd 372 1414 = some (.aload_n 2, 1, 0, 0) := rfl
set_option maxRecDepth 100000 in
theorem i372_1415 : mm_cd 372 1415 = some (.aload_n 0, 1, 0, 0) := rfl
set_option maxRecDepth 100000 in
theorem i372_1416 : mm_cd 372 1416 = some (.iload 4, 2, 0, 0) := rfl
set_option maxRecDepth 100000 in
theorem i372_1418 : mm_cd 372 1418 = some (.iconst 1, 1, 0, 0) := rfl
set_option maxRecDepth 100000 in
theorem i372_1419 : mm_cd 372 1419 = some (.iadd, 1, 0, 0) := rfl
set_option maxRecDepth 100000 in
theorem i372_1420 : mm_cd 372 1420 = some (.iaload, 1, 0, 0) := rfl
set_option maxRecDepth 100000 in
theorem i372_1421 : mm_cd 372 1421 = some (.invokevirtual 197, 3, 0, 300) := rfl
set_option maxRecDepth 100000 in
theorem i372_1424 : mm_cd 372 1424 = some (.if_icmp .eq 958, 3, 0, 0) := rfl
set_option maxRecDepth 100000 in
theorem i372_1427 : mm_cd 372 1427 = some (.iconst 0, 1, 0, 0) := rfl
set_option maxRecDepth 100000 in
theorem i372_1428 : mm_cd 372 1428 = some (.ireturn, 1, 0, 0) := rfl
theorem K21 {L : Nat} {xs : Nat → Int32} {i B : Nat} {s : mS} (hL : L ≤ 3072) (hi : i + 6 ≤ L) (hG : G B s) (hB : B + 60 < 400000000) : KQ L xs i B 1404 s := by
  obtain ⟨v, s1, z1, z2, z3⟩ := z_serial hG (xs (i + 1))
  obtain ⟨t, m1, m2, m3⟩ := z3 s1 rfl
  refine ⟨t, G_up m3 (by omega), CN_e (by rw [m2.1, z2]), fun r k => ?_⟩
  refine Ev.aload_n H372 i372_1404 rfl ?_
  refine LD (j := 1) i372_1405 i372_1406 i372_1408 i372_1409 i372_1410 (by decide) rfl rfl hL (by omega) ?_
  refine CV (As := [.int (xs (i + 1))]) i372_1411 cal151 ob10 rfl (Nat.le_of_ble_eq_true rfl) (Nat.le_of_ble_eq_true rfl) (show 3 < 60 by decide) (c151 z1) ?_
  refine Ev.aload_n H372 i372_1414 rfl ?_
  refine LD (j := 1) i372_1415 i372_1416 i372_1418 i372_1419 i372_1420 (by decide) rfl rfl hL (by omega) ?_
  refine CV (As := [.int (xs (i + 1))]) i372_1421 cal300 ob11 rfl (Nat.le_of_ble_eq_true rfl) (Nat.le_of_ble_eq_true rfl) (show 5 < 60 by decide) (c300 m1) ?_
  exact Ev.ic_eq H372 i372_1424 (by decide) (fun _ => k) (fun e => absurd rfl e)
set_option maxRecDepth 100000 in
theorem i372_1429 : mm_cd 372 1429 = some (.aload_n 1, 1, 0, 0) := rfl
set_option maxRecDepth 100000 in
theorem i372_1430 : mm_cd 372 1430 = some (.aload_n 0, 1, 0, 0) := rfl
set_option maxRecDepth 100000 in
theorem i372_1431 : mm_cd 372 1431 = some (.iload 4, 2, 0, 0) := rfl
set_option maxRecDepth 100000 in
theorem i372_1433 : mm_cd 372 1433 = some (.iconst 1, 1, 0, 0) := rfl
set_option maxRecDepth 100000 in
theorem i372_1434 : mm_cd 372 1434 = some (.iadd, 1, 0, 0) := rfl
set_option maxRecDepth 100000 in
theorem i372_1435 : mm_cd 372 1435 = some (.iaload, 1, 0, 0) := rfl
set_option maxRecDepth 100000 in
theorem i372_1436 : mm_cd 372 1436 = some (.aload_n 0, 1, 0, 0) := rfl
set_option maxRecDepth 100000 in
theorem i372_1437 : mm_cd 372 1437 = some (.iload 4, 2, 0, 0) := rfl
set_option maxRecDepth 100000 in
theorem i372_1439 : mm_cd 372 1439 = some (.iconst 2, 1, 0, 0) := rfl
set_option maxRecDepth 100000 in
theorem i372_1440 : mm_cd 372 1440 = some (.iadd, 1, 0, 0) := rfl
set_option maxRecDepth 100000 in
theorem i372_1441 : mm_cd 372 1441 = some (.iaload, 1, 0, 0) := rfl
set_option maxRecDepth 100000 in
theorem i372_1442 : mm_cd 372 1442 = some (.aload_n 3, 1, 0, 0) := rfl
set_option maxRecDepth 100000 in
theorem i372_1443 : mm_cd 372 1443 = some (.invokestatic 198, 3, 0, 360) := rfl
set_option maxRecDepth 100000 in
theorem i372_1446 : mm_cd 372 1446 = some (.istore 5, 2, 0, 0) := rfl
set_option maxRecDepth 100000 in
theorem i372_1448 : mm_cd 372 1448 = some (.aload_n 2, 1, 0, 0) := rfl
set_option maxRecDepth 100000 in
theorem i372_1449 : mm_cd 372 1449 = some (.aload_n 0, 1, 0, 0) := rfl
set_option maxRecDepth 100000 in
theorem i372_1450 : mm_cd 372 1450 = some (.iload 4, 2, 0, 0) := rfl
set_option maxRecDepth 100000 in
theorem i372_1452 : mm_cd 372 1452 = some (.iconst 1, 1, 0, 0) := rfl
set_option maxRecDepth 100000 in
theorem i372_1453 : mm_cd 372 1453 = some (.iadd, 1, 0, 0) := rfl
set_option maxRecDepth 100000 in
theorem i372_1454 : mm_cd 372 1454 = some (.iaload, 1, 0, 0) := rfl
set_option maxRecDepth 100000 in
theorem i372_1455 : mm_cd 372 1455 = some (.aload_n 0, 1, 0, 0) := rfl
set_option maxRecDepth 100000 in
theorem i372_1456 : mm_cd 372 1456 = some (.iload 4, 2, 0, 0) := rfl
set_option maxRecDepth 100000 in
theorem i372_1458 : mm_cd 372 1458 = some (.iconst 2, 1, 0, 0) := rfl
set_option maxRecDepth 100000 in
theorem i372_1459 : mm_cd 372 1459 = some (.iadd, 1, 0, 0) := rfl
set_option maxRecDepth 100000 in
theorem i372_1460 : mm_cd 372 1460 = some (.iaload, 1, 0, 0) := rfl
set_option maxRecDepth 100000 in
theorem i372_1461 : mm_cd 372 1461 = some (.invokevirtual 200, 3, 0, 304) := rfl
set_option maxRecDepth 100000 in
theorem i372_1464 : mm_cd 372 1464 = some (.istore 6, 2, 0, 0) := rfl
set_option maxRecDepth 100000 in
theorem i372_1466 : mm_cd 372 1466 = some (.aload_n 2, 1, 0, 0) := rfl
set_option maxRecDepth 100000 in
theorem i372_1467 : mm_cd 372 1467 = some (.invokevirtual 130, 3, 0, 187) := rfl
set_option maxRecDepth 100000 in
theorem i372_1470 : mm_cd 372 1470 = some (.iload 5, 2, 0, 0) := rfl
set_option maxRecDepth 100000 in
theorem i372_1472 : mm_cd 372 1472 = some (.if_icmp .eq 5, 3, 0, 0) := rfl
set_option maxRecDepth 100000 in
theorem i372_1475 : mm_cd 372 1475 = some (.iconst 0, 1, 0, 0) := rfl
set_option maxRecDepth 100000 in
theorem i372_1476 : mm_cd 372 1476 = some (.ireturn, 1, 0, 0) := rfl
set_option maxRecDepth 100000 in
theorem i372_1477 : mm_cd 372 1477 = some (.iload 5, 2, 0, 0) := rfl
set_option maxRecDepth 100000 in
theorem i372_1479 : mm_cd 372 1479 = some (.ifCond .ne 22, 3, 0, 0) := rfl
set_option maxRecDepth 100000 in
theorem i372_1482 : mm_cd 372 1482 = some (.aload_n 3, 1, 0, 0) := rfl
set_option maxRecDepth 100000 in
theorem i372_1483 : mm_cd 372 1483 = some (.iconst 0, 1, 0, 0) := rfl
set_option maxRecDepth 100000 in
theorem i372_1484 : mm_cd 372 1484 = some (.laload, 1, 0, 0) := rfl
set_option maxRecDepth 100000 in
theorem i372_1485 : mm_cd 372 1485 = some (.iload 6, 2, 0, 0) := rfl
set_option maxRecDepth 100000 in
theorem i372_1487 : mm_cd 372 1487 = some (.ifCond .eq 7, 3, 0, 0) := rfl
set_option maxRecDepth 100000 in
theorem i372_1490 : mm_cd 372 1490 = some (.lconst 1, 1, 0, 0) := rfl
set_option maxRecDepth 100000 in
theorem i372_1491 : mm_cd 372 1491 = some (.goto 4, 3, 0, 0) := rfl
set_option maxRecDepth 100000 in
theorem i372_1494 : mm_cd 372 1494 = some (.lconst 0, 1, 0, 0) := rfl
set_option maxRecDepth 100000 in
theorem i372_1495 : mm_cd 372 1495 = some (.lcmp, 1, 0, 0) := rfl
set_option maxRecDepth 100000 in
theorem i372_1496 : mm_cd 372 1496 = some (.ifCond .eq 5, 3, 0, 0) := rfl
set_option maxRecDepth 100000 in
theorem i372_1499 : mm_cd 372 1499 = some (.iconst 0, 1, 0, 0) := rfl
set_option maxRecDepth 100000 in
theorem i372_1500 : mm_cd 372 1500 = some (.ireturn, 1, 0, 0) := rfl
set_option maxRecDepth 100000 in
theorem i372_1501 : mm_cd 372 1501 = some (.goto 881, 3, 0, 0) := rfl
theorem K22 {L : Nat} {xs : Nat → Int32} {i B : Nat} {s : mS} (hL : L ≤ 3072) (hi : i + 6 ≤ L) (hG : G B s) (hB : B + 60 < 400000000) : KQ L xs i B 1429 s := by
  have walk : ∀ (k0 v : Int32) (s1 t : mS) (r : mQ), q360 (xs (i + 1)) (xs (i + 2)) s = some (.inl (some k0), s1) → q304 (xs (i + 1)) (xs (i + 2)) s1 = some (.inl (some v), t) → t.1 512 0 = k0 → (k0 = 0 → t.2.1 524 0 = if v = 0 then 0 else 1) → Ev L xs 60 372 2382 (lvB i) [] (hp t) (hr r) → Ev L xs 60 372 1429 (lvB i) [] (hp s) (hr r) := fun k0 v s1 t r z1 m1 hc hv k => by
    refine Ev.aload_n H372 i372_1429 rfl ?_
    refine LD (j := 1) i372_1430 i372_1431 i372_1433 i372_1434 i372_1435 (by decide) rfl rfl hL (by omega) ?_
    refine LD (j := 2) i372_1436 i372_1437 i372_1439 i372_1440 i372_1441 (by decide) rfl rfl hL (by omega) ?_
    refine Ev.aload_n H372 i372_1442 rfl ?_
    refine CSt (As := [.ref 0, .int (xs (i + 1)), .int (xs (i + 2)), .ref 524]) i372_1443 cal360 rfl (Nat.le_of_ble_eq_true rfl) (Nat.le_of_ble_eq_true rfl) (show 3 < 60 by decide) (c360 z1) ?_
    refine Ev.istore H372 i372_1446 (by decide) (lv2 := (5, .int k0) :: lvB i) rfl ?_
    refine Ev.aload_n H372 i372_1448 rfl ?_
    refine LD (j := 1) i372_1449 i372_1450 i372_1452 i372_1453 i372_1454 (by decide) rfl rfl hL (by omega) ?_
    refine LD (j := 2) i372_1455 i372_1456 i372_1458 i372_1459 i372_1460 (by decide) rfl rfl hL (by omega) ?_
    refine CV (As := [.int (xs (i + 1)), .int (xs (i + 2))]) i372_1461 cal304 ob11 rfl (Nat.le_of_ble_eq_true rfl) (Nat.le_of_ble_eq_true rfl) (show 4 < 60 by decide) (c304 m1) ?_
    refine Ev.istore H372 i372_1464 (by decide) (lv2 := (6, .int v) :: (5, .int k0) :: lvB i) rfl ?_
    exact TLZ i372_1466 i372_1467 i372_1470 i372_1472 i372_1477 i372_1479 i372_1482 i372_1483 i372_1484 i372_1485 i372_1487 i372_1490 i372_1491 i372_1494 i372_1495 i372_1496 i372_1501 (by decide) (by decide) (by decide) (by decide) (by decide) (by decide) hc hv k
  have h0 : (0 : Int32).toNatClampNeg = 0 := by decide
  rcases z_clash hG (xs (i + 1)) (xs (i + 2)) with ⟨v, s1, z1, z2, z3⟩ | ⟨x, u, w, c, s1, z1, z2, z4, z5, z6, z3⟩
  · by_cases ev : v = 0
    · obtain ⟨t, m1, m2, m3, m4⟩ := z3 (sL s1 524 0 (0 : Int64)) sL_1
      refine ⟨t, G_up m4 (by omega), CN_e (by rw [m2.1, sL_22, z2]), fun r k => walk 0 v (sL s1 524 0 (0 : Int64)) t r ?_ m1 m3 (fun _ => by rw [m2.2 524 (by omega), sLz_at, if_pos ev]) k⟩
      unfold q360 q360_16
      rw [z1]
      show (if v = 0 then _ else _) = _
      rw [if_pos ev]
      show gA 1 (nI 0) _ = _
      rw [gA_ok (show 0 < 1 by decide) (by omega), sp_e, h0]; rfl
    · obtain ⟨t, m1, m2, m3, m4⟩ := z3 (sL s1 524 0 (1 : Int64)) sL_1
      refine ⟨t, G_up m4 (by omega), CN_e (by rw [m2.1, sL_22, z2]), fun r k => walk 0 v (sL s1 524 0 (1 : Int64)) t r ?_ m1 m3 (fun _ => by rw [m2.2 524 (by omega), sLz_at, if_neg ev]) k⟩
      unfold q360 q360_16
      rw [z1]
      show (if v = 0 then _ else _) = _
      rw [if_neg ev]
      show gA 1 (nI 0) _ = _
      rw [gA_ok (show 0 < 1 by decide) (by omega), sp_e, h0]; rfl
  · obtain ⟨v, t, m1, m2, m3, m4⟩ := z3 (sX s1) rfl
    have hcz : ¬ nI c = 0 := by rw [nI_lit, nI_eqv (by omega) (by omega)]; omega
    refine ⟨t, G_up m4 (by omega), ?_, fun r k => walk (nI c) v (sX s1) t r ?_ m1 m3 (fun q => absurd q hcz) k⟩
    · unfold CN
      rw [m2.1]
      show s1.2.2.2.1 + 1 ≤ _ ∧ s1.2.2.2.2 + 6 ≤ _
      rw [z2]; exact ⟨Nat.le_refl _, Nat.le_refl _⟩
    · unfold q360
      rw [z1]
      exact bC_x z4 z6
