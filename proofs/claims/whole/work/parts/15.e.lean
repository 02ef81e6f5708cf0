/-! THE LAW'S LOOP: cases -/
set_option maxRecDepth 100000 in
theorem i372_1949 : mm_cd 372 1949 = some (.aload_n 1, 1, 0, 0) := rfl
set_option maxRecDepth 100000 in
theorem i372_1950 : mm_cd 372 1950 = some (.invokevirtual 242, 3, 0, 162) := rfl
set_option maxRecDepth 100000 in
theorem i372_1953 : mm_cd 372 1953 = some (.aload_n 2, 1, 0, 0) := rfl
set_option maxRecDepth 100000 in
theorem i372_1954 : mm_cd 372 1954 = some (.invokevirtual 245, 3, 0, 330) := rfl
set_option maxRecDepth 100000 in
theorem i372_1957 : mm_cd 372 1957 = some (.if_icmp .eq 425, 3, 0, 0) := rfl
set_option maxRecDepth 100000 in
theorem i372_1960 : mm_cd 372 1960 = some (.iconst 0, 1, 0, 0) := rfl
set_option maxRecDepth 100000 in
theorem i372_1961 : mm_cd 372 1961 = some (.ireturn, 1, 0, 0) := rfl
theorem K35 {L : Nat} {xs : Nat → Int32} {i B : Nat} {s : mS} (hL : L ≤ 3072) (hi : i + 6 ≤ L) (hG : G B s) (hB : B + 60 < 400000000) : KQ L xs i B 1949 s := by
  obtain ⟨v, s1, z1, z2, z3⟩ := z_hot hG
  obtain ⟨t, m1, m2, m3⟩ := z3 s1 rfl
  refine ⟨t, G_up m3 (by omega), CN_e (by rw [m2.1, z2]), fun r k => ?_⟩
  refine Ev.aload_n H372 i372_1949 rfl ?_
  refine CV (As := []) i372_1950 cal162 ob10 rfl (Nat.le_of_ble_eq_true rfl) (Nat.le_of_ble_eq_true rfl) (show 2 < 60 by decide) (c162 z1) ?_
  refine Ev.aload_n H372 i372_1953 rfl ?_
  refine CV (As := []) i372_1954 cal330 ob11 rfl (Nat.le_of_ble_eq_true rfl) (Nat.le_of_ble_eq_true rfl) (show 4 < 60 by decide) (c330 m1) ?_
  exact Ev.ic_eq H372 i372_1957 (by decide) (fun _ => k) (fun e => absurd rfl e)
set_option maxRecDepth 100000 in
theorem i372_1962 : mm_cd 372 1962 = some (.aload_n 1, 1, 0, 0) := rfl
set_option maxRecDepth 100000 in
theorem i372_1963 : mm_cd 372 1963 = some (.invokevirtual 246, 3, 0, 163) := rfl
set_option maxRecDepth 100000 in
theorem i372_1966 : mm_cd 372 1966 = some (.aload_n 2, 1, 0, 0) := rfl
set_option maxRecDepth 100000 in
theorem i372_1967 : mm_cd 372 1967 = some (.invokevirtual 249, 3, 0, 331) := rfl
set_option maxRecDepth 100000 in
theorem i372_1970 : mm_cd 372 1970 = some (.if_icmp .eq 412, 3, 0, 0) := rfl
set_option maxRecDepth 100000 in
theorem i372_1973 : mm_cd 372 1973 = some (.iconst 0, 1, 0, 0) := rfl
set_option maxRecDepth 100000 in
theorem i372_1974 : mm_cd 372 1974 = some (.ireturn, 1, 0, 0) := rfl
theorem K36 {L : Nat} {xs : Nat → Int32} {i B : Nat} {s : mS} (hL : L ≤ 3072) (hi : i + 6 ≤ L) (hG : G B s) (hB : B + 60 < 400000000) : KQ L xs i B 1962 s := by
  obtain ⟨v, s1, z1, z2, z3⟩ := z_twins hG
  obtain ⟨t, m1, m2, m3⟩ := z3 s1 rfl
  refine ⟨t, G_up m3 (by omega), CN_e (by rw [m2.1, z2]), fun r k => ?_⟩
  refine Ev.aload_n H372 i372_1962 rfl ?_
  refine CV (As := []) i372_1963 cal163 ob10 rfl (Nat.le_of_ble_eq_true rfl) (Nat.le_of_ble_eq_true rfl) (show 1 < 60 by decide) (c163 z1) ?_
  refine Ev.aload_n H372 i372_1966 rfl ?_
  refine CV (As := []) i372_1967 cal331 ob11 rfl (Nat.le_of_ble_eq_true rfl) (Nat.le_of_ble_eq_true rfl) (show 2 < 60 by decide) (c331 m1) ?_
  exact Ev.ic_eq H372 i372_1970 (by decide) (fun _ => k) (fun e => absurd rfl e)
set_option maxRecDepth 100000 in
theorem i372_1975 : mm_cd 372 1975 = some (.aload_n 1, 1, 0, 0) := rfl
set_option maxRecDepth 100000 in
theorem i372_1976 : mm_cd 372 1976 = some (.aload_n 0, 1, 0, 0) := rfl
set_option maxRecDepth 100000 in
theorem i372_1977 : mm_cd 372 1977 = some (.iload 4, 2, 0, 0) := rfl
set_option maxRecDepth 100000 in
theorem i372_1979 : mm_cd 372 1979 = some (.iconst 1, 1, 0, 0) := rfl
set_option maxRecDepth 100000 in
theorem i372_1980 : mm_cd 372 1980 = some (.iadd, 1, 0, 0) := rfl
set_option maxRecDepth 100000 in
theorem i372_1981 : mm_cd 372 1981 = some (.iaload, 1, 0, 0) := rfl
set_option maxRecDepth 100000 in
theorem i372_1982 : mm_cd 372 1982 = some (.aload_n 0, 1, 0, 0) := rfl
set_option maxRecDepth 100000 in
theorem i372_1983 : mm_cd 372 1983 = some (.iload 4, 2, 0, 0) := rfl
set_option maxRecDepth 100000 in
theorem i372_1985 : mm_cd 372 1985 = some (.iconst 2, 1, 0, 0) := rfl
set_option maxRecDepth 100000 in
theorem i372_1986 : mm_cd 372 1986 = some (.iadd, 1, 0, 0) := rfl
set_option maxRecDepth 100000 in
theorem i372_1987 : mm_cd 372 1987 = some (.iaload, 1, 0, 0) := rfl
set_option maxRecDepth 100000 in
theorem i372_1988 : mm_cd 372 1988 = some (.ifCond .eq 7, 3, 0, 0) := rfl
set_option maxRecDepth 100000 in
theorem i372_1991 : mm_cd 372 1991 = some (.iconst 1, 1, 0, 0) := rfl
set_option maxRecDepth 100000 in
theorem i372_1992 : mm_cd 372 1992 = some (.goto 4, 3, 0, 0) := rfl
set_option maxRecDepth 100000 in
theorem i372_1995 : mm_cd 372 1995 = some (.iconst 0, 1, 0, 0) := rfl
set_option maxRecDepth 100000 in
theorem i372_1996 : mm_cd 372 1996 = some (.aload_n 3, 1, 0, 0) := rfl
set_option maxRecDepth 100000 in
theorem i372_1997 : mm_cd 372 1997 = some (.invokestatic 250, 3, 0, 368) := rfl
set_option maxRecDepth 100000 in
theorem i372_2000 : mm_cd 372 2000 = some (.istore 5, 2, 0, 0) := rfl
set_option maxRecDepth 100000 in
theorem i372_2002 : mm_cd 372 2002 = some (.aload_n 2, 1, 0, 0) := rfl
set_option maxRecDepth 100000 in
theorem i372_2003 : mm_cd 372 2003 = some (.aload_n 0, 1, 0, 0) := rfl
set_option maxRecDepth 100000 in
theorem i372_2004 : mm_cd 372 2004 = some (.iload 4, 2, 0, 0) := rfl
set_option maxRecDepth 100000 in
theorem i372_2006 : mm_cd 372 2006 = some (.iconst 1, 1, 0, 0) := rfl
set_option maxRecDepth 100000 in
theorem i372_2007 : mm_cd 372 2007 = some (.iadd, 1, 0, 0) := rfl
set_option maxRecDepth 100000 in
theorem i372_2008 : mm_cd 372 2008 = some (.iaload, 1, 0, 0) := rfl
set_option maxRecDepth 100000 in
theorem i372_2009 : mm_cd 372 2009 = some (.aload_n 0, 1, 0, 0) := rfl
set_option maxRecDepth 100000 in
theorem i372_2010 : mm_cd 372 2010 = some (.iload 4, 2, 0, 0) := rfl
set_option maxRecDepth 100000 in
theorem i372_2012 : mm_cd 372 2012 = some (.iconst 2, 1, 0, 0) := rfl
set_option maxRecDepth 100000 in
theorem i372_2013 : mm_cd 372 2013 = some (.iadd, 1, 0, 0) := rfl
set_option maxRecDepth 100000 in
theorem i372_2014 : mm_cd 372 2014 = some (.iaload, 1, 0, 0) := rfl
set_option maxRecDepth 100000 in
theorem i372_2015 : mm_cd 372 2015 = some (.ifCond .eq 7, 3, 0, 0) := rfl
set_option maxRecDepth 100000 in
theorem i372_2018 : mm_cd 372 2018 = some (.iconst 1, 1, 0, 0) := rfl
set_option maxRecDepth 100000 in
theorem i372_2019 : mm_cd 372 2019 = some (.goto 4, 3, 0, 0) := rfl
set_option maxRecDepth 100000 in
theorem i372_2022 : mm_cd 372 2022 = some (.iconst 0, 1, 0, 0) := rfl
set_option maxRecDepth 100000 in
theorem i372_2023 : mm_cd 372 2023 = some (.invokevirtual 253, 3, 0, 333) := rfl
set_option maxRecDepth 100000 in
theorem i372_2026 : mm_cd 372 2026 = some (.istore 6, 2, 0, 0) := rfl
set_option maxRecDepth 100000 in
theorem i372_2028 : mm_cd 372 2028 = some (.aload_n 2, 1, 0, 0) := rfl
set_option maxRecDepth 100000 in
theorem i372_2029 : mm_cd 372 2029 = some (.invokevirtual 130, 3, 0, 187) := rfl
set_option maxRecDepth 100000 in
theorem i372_2032 : mm_cd 372 2032 = some (.iload 5, 2, 0, 0) := rfl
set_option maxRecDepth 100000 in
theorem i372_2034 : mm_cd 372 2034 = some (.if_icmp .eq 5, 3, 0, 0) := rfl
set_option maxRecDepth 100000 in
theorem i372_2037 : mm_cd 372 2037 = some (.iconst 0, 1, 0, 0) := rfl
set_option maxRecDepth 100000 in
theorem i372_2038 : mm_cd 372 2038 = some (.ireturn, 1, 0, 0) := rfl
set_option maxRecDepth 100000 in
theorem i372_2039 : mm_cd 372 2039 = some (.iload 5, 2, 0, 0) := rfl
set_option maxRecDepth 100000 in
theorem i372_2041 : mm_cd 372 2041 = some (.ifCond .ne 15, 3, 0, 0) := rfl
set_option maxRecDepth 100000 in
theorem i372_2044 : mm_cd 372 2044 = some (.aload_n 3, 1, 0, 0) := rfl
set_option maxRecDepth 100000 in
theorem i372_2045 : mm_cd 372 2045 = some (.iconst 0, 1, 0, 0) := rfl
set_option maxRecDepth 100000 in
theorem i372_2046 : mm_cd 372 2046 = some (.laload, 1, 0, 0) := rfl
set_option maxRecDepth 100000 in
theorem i372_2047 : mm_cd 372 2047 = some (.iload 6, 2, 0, 0) := rfl
set_option maxRecDepth 100000 in
theorem i372_2049 : mm_cd 372 2049 = some (.i2l, 1, 0, 0) := rfl
set_option maxRecDepth 100000 in
theorem i372_2050 : mm_cd 372 2050 = some (.lcmp, 1, 0, 0) := rfl
set_option maxRecDepth 100000 in
theorem i372_2051 : mm_cd 372 2051 = some (.ifCond .eq 5, 3, 0, 0) := rfl
set_option maxRecDepth 100000 in
theorem i372_2054 : mm_cd 372 2054 = some (.iconst 0, 1, 0, 0) := rfl
set_option maxRecDepth 100000 in
theorem i372_2055 : mm_cd 372 2055 = some (.ireturn, 1, 0, 0) := rfl
set_option maxRecDepth 100000 in
theorem i372_2056 : mm_cd 372 2056 = some (.goto 326, 3, 0, 0) := rfl
theorem K37 {L : Nat} {xs : Nat → Int32} {i B : Nat} {s : mS} (hL : L ≤ 3072) (hi : i + 6 ≤ L) (hG : G B s) (hB : B + 60 < 400000000) : KQ L xs i B 1975 s := by
  have walk : ∀ (k0 v : Int32) (s1 t : mS) (r : mQ), q368 (xs (i + 1)) (if xs (i + 2) = 0 then nI 0 else nI 1) s = some (.inl (some k0), s1) → q333 (xs (i + 1)) (if xs (i + 2) = 0 then nI 0 else nI 1) s1 = some (.inl (some v), t) → t.1 512 0 = k0 → (k0 = 0 → t.2.1 524 0 = v.toInt64) → Ev L xs 60 372 2382 (lvB i) [] (hp t) (hr r) → Ev L xs 60 372 1975 (lvB i) [] (hp s) (hr r) := fun k0 v s1 t r z1 m1 hc hv k => by
    refine Ev.aload_n H372 i372_1975 rfl ?_
    refine LD (j := 1) i372_1976 i372_1977 i372_1979 i372_1980 i372_1981 (by decide) rfl rfl hL (by omega) ?_
    refine LD (j := 2) i372_1982 i372_1983 i372_1985 i372_1986 i372_1987 (by decide) rfl rfl hL (by omega) ?_
    refine LZ i372_1988 i372_1991 i372_1992 i372_1995 (by decide) (by decide) ?_
    refine Ev.aload_n H372 i372_1996 rfl ?_
    refine CSt (As := [.ref 0, .int (xs (i + 1)), .int (if xs (i + 2) = 0 then nI 0 else nI 1), .ref 524]) i372_1997 cal368 rfl (Nat.le_of_ble_eq_true rfl) (Nat.le_of_ble_eq_true rfl) (show 8 < 60 by decide) (c368 z1) ?_
    refine Ev.istore H372 i372_2000 (by decide) (lv2 := (5, .int k0) :: lvB i) rfl ?_
    refine Ev.aload_n H372 i372_2002 rfl ?_
    refine LD (j := 1) i372_2003 i372_2004 i372_2006 i372_2007 i372_2008 (by decide) rfl rfl hL (by omega) ?_
    refine LD (j := 2) i372_2009 i372_2010 i372_2012 i372_2013 i372_2014 (by decide) rfl rfl hL (by omega) ?_
    refine LZ i372_2015 i372_2018 i372_2019 i372_2022 (by decide) (by decide) ?_
    refine CV (As := [.int (xs (i + 1)), .int (if xs (i + 2) = 0 then nI 0 else nI 1)]) i372_2023 cal333 ob11 rfl (Nat.le_of_ble_eq_true rfl) (Nat.le_of_ble_eq_true rfl) (show 13 < 60 by decide) (c333 m1) ?_
    refine Ev.istore H372 i372_2026 (by decide) (lv2 := (6, .int v) :: (5, .int k0) :: lvB i) rfl ?_
    exact TLI i372_2028 i372_2029 i372_2032 i372_2034 i372_2039 i372_2041 i372_2044 i372_2045 i372_2046 i372_2047 i372_2049 i372_2050 i372_2051 i372_2056 (by decide) (by decide) (by decide) (by decide) hc hv k
  have h0 : (0 : Int32).toNatClampNeg = 0 := by decide
  rcases z_trial hG (by omega) (xs (i + 1)) (if xs (i + 2) = 0 then nI 0 else nI 1) with ⟨v, s1, z1, z2, z3⟩ | ⟨x, u, w, c, s1, z1, z2, z4, z5, z6, z3⟩
  · obtain ⟨t, m1, m2, m3, m4⟩ := z3 (sL s1 524 0 v.toInt64) sL_1
    refine ⟨t, G_up m4 (by omega), CN_e (by rw [m2.1, sL_22, z2]), fun r k => walk 0 v (sL s1 524 0 v.toInt64) t r ?_ m1 m3 (fun _ => by rw [m2.2 524 (by omega), sLz_at]) k⟩
    unfold q368
    rw [z1]
    show gA 1 (nI 0) _ = _
    rw [gA_ok (show 0 < 1 by decide) (by omega), sp_e, h0]; rfl
  · obtain ⟨v, t, m1, m2, m3, m4⟩ := z3 (sX s1) rfl
    have hcz : ¬ nI c = 0 := by rw [nI_lit, nI_eqv (by omega) (by omega)]; omega
    refine ⟨t, G_up m4 (by omega), ?_, fun r k => walk (nI c) v (sX s1) t r ?_ m1 m3 (fun q => absurd q hcz) k⟩
    · unfold CN
      rw [m2.1]
      show s1.2.2.2.1 + 1 ≤ _ ∧ s1.2.2.2.2 + 6 ≤ _
      rw [z2]; exact ⟨Nat.le_refl _, Nat.le_refl _⟩
    · unfold q368
      rw [z1]
      exact bC_x z4 z6
set_option maxRecDepth 100000 in
theorem i372_2059 : mm_cd 372 2059 = some (.aload_n 1, 1, 0, 0) := rfl
set_option maxRecDepth 100000 in
theorem i372_2060 : mm_cd 372 2060 = some (.aload_n 0, 1, 0, 0) := rfl
set_option maxRecDepth 100000 in
theorem i372_2061 : mm_cd 372 2061 = some (.iload 4, 2, 0, 0) := rfl
set_option maxRecDepth 100000 in
theorem i372_2063 : mm_cd 372 2063 = some (.iconst 1, 1, 0, 0) := rfl
set_option maxRecDepth 100000 in
theorem i372_2064 : mm_cd 372 2064 = some (.iadd, 1, 0, 0) := rfl
set_option maxRecDepth 100000 in
theorem i372_2065 : mm_cd 372 2065 = some (.iaload, 1, 0, 0) := rfl
set_option maxRecDepth 100000 in
theorem i372_2066 : mm_cd 372 2066 = some (.aload_n 0, 1, 0, 0) := rfl
set_option maxRecDepth 100000 in
theorem i372_2067 : mm_cd 372 2067 = some (.iload 4, 2, 0, 0) := rfl
set_option maxRecDepth 100000 in
theorem i372_2069 : mm_cd 372 2069 = some (.iconst 2, 1, 0, 0) := rfl
set_option maxRecDepth 100000 in
theorem i372_2070 : mm_cd 372 2070 = some (.iadd, 1, 0, 0) := rfl
set_option maxRecDepth 100000 in
theorem i372_2071 : mm_cd 372 2071 = some (.iaload, 1, 0, 0) := rfl
set_option maxRecDepth 100000 in
theorem i372_2072 : mm_cd 372 2072 = some (.ifCond .eq 7, 3, 0, 0) := rfl
set_option maxRecDepth 100000 in
theorem i372_2075 : mm_cd 372 2075 = some (.iconst 1, 1, 0, 0) := rfl
set_option maxRecDepth 100000 in
theorem i372_2076 : mm_cd 372 2076 = some (.goto 4, 3, 0, 0) := rfl
set_option maxRecDepth 100000 in
theorem i372_2079 : mm_cd 372 2079 = some (.iconst 0, 1, 0, 0) := rfl
set_option maxRecDepth 100000 in
theorem i372_2080 : mm_cd 372 2080 = some (.aload_n 3, 1, 0, 0) := rfl
set_option maxRecDepth 100000 in
theorem i372_2081 : mm_cd 372 2081 = some (.invokestatic 254, 3, 0, 369) := rfl
set_option maxRecDepth 100000 in
theorem i372_2084 : mm_cd 372 2084 = some (.istore 5, 2, 0, 0) := rfl
set_option maxRecDepth 100000 in
theorem i372_2086 : mm_cd 372 2086 = some (.aload_n 2, 1, 0, 0) := rfl
set_option maxRecDepth 100000 in
theorem i372_2087 : mm_cd 372 2087 = some (.aload_n 0, 1, 0, 0) := rfl
set_option maxRecDepth 100000 in
theorem i372_2088 : mm_cd 372 2088 = some (.iload 4, 2, 0, 0) := rfl
set_option maxRecDepth 100000 in
theorem i372_2090 : mm_cd 372 2090 = some (.iconst 1, 1, 0, 0) := rfl
set_option maxRecDepth 100000 in
theorem i372_2091 : mm_cd 372 2091 = some (.iadd, 1, 0, 0) := rfl
set_option maxRecDepth 100000 in
theorem i372_2092 : mm_cd 372 2092 = some (.iaload, 1, 0, 0) := rfl
set_option maxRecDepth 100000 in
theorem i372_2093 : mm_cd 372 2093 = some (.aload_n 0, 1, 0, 0) := rfl
set_option maxRecDepth 100000 in
theorem i372_2094 : mm_cd 372 2094 = some (.iload 4, 2, 0, 0) := rfl
set_option maxRecDepth 100000 in
theorem i372_2096 : mm_cd 372 2096 = some (.iconst 2, 1, 0, 0) := rfl
set_option maxRecDepth 100000 in
theorem i372_2097 : mm_cd 372 2097 = some (.iadd, 1, 0, 0) := rfl
set_option maxRecDepth 100000 in
theorem i372_2098 : mm_cd 372 2098 = some (.iaload, 1, 0, 0) := rfl
set_option maxRecDepth 100000 in
theorem i372_2099 : mm_cd 372 2099 = some (.ifCond .eq 7, 3, 0, 0) := rfl
set_option maxRecDepth 100000 in
theorem i372_2102 : mm_cd 372 2102 = some (.iconst 1, 1, 0, 0) := rfl
set_option maxRecDepth 100000 in
theorem i372_2103 : mm_cd 372 2103 = some (.goto 4, 3, 0, 0) := rfl
set_option maxRecDepth 100000 in
theorem i372_2106 : mm_cd 372 2106 = some (.iconst 0, 1, 0, 0) := rfl
set_option maxRecDepth 100000 in
theorem i372_2107 : mm_cd 372 2107 = some (.invokevirtual 256, 3, 0, 334) := rfl
set_option maxRecDepth 100000 in
theorem i372_2110 : mm_cd 372 2110 = some (.istore 6, 2, 0, 0) := rfl
set_option maxRecDepth 100000 in
theorem i372_2112 : mm_cd 372 2112 = some (.aload_n 2, 1, 0, 0) := rfl
set_option maxRecDepth 100000 in
theorem i372_2113 : mm_cd 372 2113 = some (.invokevirtual 130, 3, 0, 187) := rfl
set_option maxRecDepth 100000 in
theorem i372_2116 : mm_cd 372 2116 = some (.iload 5, 2, 0, 0) := rfl
set_option maxRecDepth 100000 in
theorem i372_2118 : mm_cd 372 2118 = some (.if_icmp .eq 5, 3, 0, 0) := rfl
set_option maxRecDepth 100000 in
theorem i372_2121 : mm_cd 372 2121 = some (.iconst 0, 1, 0, 0) := rfl
set_option maxRecDepth 100000 in
theorem i372_2122 : mm_cd 372 2122 = some (.ireturn, 1, 0, 0) := rfl
set_option maxRecDepth 100000 in
theorem i372_2123 : mm_cd 372 2123 = some (.iload 5, 2, 0, 0) := rfl
set_option maxRecDepth 100000 in
theorem i372_2125 : mm_cd 372 2125 = some (.ifCond .ne 15, 3, 0, 0) := rfl
set_option maxRecDepth 100000 in
theorem i372_2128 : mm_cd 372 2128 = some (.aload_n 3, 1, 0, 0) := rfl
set_option maxRecDepth 100000 in
theorem i372_2129 : mm_cd 372 2129 = some (.iconst 0, 1, 0, 0) := rfl
set_option maxRecDepth 100000 in
theorem i372_2130 : mm_cd 372 2130 = some (.laload, 1, 0, 0) := rfl
set_option maxRecDepth 100000 in
theorem i372_2131 : mm_cd 372 2131 = some (.iload 6, 2, 0, 0) := rfl
set_option maxRecDepth 100000 in
theorem i372_2133 : mm_cd 372 2133 = some (.i2l, 1, 0, 0) := rfl
set_option maxRecDepth 100000 in
theorem i372_2134 : mm_cd 372 2134 = some (.lcmp, 1, 0, 0) := rfl
set_option maxRecDepth 100000 in
theorem i372_2135 : mm_cd 372 2135 = some (.ifCond .eq 5, 3, 0, 0) := rfl
set_option maxRecDepth 100000 in
theorem i372_2138 : mm_cd 372 2138 = some (.iconst 0, 1, 0, 0) := rfl
set_option maxRecDepth 100000 in
theorem i372_2139 : mm_cd 372 2139 = some (.ireturn, 1, 0, 0) := rfl
set_option maxRecDepth 100000 in
theorem i372_2140 : mm_cd 372 2140 = some (.goto 242, 3, 0, 0) := rfl
theorem K38 {L : Nat} {xs : Nat → Int32} {i B : Nat} {s : mS} (hL : L ≤ 3072) (hi : i + 6 ≤ L) (hG : G B s) (hB : B + 60 < 400000000) : KQ L xs i B 2059 s := by
  have walk : ∀ (k0 v : Int32) (s1 t : mS) (r : mQ), q369 (xs (i + 1)) (if xs (i + 2) = 0 then nI 0 else nI 1) s = some (.inl (some k0), s1) → q334 (xs (i + 1)) (if xs (i + 2) = 0 then nI 0 else nI 1) s1 = some (.inl (some v), t) → t.1 512 0 = k0 → (k0 = 0 → t.2.1 524 0 = v.toInt64) → Ev L xs 60 372 2382 (lvB i) [] (hp t) (hr r) → Ev L xs 60 372 2059 (lvB i) [] (hp s) (hr r) := fun k0 v s1 t r z1 m1 hc hv k => by
    refine Ev.aload_n H372 i372_2059 rfl ?_
    refine LD (j := 1) i372_2060 i372_2061 i372_2063 i372_2064 i372_2065 (by decide) rfl rfl hL (by omega) ?_
    refine LD (j := 2) i372_2066 i372_2067 i372_2069 i372_2070 i372_2071 (by decide) rfl rfl hL (by omega) ?_
    refine LZ i372_2072 i372_2075 i372_2076 i372_2079 (by decide) (by decide) ?_
    refine Ev.aload_n H372 i372_2080 rfl ?_
    refine CSt (As := [.ref 0, .int (xs (i + 1)), .int (if xs (i + 2) = 0 then nI 0 else nI 1), .ref 524]) i372_2081 cal369 rfl (Nat.le_of_ble_eq_true rfl) (Nat.le_of_ble_eq_true rfl) (show 8 < 60 by decide) (c369 z1) ?_
    refine Ev.istore H372 i372_2084 (by decide) (lv2 := (5, .int k0) :: lvB i) rfl ?_
    refine Ev.aload_n H372 i372_2086 rfl ?_
    refine LD (j := 1) i372_2087 i372_2088 i372_2090 i372_2091 i372_2092 (by decide) rfl rfl hL (by omega) ?_
    refine LD (j := 2) i372_2093 i372_2094 i372_2096 i372_2097 i372_2098 (by decide) rfl rfl hL (by omega) ?_
    refine LZ i372_2099 i372_2102 i372_2103 i372_2106 (by decide) (by decide) ?_
    refine CV (As := [.int (xs (i + 1)), .int (if xs (i + 2) = 0 then nI 0 else nI 1)]) i372_2107 cal334 ob11 rfl (Nat.le_of_ble_eq_true rfl) (Nat.le_of_ble_eq_true rfl) (show 13 < 60 by decide) (c334 m1) ?_
    refine Ev.istore H372 i372_2110 (by decide) (lv2 := (6, .int v) :: (5, .int k0) :: lvB i) rfl ?_
    exact TLI i372_2112 i372_2113 i372_2116 i372_2118 i372_2123 i372_2125 i372_2128 i372_2129 i372_2130 i372_2131 i372_2133 i372_2134 i372_2135 i372_2140 (by decide) (by decide) (by decide) (by decide) hc hv k
  have h0 : (0 : Int32).toNatClampNeg = 0 := by decide
  rcases z_span hG (by omega) (xs (i + 1)) (if xs (i + 2) = 0 then nI 0 else nI 1) with ⟨v, s1, z1, z2, z3⟩ | ⟨x, u, w, c, s1, z1, z2, z4, z5, z6, z3⟩
  · obtain ⟨t, m1, m2, m3, m4⟩ := z3 (sL s1 524 0 v.toInt64) sL_1
    refine ⟨t, G_up m4 (by omega), CN_e (by rw [m2.1, sL_22, z2]), fun r k => walk 0 v (sL s1 524 0 v.toInt64) t r ?_ m1 m3 (fun _ => by rw [m2.2 524 (by omega), sLz_at]) k⟩
    unfold q369
    rw [z1]
    show gA 1 (nI 0) _ = _
    rw [gA_ok (show 0 < 1 by decide) (by omega), sp_e, h0]; rfl
  · obtain ⟨v, t, m1, m2, m3, m4⟩ := z3 (sX s1) rfl
    have hcz : ¬ nI c = 0 := by rw [nI_lit, nI_eqv (by omega) (by omega)]; omega
    refine ⟨t, G_up m4 (by omega), ?_, fun r k => walk (nI c) v (sX s1) t r ?_ m1 m3 (fun q => absurd q hcz) k⟩
    · unfold CN
      rw [m2.1]
      show s1.2.2.2.1 + 1 ≤ _ ∧ s1.2.2.2.2 + 6 ≤ _
      rw [z2]; exact ⟨Nat.le_refl _, Nat.le_refl _⟩
    · unfold q369
      rw [z1]
      exact bC_x z4 z6
set_option maxRecDepth 100000 in
theorem i372_2143 : mm_cd 372 2143 = some (.aload_n 1, 1, 0, 0) := rfl
set_option maxRecDepth 100000 in
theorem i372_2144 : mm_cd 372 2144 = some (.aload_n 0, 1, 0, 0) := rfl
set_option maxRecDepth 100000 in
theorem i372_2145 : mm_cd 372 2145 = some (.iload 4, 2, 0, 0) := rfl
set_option maxRecDepth 100000 in
theorem i372_2147 : mm_cd 372 2147 = some (.iconst 1, 1, 0, 0) := rfl
set_option maxRecDepth 100000 in
theorem i372_2148 : mm_cd 372 2148 = some (.iadd, 1, 0, 0) := rfl
set_option maxRecDepth 100000 in
theorem i372_2149 : mm_cd 372 2149 = some (.iaload, 1, 0, 0) := rfl
set_option maxRecDepth 100000 in
theorem i372_2150 : mm_cd 372 2150 = some (.aload_n 0, 1, 0, 0) := rfl
set_option maxRecDepth 100000 in
theorem i372_2151 : mm_cd 372 2151 = some (.iload 4, 2, 0, 0) := rfl
set_option maxRecDepth 100000 in
theorem i372_2153 : mm_cd 372 2153 = some (.iconst 2, 1, 0, 0) := rfl
set_option maxRecDepth 100000 in
theorem i372_2154 : mm_cd 372 2154 = some (.iadd, 1, 0, 0) := rfl
set_option maxRecDepth 100000 in
theorem i372_2155 : mm_cd 372 2155 = some (.iaload, 1, 0, 0) := rfl
set_option maxRecDepth 100000 in
theorem i372_2156 : mm_cd 372 2156 = some (.ifCond .eq 7, 3, 0, 0) := rfl
set_option maxRecDepth 100000 in
theorem i372_2159 : mm_cd 372 2159 = some (.iconst 1, 1, 0, 0) := rfl
set_option maxRecDepth 100000 in
theorem i372_2160 : mm_cd 372 2160 = some (.goto 4, 3, 0, 0) := rfl
set_option maxRecDepth 100000 in
theorem i372_2163 : mm_cd 372 2163 = some (.iconst 0, 1, 0, 0) := rfl
set_option maxRecDepth 100000 in
theorem i372_2164 : mm_cd 372 2164 = some (.aload_n 3, 1, 0, 0) := rfl
set_option maxRecDepth 100000 in
theorem i372_2165 : mm_cd 372 2165 = some (.invokestatic 257, 3, 0, 370) := rfl
set_option maxRecDepth 100000 in
theorem i372_2168 : mm_cd 372 2168 = some (.istore 5, 2, 0, 0) := rfl
set_option maxRecDepth 100000 in
theorem i372_2170 : mm_cd 372 2170 = some (.aload_n 2, 1, 0, 0) := rfl
set_option maxRecDepth 100000 in
theorem i372_2171 : mm_cd 372 2171 = some (.aload_n 0, 1, 0, 0) := rfl
set_option maxRecDepth 100000 in
theorem i372_2172 : mm_cd 372 2172 = some (.iload 4, 2, 0, 0) := rfl
set_option maxRecDepth 100000 in
theorem i372_2174 : mm_cd 372 2174 = some (.iconst 1, 1, 0, 0) := rfl
set_option maxRecDepth 100000 in
theorem i372_2175 : mm_cd 372 2175 = some (.iadd, 1, 0, 0) := rfl
set_option maxRecDepth 100000 in
theorem i372_2176 : mm_cd 372 2176 = some (.iaload, 1, 0, 0) := rfl
set_option maxRecDepth 100000 in
theorem i372_2177 : mm_cd 372 2177 = some (.aload_n 0, 1, 0, 0) := rfl
set_option maxRecDepth 100000 in
theorem i372_2178 : mm_cd 372 2178 = some (.iload 4, 2, 0, 0) := rfl
set_option maxRecDepth 100000 in
theorem i372_2180 : mm_cd 372 2180 = some (.iconst 2, 1, 0, 0) := rfl
set_option maxRecDepth 100000 in
theorem i372_2181 : mm_cd 372 2181 = some (.iadd, 1, 0, 0) := rfl
set_option maxRecDepth 100000 in
theorem i372_2182 : mm_cd 372 2182 = some (.iaload, 1, 0, 0) := rfl
set_option maxRecDepth 100000 in
theorem i372_2183 : mm_cd 372 2183 = some (.ifCond .eq 7, 3, 0, 0) := rfl
set_option maxRecDepth 100000 in
theorem i372_2186 : mm_cd 372 2186 = some (.iconst 1, 1, 0, 0) := rfl
set_option maxRecDepth 100000 in
theorem i372_2187 : mm_cd 372 2187 = some (.goto 4, 3, 0, 0) := rfl
set_option maxRecDepth 100000 in
theorem i372_2190 : mm_cd 372 2190 = some (.iconst 0, 1, 0, 0) := rfl
set_option maxRecDepth 100000 in
theorem i372_2191 : mm_cd 372 2191 = some (.invokevirtual 259, 3, 0, 336) := rfl
set_option maxRecDepth 100000 in
theorem i372_2194 : mm_cd 372 2194 = some (.istore 6, 2, 0, 0) := rfl
set_option maxRecDepth 100000 in
theorem i372_2196 : mm_cd 372 2196 = some (.aload_n 2, 1, 0, 0) := rfl
set_option maxRecDepth 100000 in
theorem i372_2197 : mm_cd 372 2197 = some (.invokevirtual 130, 3, 0, 187) := rfl
set_option maxRecDepth 100000 in
theorem i372_2200 : mm_cd 372 2200 = some (.iload 5, 2, 0, 0) := rfl
set_option maxRecDepth 100000 in
theorem i372_2202 : mm_cd 372 2202 = some (.if_icmp .eq 5, 3, 0, 0) := rfl
set_option maxRecDepth 100000 in
theorem i372_2205 : mm_cd 372 2205 = some (.iconst 0, 1, 0, 0) := rfl
set_option maxRecDepth 100000 in
theorem i372_2206 : mm_cd 372 2206 = some (.ireturn, 1, 0, 0) := rfl
set_option maxRecDepth 100000 in
theorem i372_2207 : mm_cd 372 2207 = some (.iload 5, 2, 0, 0) := rfl
set_option maxRecDepth 100000 in
theorem i372_2209 : mm_cd 372 2209 = some (.ifCond .ne 15, 3, 0, 0) := rfl
set_option maxRecDepth 100000 in
theorem i372_2212 : mm_cd 372 2212 = some (.aload_n 3, 1, 0, 0) := rfl
set_option maxRecDepth 100000 in
theorem i372_2213 : mm_cd 372 2213 = some (.iconst 0, 1, 0, 0) := rfl
set_option maxRecDepth 100000 in
theorem i372_2214 : mm_cd 372 2214 = some (.laload, 1, 0, 0) := rfl
set_option maxRecDepth 100000 in
theorem i372_2215 : mm_cd 372 2215 = some (.iload 6, 2, 0, 0) := rfl
set_option maxRecDepth 100000 in
theorem i372_2217 : mm_cd 372 2217 = some (.i2l, 1, 0, 0) := rfl
set_option maxRecDepth 100000 in
theorem i372_2218 : mm_cd 372 2218 = some (.lcmp, 1, 0, 0) := rfl
set_option maxRecDepth 100000 in
theorem i372_2219 : mm_cd 372 2219 = some (.ifCond .eq 5, 3, 0, 0) := rfl
set_option maxRecDepth 100000 in
theorem i372_2222 : mm_cd 372 2222 = some (.iconst 0, 1, 0, 0) := rfl
set_option maxRecDepth 100000 in
theorem i372_2223 : mm_cd 372 2223 = some (.ireturn, 1, 0, 0) := rfl
set_option maxRecDepth 100000 in
theorem i372_2224 : mm_cd 372 2224 = some (.goto 158, 3, 0, 0) := rfl
theorem K39 {L : Nat} {xs : Nat → Int32} {i B : Nat} {s : mS} (hL : L ≤ 3072) (hi : i + 6 ≤ L) (hG : G B s) (hB : B + 60 < 400000000) : KQ L xs i B 2143 s := by
  have walk : ∀ (k0 v : Int32) (s1 t : mS) (r : mQ), q370 (xs (i + 1)) (if xs (i + 2) = 0 then nI 0 else nI 1) s = some (.inl (some k0), s1) → q336 (xs (i + 1)) (if xs (i + 2) = 0 then nI 0 else nI 1) s1 = some (.inl (some v), t) → t.1 512 0 = k0 → (k0 = 0 → t.2.1 524 0 = v.toInt64) → Ev L xs 60 372 2382 (lvB i) [] (hp t) (hr r) → Ev L xs 60 372 2143 (lvB i) [] (hp s) (hr r) := fun k0 v s1 t r z1 m1 hc hv k => by
    refine Ev.aload_n H372 i372_2143 rfl ?_
    refine LD (j := 1) i372_2144 i372_2145 i372_2147 i372_2148 i372_2149 (by decide) rfl rfl hL (by omega) ?_
    refine LD (j := 2) i372_2150 i372_2151 i372_2153 i372_2154 i372_2155 (by decide) rfl rfl hL (by omega) ?_
    refine LZ i372_2156 i372_2159 i372_2160 i372_2163 (by decide) (by decide) ?_
    refine Ev.aload_n H372 i372_2164 rfl ?_
    refine CSt (As := [.ref 0, .int (xs (i + 1)), .int (if xs (i + 2) = 0 then nI 0 else nI 1), .ref 524]) i372_2165 cal370 rfl (Nat.le_of_ble_eq_true rfl) (Nat.le_of_ble_eq_true rfl) (show 4 < 60 by decide) (c370 z1) ?_
    refine Ev.istore H372 i372_2168 (by decide) (lv2 := (5, .int k0) :: lvB i) rfl ?_
    refine Ev.aload_n H372 i372_2170 rfl ?_
    refine LD (j := 1) i372_2171 i372_2172 i372_2174 i372_2175 i372_2176 (by decide) rfl rfl hL (by omega) ?_
    refine LD (j := 2) i372_2177 i372_2178 i372_2180 i372_2181 i372_2182 (by decide) rfl rfl hL (by omega) ?_
    refine LZ i372_2183 i372_2186 i372_2187 i372_2190 (by decide) (by decide) ?_
    refine CV (As := [.int (xs (i + 1)), .int (if xs (i + 2) = 0 then nI 0 else nI 1)]) i372_2191 cal336 ob11 rfl (Nat.le_of_ble_eq_true rfl) (Nat.le_of_ble_eq_true rfl) (show 2 < 60 by decide) (c336 m1) ?_
    refine Ev.istore H372 i372_2194 (by decide) (lv2 := (6, .int v) :: (5, .int k0) :: lvB i) rfl ?_
    exact TLI i372_2196 i372_2197 i372_2200 i372_2202 i372_2207 i372_2209 i372_2212 i372_2213 i372_2214 i372_2215 i372_2217 i372_2218 i372_2219 i372_2224 (by decide) (by decide) (by decide) (by decide) hc hv k
  have h0 : (0 : Int32).toNatClampNeg = 0 := by decide
  rcases z_led hG (xs (i + 1)) (if xs (i + 2) = 0 then nI 0 else nI 1) with ⟨v, s1, z1, z2, z3⟩ | ⟨x, u, w, c, s1, z1, z2, z4, z5, z6, z3⟩
  · obtain ⟨t, m1, m2, m3, m4⟩ := z3 (sL s1 524 0 v.toInt64) sL_1
    refine ⟨t, G_up m4 (by omega), CN_e (by rw [m2.1, sL_22, z2]), fun r k => walk 0 v (sL s1 524 0 v.toInt64) t r ?_ m1 m3 (fun _ => by rw [m2.2 524 (by omega), sLz_at]) k⟩
    unfold q370
    rw [z1]
    show gA 1 (nI 0) _ = _
    rw [gA_ok (show 0 < 1 by decide) (by omega), sp_e, h0]; rfl
  · obtain ⟨v, t, m1, m2, m3, m4⟩ := z3 (sX s1) rfl
    have hcz : ¬ nI c = 0 := by rw [nI_lit, nI_eqv (by omega) (by omega)]; omega
    refine ⟨t, G_up m4 (by omega), ?_, fun r k => walk (nI c) v (sX s1) t r ?_ m1 m3 (fun q => absurd q hcz) k⟩
    · unfold CN
      rw [m2.1]
      show s1.2.2.2.1 + 1 ≤ _ ∧ s1.2.2.2.2 + 6 ≤ _
      rw [z2]; exact ⟨Nat.le_refl _, Nat.le_refl _⟩
    · unfold q370
      rw [z1]
      exact bC_x z4 z6
set_option maxRecDepth 100000 in
theorem i372_2227 : mm_cd 372 2227 = some (.aload_n 1, 1, 0, 0) := rfl
set_option maxRecDepth 100000 in
theorem i372_2228 : mm_cd 372 2228 = some (.aload_n 0, 1, 0, 0) := rfl
set_option maxRecDepth 100000 in
theorem i372_2229 : mm_cd 372 2229 = some (.iload 4, 2, 0, 0) := rfl
set_option maxRecDepth 100000 in
theorem i372_2231 : mm_cd 372 2231 = some (.iconst 1, 1, 0, 0) := rfl
set_option maxRecDepth 100000 in
theorem i372_2232 : mm_cd 372 2232 = some (.iadd, 1, 0, 0) := rfl
set_option maxRecDepth 100000 in
theorem i372_2233 : mm_cd 372 2233 = some (.iaload, 1, 0, 0) := rfl
set_option maxRecDepth 100000 in
theorem i372_2234 : mm_cd 372 2234 = some (.aload_n 0, 1, 0, 0) := rfl
set_option maxRecDepth 100000 in
theorem i372_2235 : mm_cd 372 2235 = some (.iload 4, 2, 0, 0) := rfl
set_option maxRecDepth 100000 in
theorem i372_2237 : mm_cd 372 2237 = some (.iconst 2, 1, 0, 0) := rfl
set_option maxRecDepth 100000 in
theorem i372_2238 : mm_cd 372 2238 = some (.iadd, 1, 0, 0) := rfl
set_option maxRecDepth 100000 in
theorem i372_2239 : mm_cd 372 2239 = some (.iaload, 1, 0, 0) := rfl
set_option maxRecDepth 100000 in
theorem i372_2240 : mm_cd 372 2240 = some (.aload_n 3, 1, 0, 0) := rfl
set_option maxRecDepth 100000 in
theorem i372_2241 : mm_cd 372 2241 = some (.invokestatic 260, 3, 0, 371) := rfl
set_option maxRecDepth 100000 in
theorem i372_2244 : mm_cd 372 2244 = some (.istore 5, 2, 0, 0) := rfl
set_option maxRecDepth 100000 in
theorem i372_2246 : mm_cd 372 2246 = some (.aload_n 2, 1, 0, 0) := rfl
set_option maxRecDepth 100000 in
theorem i372_2247 : mm_cd 372 2247 = some (.aload_n 0, 1, 0, 0) := rfl
set_option maxRecDepth 100000 in
theorem i372_2248 : mm_cd 372 2248 = some (.iload 4, 2, 0, 0) := rfl
set_option maxRecDepth 100000 in
theorem i372_2250 : mm_cd 372 2250 = some (.iconst 1, 1, 0, 0) := rfl
set_option maxRecDepth 100000 in
theorem i372_2251 : mm_cd 372 2251 = some (.iadd, 1, 0, 0) := rfl
set_option maxRecDepth 100000 in
theorem i372_2252 : mm_cd 372 2252 = some (.iaload, 1, 0, 0) := rfl
set_option maxRecDepth 100000 in
theorem i372_2253 : mm_cd 372 2253 = some (.aload_n 0, 1, 0, 0) := rfl
set_option maxRecDepth 100000 in
theorem i372_2254 : mm_cd 372 2254 = some (.iload 4, 2, 0, 0) := rfl
set_option maxRecDepth 100000 in
theorem i372_2256 : mm_cd 372 2256 = some (.iconst 2, 1, 0, 0) := rfl
set_option maxRecDepth 100000 in
theorem i372_2257 : mm_cd 372 2257 = some (.iadd, 1, 0, 0) := rfl
set_option maxRecDepth 100000 in
theorem i372_2258 : mm_cd 372 2258 = some (.iaload, 1, 0, 0) := rfl
set_option maxRecDepth 100000 in
theorem i372_2259 : mm_cd 372 2259 = some (.invokevirtual 262, 3, 0, 337) := rfl
set_option maxRecDepth 100000 in
theorem i372_2262 : mm_cd 372 2262 = some (.istore 6, 2, 0, 0) := rfl
set_option maxRecDepth 100000 in
theorem i372_2264 : mm_cd 372 2264 = some (.aload_n 2, 1, 0, 0) := rfl
set_option maxRecDepth 100000 in
theorem i372_2265 : mm_cd 372 2265 = some (.invokevirtual 130, 3, 0, 187) := rfl
set_option maxRecDepth 100000 in
theorem i372_2268 : mm_cd 372 2268 = some (.iload 5, 2, 0, 0) := rfl
set_option maxRecDepth 100000 in
theorem i372_2270 : mm_cd 372 2270 = some (.if_icmp .eq 5, 3, 0, 0) := rfl
set_option maxRecDepth 100000 in
theorem i372_2273 : mm_cd 372 2273 = some (.iconst 0, 1, 0, 0) := rfl
set_option maxRecDepth 100000 in
theorem i372_2274 : mm_cd 372 2274 = some (.ireturn, 1, 0, 0) := rfl
set_option maxRecDepth 100000 in
theorem i372_2275 : mm_cd 372 2275 = some (.iload 5, 2, 0, 0) := rfl
set_option maxRecDepth 100000 in
theorem i372_2277 : mm_cd 372 2277 = some (.ifCond .ne 15, 3, 0, 0) := rfl
set_option maxRecDepth 100000 in
theorem i372_2280 : mm_cd 372 2280 = some (.aload_n 3, 1, 0, 0) := rfl
set_option maxRecDepth 100000 in
theorem i372_2281 : mm_cd 372 2281 = some (.iconst 0, 1, 0, 0) := rfl
set_option maxRecDepth 100000 in
theorem i372_2282 : mm_cd 372 2282 = some (.laload, 1, 0, 0) := rfl
set_option maxRecDepth 100000 in
theorem i372_2283 : mm_cd 372 2283 = some (.iload 6, 2, 0, 0) := rfl
set_option maxRecDepth 100000 in
theorem i372_2285 : mm_cd 372 2285 = some (.i2l, 1, 0, 0) := rfl
set_option maxRecDepth 100000 in
theorem i372_2286 : mm_cd 372 2286 = some (.lcmp, 1, 0, 0) := rfl
set_option maxRecDepth 100000 in
theorem i372_2287 : mm_cd 372 2287 = some (.ifCond .eq 5, 3, 0, 0) := rfl
set_option maxRecDepth 100000 in
theorem i372_2290 : mm_cd 372 2290 = some (.iconst 0, 1, 0, 0) := rfl
set_option maxRecDepth 100000 in
theorem i372_2291 : mm_cd 372 2291 = some (.ireturn, 1, 0, 0) := rfl
set_option maxRecDepth 100000 in
theorem i372_2292 : mm_cd 372 2292 = some (.goto 90, 3, 0, 0) := rfl
theorem K40 {L : Nat} {xs : Nat → Int32} {i B : Nat} {s : mS} (hL : L ≤ 3072) (hi : i + 6 ≤ L) (hG : G B s) (hB : B + 60 < 400000000) : KQ L xs i B 2227 s := by
  have walk : ∀ (k0 v : Int32) (s1 t : mS) (r : mQ), q371 (xs (i + 1)) (xs (i + 2)) s = some (.inl (some k0), s1) → q337 (xs (i + 1)) (xs (i + 2)) s1 = some (.inl (some v), t) → t.1 512 0 = k0 → (k0 = 0 → t.2.1 524 0 = v.toInt64) → Ev L xs 60 372 2382 (lvB i) [] (hp t) (hr r) → Ev L xs 60 372 2227 (lvB i) [] (hp s) (hr r) := fun k0 v s1 t r z1 m1 hc hv k => by
    refine Ev.aload_n H372 i372_2227 rfl ?_
    refine LD (j := 1) i372_2228 i372_2229 i372_2231 i372_2232 i372_2233 (by decide) rfl rfl hL (by omega) ?_
    refine LD (j := 2) i372_2234 i372_2235 i372_2237 i372_2238 i372_2239 (by decide) rfl rfl hL (by omega) ?_
    refine Ev.aload_n H372 i372_2240 rfl ?_
    refine CSt (As := [.ref 0, .int (xs (i + 1)), .int (xs (i + 2)), .ref 524]) i372_2241 cal371 rfl (Nat.le_of_ble_eq_true rfl) (Nat.le_of_ble_eq_true rfl) (show 2 < 60 by decide) (c371 z1) ?_
    refine Ev.istore H372 i372_2244 (by decide) (lv2 := (5, .int k0) :: lvB i) rfl ?_
    refine Ev.aload_n H372 i372_2246 rfl ?_
    refine LD (j := 1) i372_2247 i372_2248 i372_2250 i372_2251 i372_2252 (by decide) rfl rfl hL (by omega) ?_
    refine LD (j := 2) i372_2253 i372_2254 i372_2256 i372_2257 i372_2258 (by decide) rfl rfl hL (by omega) ?_
    refine CV (As := [.int (xs (i + 1)), .int (xs (i + 2))]) i372_2259 cal337 ob11 rfl (Nat.le_of_ble_eq_true rfl) (Nat.le_of_ble_eq_true rfl) (show 1 < 60 by decide) (c337 m1) ?_
    refine Ev.istore H372 i372_2262 (by decide) (lv2 := (6, .int v) :: (5, .int k0) :: lvB i) rfl ?_
    exact TLI i372_2264 i372_2265 i372_2268 i372_2270 i372_2275 i372_2277 i372_2280 i372_2281 i372_2282 i372_2283 i372_2285 i372_2286 i372_2287 i372_2292 (by decide) (by decide) (by decide) (by decide) hc hv k
  have h0 : (0 : Int32).toNatClampNeg = 0 := by decide
  rcases z_log hG (xs (i + 1)) (xs (i + 2)) with ⟨v, s1, z1, z2, z3⟩ | ⟨x, u, w, c, s1, z1, z2, z4, z5, z6, z3⟩
  · obtain ⟨t, m1, m2, m3, m4⟩ := z3 (sL s1 524 0 v.toInt64) sL_1
    refine ⟨t, G_up m4 (by omega), CN_e (by rw [m2.1, sL_22, z2]), fun r k => walk 0 v (sL s1 524 0 v.toInt64) t r ?_ m1 m3 (fun _ => by rw [m2.2 524 (by omega), sLz_at]) k⟩
    unfold q371
    rw [z1]
    show gA 1 (nI 0) _ = _
    rw [gA_ok (show 0 < 1 by decide) (by omega), sp_e, h0]; rfl
  · obtain ⟨v, t, m1, m2, m3, m4⟩ := z3 (sX s1) rfl
    have hcz : ¬ nI c = 0 := by rw [nI_lit, nI_eqv (by omega) (by omega)]; omega
    refine ⟨t, G_up m4 (by omega), ?_, fun r k => walk (nI c) v (sX s1) t r ?_ m1 m3 (fun q => absurd q hcz) k⟩
    · unfold CN
      rw [m2.1]
      show s1.2.2.2.1 + 1 ≤ _ ∧ s1.2.2.2.2 + 6 ≤ _
      rw [z2]; exact ⟨Nat.le_refl _, Nat.le_refl _⟩
    · unfold q371
      rw [z1]
      exact bC_x z4 z6
set_option maxRecDepth 100000 in
theorem i372_2295 : mm_cd 372 2295 = some (.aload_n 1, 1, 0, 0) := rfl
set_option maxRecDepth 100000 in
theorem i372_2296 : mm_cd 372 2296 = some (.aload_n 0, 1, 0, 0) := rfl
set_option maxRecDepth 100000 in
theorem i372_2297 : mm_cd 372 2297 = some (.iload 4, 2, 0, 0) := rfl
set_option maxRecDepth 100000 in
theorem i372_2299 : mm_cd 372 2299 = some (.iconst 1, 1, 0, 0) := rfl
set_option maxRecDepth 100000 in
theorem i372_2300 : mm_cd 372 2300 = some (.iadd, 1, 0, 0) := rfl
set_option maxRecDepth 100000 in
theorem i372_2301 : mm_cd 372 2301 = some (.iaload, 1, 0, 0) := rfl
set_option maxRecDepth 100000 in
theorem i372_2302 : mm_cd 372 2302 = some (.invokevirtual 263, 3, 0, 145) := rfl
set_option maxRecDepth 100000 in
theorem i372_2305 : mm_cd 372 2305 = some (.aload_n 2, 1, 0, 0) := rfl
set_option maxRecDepth 100000 in
theorem i372_2306 : mm_cd 372 2306 = some (.aload_n 0, 1, 0, 0) := rfl
set_option maxRecDepth 100000 in
theorem i372_2307 : mm_cd 372 2307 = some (.iload 4, 2, 0, 0) := rfl
set_option maxRecDepth 100000 in
theorem i372_2309 : mm_cd 372 2309 = some (.iconst 1, 1, 0, 0) := rfl
set_option maxRecDepth 100000 in
theorem i372_2310 : mm_cd 372 2310 = some (.iadd, 1, 0, 0) := rfl
set_option maxRecDepth 100000 in
theorem i372_2311 : mm_cd 372 2311 = some (.iaload, 1, 0, 0) := rfl
set_option maxRecDepth 100000 in
theorem i372_2312 : mm_cd 372 2312 = some (.invokevirtual 266, 3, 0, 338) := rfl
set_option maxRecDepth 100000 in
theorem i372_2315 : mm_cd 372 2315 = some (.if_icmp .eq 67, 3, 0, 0) := rfl
set_option maxRecDepth 100000 in
theorem i372_2318 : mm_cd 372 2318 = some (.iconst 0, 1, 0, 0) := rfl
set_option maxRecDepth 100000 in
theorem i372_2319 : mm_cd 372 2319 = some (.ireturn, 1, 0, 0) := rfl
theorem K41 {L : Nat} {xs : Nat → Int32} {i B : Nat} {s : mS} (hL : L ≤ 3072) (hi : i + 6 ≤ L) (hG : G B s) (hB : B + 60 < 400000000) : KQ L xs i B 2295 s := by
  obtain ⟨v, s1, z1, z2, z3⟩ := z_seed hG (xs (i + 1))
  obtain ⟨t, m1, m2, m3⟩ := z3 s1 rfl
  refine ⟨t, G_up m3 (by omega), CN_e (by rw [m2.1, z2]), fun r k => ?_⟩
  refine Ev.aload_n H372 i372_2295 rfl ?_
  refine LD (j := 1) i372_2296 i372_2297 i372_2299 i372_2300 i372_2301 (by decide) rfl rfl hL (by omega) ?_
  refine CV (As := [.int (xs (i + 1))]) i372_2302 cal145 ob10 rfl (Nat.le_of_ble_eq_true rfl) (Nat.le_of_ble_eq_true rfl) (show 0 < 60 by decide) (c145 z1) ?_
  refine Ev.aload_n H372 i372_2305 rfl ?_
  refine LD (j := 1) i372_2306 i372_2307 i372_2309 i372_2310 i372_2311 (by decide) rfl rfl hL (by omega) ?_
  refine CV (As := [.int (xs (i + 1))]) i372_2312 cal338 ob11 rfl (Nat.le_of_ble_eq_true rfl) (Nat.le_of_ble_eq_true rfl) (show 0 < 60 by decide) (c338 m1) ?_
  exact Ev.ic_eq H372 i372_2315 (by decide) (fun _ => k) (fun e => absurd rfl e)
set_option maxRecDepth 100000 in
theorem i372_2320 : mm_cd 372 2320 = some (.aload_n 1, 1, 0, 0) := rfl
set_option maxRecDepth 100000 in
theorem i372_2321 : mm_cd 372 2321 = some (.invokevirtual 267, 3, 0, 174) := rfl
set_option maxRecDepth 100000 in
theorem i372_2324 : mm_cd 372 2324 = some (.aload_n 2, 1, 0, 0) := rfl
set_option maxRecDepth 100000 in
theorem i372_2325 : mm_cd 372 2325 = some (.invokevirtual 271, 3, 0, 195) := rfl
set_option maxRecDepth 100000 in
theorem i372_2328 : mm_cd 372 2328 = some (.if_icmp .eq 54, 3, 0, 0) := rfl
set_option maxRecDepth 100000 in
theorem i372_2331 : mm_cd 372 2331 = some (.iconst 0, 1, 0, 0) := rfl
set_option maxRecDepth 100000 in
theorem i372_2332 : mm_cd 372 2332 = some (.ireturn, 1, 0, 0) := rfl
theorem K42 {L : Nat} {xs : Nat → Int32} {i B : Nat} {s : mS} (hL : L ≤ 3072) (hi : i + 6 ≤ L) (hG : G B s) (hB : B + 60 < 400000000) : KQ L xs i B 2320 s := by
  obtain ⟨v, s1, z1, z2, z3⟩ := z_undo hG
  obtain ⟨t, m1, m2, m3⟩ := z3 s1 rfl
  refine ⟨t, G_up m3 (by omega), CN_e (by rw [m2.1, z2]), fun r k => ?_⟩
  refine Ev.aload_n H372 i372_2320 rfl ?_
  refine CV (As := []) i372_2321 cal174 ob10 rfl (Nat.le_of_ble_eq_true rfl) (Nat.le_of_ble_eq_true rfl) (show 2 < 60 by decide) (c174 z1) ?_
  refine Ev.aload_n H372 i372_2324 rfl ?_
  refine CV (As := []) i372_2325 cal195 ob11 rfl (Nat.le_of_ble_eq_true rfl) (Nat.le_of_ble_eq_true rfl) (show 0 < 60 by decide) (c195 m1) ?_
  exact Ev.ic_eq H372 i372_2328 (by decide) (fun _ => k) (fun e => absurd rfl e)
set_option maxRecDepth 100000 in
theorem i372_2333 : mm_cd 372 2333 = some (.aload_n 1, 1, 0, 0) := rfl
set_option maxRecDepth 100000 in
theorem i372_2334 : mm_cd 372 2334 = some (.invokevirtual 272, 3, 0, 175) := rfl
set_option maxRecDepth 100000 in
theorem i372_2337 : mm_cd 372 2337 = some (.aload_n 2, 1, 0, 0) := rfl
set_option maxRecDepth 100000 in
theorem i372_2338 : mm_cd 372 2338 = some (.invokevirtual 275, 3, 0, 192) := rfl
set_option maxRecDepth 100000 in
theorem i372_2341 : mm_cd 372 2341 = some (.goto 41, 3, 0, 0) := rfl
theorem K43 {L : Nat} {xs : Nat → Int32} {i B : Nat} {s : mS} (hL : L ≤ 3072) (hi : i + 6 ≤ L) (hG : G B s) (hB : B + 60 < 400000000) : KQ L xs i B 2333 s := by
  obtain ⟨s1, z1, z2, z3⟩ := z_image hG
  obtain ⟨t, m1, m2, m3⟩ := z3 s1 rfl
  refine ⟨t, G_up m3 (by omega), CN_e (by rw [m2.1, z2]), fun r k => ?_⟩
  refine Ev.aload_n H372 i372_2333 rfl ?_
  refine CVu (As := []) i372_2334 cal175 ob10 rfl (Nat.le_of_ble_eq_true rfl) (Nat.le_of_ble_eq_true rfl) (show 2 < 60 by decide) (c175 z1) ?_
  refine Ev.aload_n H372 i372_2337 rfl ?_
  refine CVu (As := []) i372_2338 cal192 ob11 rfl (Nat.le_of_ble_eq_true rfl) (Nat.le_of_ble_eq_true rfl) (show 0 < 60 by decide) (c192 m1) ?_
  exact Ev.goto H372 i372_2341 (by decide) k
set_option maxRecDepth 100000 in
theorem i372_2344 : mm_cd 372 2344 = some (.aload_n 1, 1, 0, 0) := rfl
set_option maxRecDepth 100000 in
theorem i372_2345 : mm_cd 372 2345 = some (.invokevirtual 276, 3, 0, 176) := rfl
set_option maxRecDepth 100000 in
theorem i372_2348 : mm_cd 372 2348 = some (.aload_n 2, 1, 0, 0) := rfl
set_option maxRecDepth 100000 in
theorem i372_2349 : mm_cd 372 2349 = some (.invokevirtual 279, 3, 0, 193) := rfl
set_option maxRecDepth 100000 in
theorem i372_2352 : mm_cd 372 2352 = some (.if_icmp .eq 30, 3, 0, 0) := rfl
set_option maxRecDepth 100000 in
theorem i372_2355 : mm_cd 372 2355 = some (.iconst 0, 1, 0, 0) := rfl
set_option maxRecDepth 100000 in
theorem i372_2356 : mm_cd 372 2356 = some (.ireturn, 1, 0, 0) := rfl
theorem K44 {L : Nat} {xs : Nat → Int32} {i B : Nat} {s : mS} (hL : L ≤ 3072) (hi : i + 6 ≤ L) (hG : G B s) (hB : B + 60 < 400000000) : KQ L xs i B 2344 s := by
  obtain ⟨v, s1, z1, z2, z3⟩ := z_back hG
  obtain ⟨t, m1, m2, m3⟩ := z3 s1 rfl
  refine ⟨t, G_up m3 (by omega), CN_e (by rw [m2.1, z2]), fun r k => ?_⟩
  refine Ev.aload_n H372 i372_2344 rfl ?_
  refine CV (As := []) i372_2345 cal176 ob10 rfl (Nat.le_of_ble_eq_true rfl) (Nat.le_of_ble_eq_true rfl) (show 2 < 60 by decide) (c176 z1) ?_
  refine Ev.aload_n H372 i372_2348 rfl ?_
  refine CV (As := []) i372_2349 cal193 ob11 rfl (Nat.le_of_ble_eq_true rfl) (Nat.le_of_ble_eq_true rfl) (show 0 < 60 by decide) (c193 m1) ?_
  exact Ev.ic_eq H372 i372_2352 (by decide) (fun _ => k) (fun e => absurd rfl e)
set_option maxRecDepth 100000 in
theorem i372_2357 : mm_cd 372 2357 = some (.aload_n 1, 1, 0, 0) := rfl
set_option maxRecDepth 100000 in
theorem i372_2358 : mm_cd 372 2358 = some (.aload_n 0, 1, 0, 0) := rfl
set_option maxRecDepth 100000 in
theorem i372_2359 : mm_cd 372 2359 = some (.iload 4, 2, 0, 0) := rfl
set_option maxRecDepth 100000 in
theorem i372_2361 : mm_cd 372 2361 = some (.iconst 1, 1, 0, 0) := rfl
set_option maxRecDepth 100000 in
theorem i372_2362 : mm_cd 372 2362 = some (.iadd, 1, 0, 0) := rfl
set_option maxRecDepth 100000 in
theorem i372_2363 : mm_cd 372 2363 = some (.iaload, 1, 0, 0) := rfl
set_option maxRecDepth 100000 in
theorem i372_2364 : mm_cd 372 2364 = some (.invokevirtual 280, 3, 0, 173) := rfl
set_option maxRecDepth 100000 in
theorem i372_2367 : mm_cd 372 2367 = some (.aload_n 2, 1, 0, 0) := rfl
set_option maxRecDepth 100000 in
theorem i372_2368 : mm_cd 372 2368 = some (.aload_n 0, 1, 0, 0) := rfl
set_option maxRecDepth 100000 in
theorem i372_2369 : mm_cd 372 2369 = some (.iload 4, 2, 0, 0) := rfl
set_option maxRecDepth 100000 in
theorem i372_2371 : mm_cd 372 2371 = some (.iconst 1, 1, 0, 0) := rfl
set_option maxRecDepth 100000 in
theorem i372_2372 : mm_cd 372 2372 = some (.iadd, 1, 0, 0) := rfl
set_option maxRecDepth 100000 in
theorem i372_2373 : mm_cd 372 2373 = some (.iaload, 1, 0, 0) := rfl
set_option maxRecDepth 100000 in
theorem i372_2374 : mm_cd 372 2374 = some (.invokevirtual 283, 3, 0, 341) := rfl
set_option maxRecDepth 100000 in
theorem i372_2377 : mm_cd 372 2377 = some (.if_icmp .eq 5, 3, 0, 0) := rfl
set_option maxRecDepth 100000 in
theorem i372_2380 : mm_cd 372 2380 = some (.iconst 0, 1, 0, 0) := rfl
set_option maxRecDepth 100000 in
theorem i372_2381 : mm_cd 372 2381 = some (.ireturn, 1, 0, 0) := rfl
theorem K45 {L : Nat} {xs : Nat → Int32} {i B : Nat} {s : mS} (hL : L ≤ 3072) (hi : i + 6 ≤ L) (hG : G B s) (hB : B + 60 < 400000000) : KQ L xs i B 2357 s := by
  obtain ⟨v, s1, z1, z2, z3⟩ := z_count hG (xs (i + 1))
  obtain ⟨t, m1, m2, m3⟩ := z3 s1 rfl
  refine ⟨t, G_up m3 (by omega), CN_e (by rw [m2.1, z2]), fun r k => ?_⟩
  refine Ev.aload_n H372 i372_2357 rfl ?_
  refine LD (j := 1) i372_2358 i372_2359 i372_2361 i372_2362 i372_2363 (by decide) rfl rfl hL (by omega) ?_
  refine CV (As := [.int (xs (i + 1))]) i372_2364 cal173 ob10 rfl (Nat.le_of_ble_eq_true rfl) (Nat.le_of_ble_eq_true rfl) (show 2 < 60 by decide) (c173 z1) ?_
  refine Ev.aload_n H372 i372_2367 rfl ?_
  refine LD (j := 1) i372_2368 i372_2369 i372_2371 i372_2372 i372_2373 (by decide) rfl rfl hL (by omega) ?_
  refine CV (As := [.int (xs (i + 1))]) i372_2374 cal341 ob11 rfl (Nat.le_of_ble_eq_true rfl) (Nat.le_of_ble_eq_true rfl) (show 3 < 60 by decide) (c341 m1) ?_
  exact Ev.ic_eq H372 i372_2377 (by decide) (fun _ => k) (fun e => absurd rfl e)
