/-! THE LAW'S LOOP -/
set_option maxRecDepth 100000 in
theorem i372_20 : mm_cd 372 20 = some (.iconst 0, 1, 0, 0) := rfl
set_option maxRecDepth 100000 in
theorem i372_21 : mm_cd 372 21 = some (.istore 4, 2, 0, 0) := rfl
set_option maxRecDepth 100000 in
theorem i372_23 : mm_cd 372 23 = some (.iload 4, 2, 0, 0) := rfl
set_option maxRecDepth 100000 in
theorem i372_25 : mm_cd 372 25 = some (.aload_n 0, 1, 0, 0) := rfl
set_option maxRecDepth 100000 in
theorem i372_26 : mm_cd 372 26 = some (.arraylength, 1, 0, 0) := rfl
set_option maxRecDepth 100000 in
theorem i372_27 : mm_cd 372 27 = some (.bipush 6, 2, 0, 0) := rfl
set_option maxRecDepth 100000 in
theorem i372_29 : mm_cd 372 29 = some (.isub, 1, 0, 0) := rfl
set_option maxRecDepth 100000 in
theorem i372_30 : mm_cd 372 30 = some (.if_icmp .gt 2358, 3, 0, 0) := rfl
set_option maxRecDepth 100000 in
theorem i372_33 : mm_cd 372 33 = some (.aload_n 0, 1, 0, 0) := rfl
set_option maxRecDepth 100000 in
theorem i372_34 : mm_cd 372 34 = some (.iload 4, 2, 0, 0) := rfl
set_option maxRecDepth 100000 in
theorem i372_36 : mm_cd 372 36 = some (.iaload, 1, 0, 0) := rfl
set_option maxRecDepth 100000 in
theorem i372_37 : mm_cd 372 37 = some (.bipush 63, 2, 0, 0) := rfl
set_option maxRecDepth 100000 in
theorem i372_39 : mm_cd 372 39 = some (.iand, 1, 0, 0) := rfl
set_option maxRecDepth 100000 in
theorem i372_40 : mm_cd 372 40 = some (.tableswitch 2342 0 45 #[200, 273, 298, 342, 386, 399, 467, 535, 603, 671, 727, 783, 851, 926, 982, 1038, 1094, 1174, 1187, 1200, 1268, 1364, 1389, 1464, 1477, 1490, 1503, 1547, 1591, 1635, 1691, 1759, 1827, 1883, 1896, 1909, 1922, 1935, 2019, 2103, 2187, 2255, 2280, 2293, 2304, 2317], 200, 0, 0) := rfl
set_option maxRecDepth 100000 in
theorem i372_2382 : mm_cd 372 2382 = some (.iinc 4 6, 3, 0, 0) := rfl
set_option maxRecDepth 100000 in
theorem i372_2385 : mm_cd 372 2385 = some (.goto (-2362), 3, 0, 0) := rfl
set_option maxRecDepth 100000 in
theorem i372_2388 : mm_cd 372 2388 = some (.iconst 1, 1, 0, 0) := rfl
set_option maxRecDepth 100000 in
theorem i372_2389 : mm_cd 372 2389 = some (.ireturn, 1, 0, 0) := rfl
theorem l6_n : ∀ L, L < 6 → nI L - nI 6 < nI 0 := by decide
theorem l6 {L i : Nat} (hL : L ≤ 3072) (hi : i ≤ 4000) : (nI L - nI 6 < nI i) = (L < i + 6) := by
  by_cases h : 6 ≤ L
  · rw [nI_subv h, nI_ltv (by omega) (by omega)]
    exact propext ⟨fun q => by omega, fun q => by omega⟩
  · have h1 := l6_n L (by omega)
    have h2 : nI 0 ≤ nI i := by rw [nI_lev (by omega) (by omega)]; omega
    exact propext ⟨fun _ => by omega, fun _ => Int32.lt_of_lt_of_le h1 h2⟩
theorem w63 (x : Int32) : ∃ n, n < 64 ∧ x &&& nI 63 = nI n := w_of (m := 6) (by omega) (fun j hj => by
  rw [b_and]
  have : bt (nI 63) j = false := by
    by_cases h : j < 32
    · exact (by decide +kernel : ∀ j, j < 32 → 6 ≤ j → bt (nI 63) j = false) j h hj
    · exact b_big (by omega)
  rw [this, Bool.and_false])
section LP
variable {L : Nat} {xs : Nat → Int32}
/-- the end of the loop -/
theorem LPx {i : Nat} {s : mS} (hL : L ≤ 3072) (hi : i ≤ 4000) (h : L < i + 6) : Ev L xs 60 372 23 (lvB i) [] (hp s) (hr (.inl (some 1), s)) := by
  refine Ev.iload H372 i372_23 rfl ?_
  refine Ev.aload_nT H372 i372_25 rfl ?_
  refine Rd.sln H372 i372_26 ?_
  refine Ev.bipush H372 i372_27 (show (Int8.ofInt 6).toInt32 = nI 6 by decide) ?_
  refine Ev.isub H372 i372_29 ?_
  refine Ev.ic_gt H372 i372_30 (t := 2388) (by decide) (fun _ => ?_) (fun e => absurd (show nI L - nI 6 < nI i by rw [l6 hL hi]; exact h) e)
  refine Ev.iconst H372 i372_2388 (show Int32.ofInt 1 = 1 by decide) ?_
  exact Ev.ireturn H372 i372_2389 rfl
theorem LPs {i : Nat} {s : mS} {r : mQ} (hL : L ≤ 3072) (hi : i + 6 ≤ L) (k : ∀ n, n < 64 → xs i &&& nI 63 = nI n → ∃ pc, (if (nI n).toInt < 0 ∨ 45 < (nI n).toInt then mm_tgt 40 2342 else (match (#[200, 273, 298, 342, 386, 399, 467, 535, 603, 671, 727, 783, 851, 926, 982, 1038, 1094, 1174, 1187, 1200, 1268, 1364, 1389, 1464, 1477, 1490, 1503, 1547, 1591, 1635, 1691, 1759, 1827, 1883, 1896, 1909, 1922, 1935, 2019, 2103, 2187, 2255, 2280, 2293, 2304, 2317] : Array Int)[((nI n).toInt - 0).toNat]? with | some off => mm_tgt 40 off | none => none)) = some pc ∧ Ev L xs 60 372 pc (lvB i) [] (hp s) (hr r)) : Ev L xs 60 372 23 (lvB i) [] (hp s) (hr r) := by
  refine Ev.iload H372 i372_23 rfl ?_
  refine Ev.aload_nT H372 i372_25 rfl ?_
  refine Rd.sln H372 i372_26 ?_
  refine Ev.bipush H372 i372_27 (show (Int8.ofInt 6).toInt32 = nI 6 by decide) ?_
  refine Ev.isub H372 i372_29 ?_
  refine Ev.ic_gt H372 i372_30 (t := 2388) (by decide) (fun e => ?_) (fun _ => ?_)
  · exfalso
    have e' : nI L - nI 6 < nI i := e
    rw [l6 hL (by omega)] at e'
    omega
  refine Ev.aload_nT H372 i372_33 rfl ?_
  refine Ev.iload H372 i372_34 rfl ?_
  refine Rd.sld (c := some r) (i := 0) (k := 0) H372 i372_36 (gA_ok (show i < L by omega) (by omega)) (fun _ => ?_)
  rw [nI_clp (show i < 2147483648 by omega)]
  refine Ev.bipush H372 i372_37 (show (Int8.ofInt 63).toInt32 = nI 63 by decide) ?_
  refine Ev.iand H372 i372_39 ?_
  obtain ⟨n, hn, en⟩ := w63 (xs i)
  rw [en]
  obtain ⟨pc, h1, h2⟩ := k n hn en
  exact Rd.tsw H372 i372_40 h1 h2
theorem LPb {i : Nat} {s : mS} {r : mQ} (k : Ev L xs 60 372 23 (lvB (i + 6)) [] (hp s) (hr r)) : Ev L xs 60 372 2382 (lvB i) [] (hp s) (hr r) := by
  refine Ev.iinc H372 i372_2382 (by decide) (x := nI i) (c := nI 6) (lv2 := lvB (i + 6)) rfl (by decide) ?_ ?_
  · rw [nI_add]; rfl
  · exact Ev.goto H372 i372_2385 (by decide) k
theorem LOOP (hL : L ≤ 3072) : ∀ m i B s, L < i + 6 * m + 6 → i ≤ L + 6 → G B s → B + 60 * m + 60 < 400000000 → ∃ s' : mS, Ev L xs 60 372 23 (lvB i) [] (hp s) (hr (.inl (some 1), s')) ∧ s'.2.2.2.1 ≤ s.2.2.2.1 + m ∧ s'.2.2.2.2 ≤ s.2.2.2.2 + 6 * m := by
  intro m
  induction m with
  | zero => intro i B s h1 h2 hG hB; exact ⟨s, LPx hL (by omega) (by omega), by omega, by omega⟩
  | succ m ih =>
    intro i B s h1 h2 hG hB
    by_cases h : L < i + 6
    · exact ⟨s, LPx hL (by omega) h, by omega, by omega⟩
    · have hi : i + 6 ≤ L := by omega
      have go : ∀ pc, KQ L xs i B pc s → ∃ s' : mS, Ev L xs 60 372 pc (lvB i) [] (hp s) (hr (.inl (some 1), s')) ∧ s'.2.2.2.1 ≤ s.2.2.2.1 + (m + 1) ∧ s'.2.2.2.2 ≤ s.2.2.2.2 + 6 * (m + 1) := fun pc hK => by
        obtain ⟨s1, g1, g2, g3⟩ := hK
        obtain ⟨s', e1, e2, e3⟩ := ih (i + 6) (B + 60) s1 (by omega) (by omega) g1 (by omega)
        unfold CN at g2
        exact ⟨s', g3 _ (LPb e1), by omega, by omega⟩
      have kd : KQ L xs i B 2382 s := ⟨s, G_up hG (by omega), ⟨by omega, by omega⟩, fun r k => k⟩
      obtain ⟨n, hn, en⟩ := w63 (xs i)
      have fin : ∀ pc, (if (nI n).toInt < 0 ∨ 45 < (nI n).toInt then mm_tgt 40 2342 else (match (#[200, 273, 298, 342, 386, 399, 467, 535, 603, 671, 727, 783, 851, 926, 982, 1038, 1094, 1174, 1187, 1200, 1268, 1364, 1389, 1464, 1477, 1490, 1503, 1547, 1591, 1635, 1691, 1759, 1827, 1883, 1896, 1909, 1922, 1935, 2019, 2103, 2187, 2255, 2280, 2293, 2304, 2317] : Array Int)[((nI n).toInt - 0).toNat]? with | some off => mm_tgt 40 off | none => none)) = some pc → KQ L xs i B pc s → ∃ s' : mS, Ev L xs 60 372 23 (lvB i) [] (hp s) (hr (.inl (some 1), s')) ∧ s'.2.2.2.1 ≤ s.2.2.2.1 + (m + 1) ∧ s'.2.2.2.2 ≤ s.2.2.2.2 + 6 * (m + 1) := fun pc hp' hK => by
        obtain ⟨s', e1, e2, e3⟩ := go pc hK
        refine ⟨s', LPs hL hi (fun n' hn' en' => ?_), e2, e3⟩
        have : n' = n := by
          rw [en] at en'
          exact ((nI_eqv (by omega) (by omega)).mp en').symm
        subst this
        exact ⟨pc, hp', e1⟩
      rcases (show n = 0 ∨ n = 1 ∨ n = 2 ∨ n = 3 ∨ n = 4 ∨ n = 5 ∨ n = 6 ∨ n = 7 ∨ n = 8 ∨ n = 9 ∨ n = 10 ∨ n = 11 ∨ n = 12 ∨ n = 13 ∨ n = 14 ∨ n = 15 ∨ n = 16 ∨ n = 17 ∨ n = 18 ∨ n = 19 ∨ n = 20 ∨ n = 21 ∨ n = 22 ∨ n = 23 ∨ n = 24 ∨ n = 25 ∨ n = 26 ∨ n = 27 ∨ n = 28 ∨ n = 29 ∨ n = 30 ∨ n = 31 ∨ n = 32 ∨ n = 33 ∨ n = 34 ∨ n = 35 ∨ n = 36 ∨ n = 37 ∨ n = 38 ∨ n = 39 ∨ n = 40 ∨ n = 41 ∨ n = 42 ∨ n = 43 ∨ n = 44 ∨ n = 45 ∨ 46 ≤ n by omega) with e | e | e | e | e | e | e | e | e | e | e | e | e | e | e | e | e | e | e | e | e | e | e | e | e | e | e | e | e | e | e | e | e | e | e | e | e | e | e | e | e | e | e | e | e | e | e
      · subst e; exact fin 240 (by decide) (K0 hL hi hG (by omega))
      · subst e; exact fin 313 (by decide) (K1 hL hi hG (by omega))
      · subst e; exact fin 338 (by decide) (K2 hL hi hG (by omega))
      · subst e; exact fin 382 (by decide) (K3 hL hi hG (by omega))
      · subst e; exact fin 426 (by decide) (K4 hL hi hG (by omega))
      · subst e; exact fin 439 (by decide) (K5 hL hi hG (by omega))
      · subst e; exact fin 507 (by decide) (K6 hL hi hG (by omega))
      · subst e; exact fin 575 (by decide) (K7 hL hi hG (by omega))
      · subst e; exact fin 643 (by decide) (K8 hL hi hG (by omega))
      · subst e; exact fin 711 (by decide) (K9 hL hi hG (by omega))
      · subst e; exact fin 767 (by decide) (K10 hL hi hG (by omega))
      · subst e; exact fin 823 (by decide) (K11 hL hi hG (by omega))
      · subst e; exact fin 891 (by decide) (K12 hL hi hG (by omega))
      · subst e; exact fin 966 (by decide) (K13 hL hi hG (by omega))
      · subst e; exact fin 1022 (by decide) (K14 hL hi hG (by omega))
      · subst e; exact fin 1078 (by decide) (K15 hL hi hG (by omega))
      · subst e; exact fin 1134 (by decide) (K16 hL hi hG (by omega))
      · subst e; exact fin 1214 (by decide) (K17 hL hi hG (by omega))
      · subst e; exact fin 1227 (by decide) (K18 hL hi hG (by omega))
      · subst e; exact fin 1240 (by decide) (K19 hL hi hG (by omega))
      · subst e; exact fin 1308 (by decide) (K20 hL hi hG (by omega))
      · subst e; exact fin 1404 (by decide) (K21 hL hi hG (by omega))
      · subst e; exact fin 1429 (by decide) (K22 hL hi hG (by omega))
      · subst e; exact fin 1504 (by decide) (K23 hL hi hG (by omega))
      · subst e; exact fin 1517 (by decide) (K24 hL hi hG (by omega))
      · subst e; exact fin 1530 (by decide) (K25 hL hi hG (by omega))
      · subst e; exact fin 1543 (by decide) (K26 hL hi hG (by omega))
      · subst e; exact fin 1587 (by decide) (K27 hL hi hG (by omega))
      · subst e; exact fin 1631 (by decide) (K28 hL hi hG (by omega))
      · subst e; exact fin 1675 (by decide) (K29 hL hi hG (by omega))
      · subst e; exact fin 1731 (by decide) (K30 hL hi hG (by omega))
      · subst e; exact fin 1799 (by decide) (K31 hL hi hG (by omega))
      · subst e; exact fin 1867 (by decide) (K32 hL hi hG (by omega))
      · subst e; exact fin 1923 (by decide) (K33 hL hi hG (by omega))
      · subst e; exact fin 1936 (by decide) (K34 hL hi hG (by omega))
      · subst e; exact fin 1949 (by decide) (K35 hL hi hG (by omega))
      · subst e; exact fin 1962 (by decide) (K36 hL hi hG (by omega))
      · subst e; exact fin 1975 (by decide) (K37 hL hi hG (by omega))
      · subst e; exact fin 2059 (by decide) (K38 hL hi hG (by omega))
      · subst e; exact fin 2143 (by decide) (K39 hL hi hG (by omega))
      · subst e; exact fin 2227 (by decide) (K40 hL hi hG (by omega))
      · subst e; exact fin 2295 (by decide) (K41 hL hi hG (by omega))
      · subst e; exact fin 2320 (by decide) (K42 hL hi hG (by omega))
      · subst e; exact fin 2333 (by decide) (K43 hL hi hG (by omega))
      · subst e; exact fin 2344 (by decide) (K44 hL hi hG (by omega))
      · subst e; exact fin 2357 (by decide) (K45 hL hi hG (by omega))
      · refine fin 2382 ?_ kd
        rw [if_pos (Or.inr (by rw [nI_toInt (by omega)]; omega))]
        decide
end LP
