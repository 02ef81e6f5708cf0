/-! THE LAW'S LOOP: cases -/
set_option maxRecDepth 100000 in
theorem i372_1504 : mm_cd 372 1504 = some (.aload_n 1, 1, 0, 0) := rfl
set_option maxRecDepth 100000 in
theorem i372_1505 : mm_cd 372 1505 = some (.invokevirtual 201, 3, 0, 155) := rfl
set_option maxRecDepth 100000 in
theorem i372_1508 : mm_cd 372 1508 = some (.aload_n 2, 1, 0, 0) := rfl
set_option maxRecDepth 100000 in
theorem i372_1509 : mm_cd 372 1509 = some (.invokevirtual 204, 3, 0, 306) := rfl
set_option maxRecDepth 100000 in
theorem i372_1512 : mm_cd 372 1512 = some (.if_icmp .eq 870, 3, 0, 0) := rfl
set_option maxRecDepth 100000 in
theorem i372_1515 : mm_cd 372 1515 = some (.iconst 0, 1, 0, 0) := rfl
set_option maxRecDepth 100000 in
theorem i372_1516 : mm_cd 372 1516 = some (.ireturn, 1, 0, 0) := rfl
theorem K23 {L : Nat} {xs : Nat → Int32} {i B : Nat} {s : mS} (hL : L ≤ 3072) (hi : i + 6 ≤ L) (hG : G B s) (hB : B + 60 < 400000000) : KQ L xs i B 1504 s := by
  obtain ⟨v, s1, z1, z2, z3⟩ := z_apart hG
  obtain ⟨t, m1, m2, m3⟩ := z3 s1 rfl
  refine ⟨t, G_up m3 (by omega), CN_e (by rw [m2.1, z2]), fun r k => ?_⟩
  refine Ev.aload_n H372 i372_1504 rfl ?_
  refine CV (As := []) i372_1505 cal155 ob10 rfl (Nat.le_of_ble_eq_true rfl) (Nat.le_of_ble_eq_true rfl) (show 4 < 60 by decide) (c155 z1) ?_
  refine Ev.aload_n H372 i372_1508 rfl ?_
  refine CV (As := []) i372_1509 cal306 ob11 rfl (Nat.le_of_ble_eq_true rfl) (Nat.le_of_ble_eq_true rfl) (show 5 < 60 by decide) (c306 m1) ?_
  exact Ev.ic_eq H372 i372_1512 (by decide) (fun _ => k) (fun e => absurd rfl e)
set_option maxRecDepth 100000 in
theorem i372_1517 : mm_cd 372 1517 = some (.aload_n 1, 1, 0, 0) := rfl
set_option maxRecDepth 100000 in
theorem i372_1518 : mm_cd 372 1518 = some (.invokevirtual 205, 3, 0, 156) := rfl
set_option maxRecDepth 100000 in
theorem i372_1521 : mm_cd 372 1521 = some (.aload_n 2, 1, 0, 0) := rfl
set_option maxRecDepth 100000 in
theorem i372_1522 : mm_cd 372 1522 = some (.invokevirtual 208, 3, 0, 309) := rfl
set_option maxRecDepth 100000 in
theorem i372_1525 : mm_cd 372 1525 = some (.if_icmp .eq 857, 3, 0, 0) := rfl
set_option maxRecDepth 100000 in
theorem i372_1528 : mm_cd 372 1528 = some (.iconst 0, 1, 0, 0) := rfl
set_option maxRecDepth 100000 in
theorem i372_1529 : mm_cd 372 1529 = some (.ireturn, 1, 0, 0) := rfl
theorem K24 {L : Nat} {xs : Nat → Int32} {i B : Nat} {s : mS} (hL : L ≤ 3072) (hi : i + 6 ≤ L) (hG : G B s) (hB : B + 60 < 400000000) : KQ L xs i B 1517 s := by
  obtain ⟨v, s1, z1, z2, z3⟩ := z_rounds hG
  obtain ⟨t, m1, m2, m3⟩ := z3 s1 rfl
  refine ⟨t, G_up m3 (by omega), CN_e (by rw [m2.1, z2]), fun r k => ?_⟩
  refine Ev.aload_n H372 i372_1517 rfl ?_
  refine CV (As := []) i372_1518 cal156 ob10 rfl (Nat.le_of_ble_eq_true rfl) (Nat.le_of_ble_eq_true rfl) (show 12 < 60 by decide) (c156 z1) ?_
  refine Ev.aload_n H372 i372_1521 rfl ?_
  refine CV (As := []) i372_1522 cal309 ob11 rfl (Nat.le_of_ble_eq_true rfl) (Nat.le_of_ble_eq_true rfl) (show 6 < 60 by decide) (c309 m1) ?_
  exact Ev.ic_eq H372 i372_1525 (by decide) (fun _ => k) (fun e => absurd rfl e)
set_option maxRecDepth 100000 in
theorem i372_1530 : mm_cd 372 1530 = some (.aload_n 1, 1, 0, 0) := rfl
set_option maxRecDepth 100000 in
theorem i372_1531 : mm_cd 372 1531 = some (.invokevirtual 209, 3, 0, 157) := rfl
set_option maxRecDepth 100000 in
theorem i372_1534 : mm_cd 372 1534 = some (.aload_n 2, 1, 0, 0) := rfl
set_option maxRecDepth 100000 in
theorem i372_1535 : mm_cd 372 1535 = some (.invokevirtual 212, 3, 0, 311) := rfl
set_option maxRecDepth 100000 in
theorem i372_1538 : mm_cd 372 1538 = some (.if_icmp .eq 844, 3, 0, 0) := rfl
set_option maxRecDepth 100000 in
theorem i372_1541 : mm_cd 372 1541 = some (.iconst 0, 1, 0, 0) := rfl
set_option maxRecDepth 100000 in
theorem i372_1542 : mm_cd 372 1542 = some (.ireturn, 1, 0, 0) := rfl
theorem K25 {L : Nat} {xs : Nat → Int32} {i B : Nat} {s : mS} (hL : L ≤ 3072) (hi : i + 6 ≤ L) (hG : G B s) (hB : B + 60 < 400000000) : KQ L xs i B 1530 s := by
  obtain ⟨v, s1, z1, z2, z3⟩ := z_cover hG
  obtain ⟨t, m1, m2, m3⟩ := z3 s1 rfl
  refine ⟨t, G_up m3 (by omega), CN_e (by rw [m2.1, z2]), fun r k => ?_⟩
  refine Ev.aload_n H372 i372_1530 rfl ?_
  refine CV (As := []) i372_1531 cal157 ob10 rfl (Nat.le_of_ble_eq_true rfl) (Nat.le_of_ble_eq_true rfl) (show 3 < 60 by decide) (c157 z1) ?_
  refine Ev.aload_n H372 i372_1534 rfl ?_
  refine CV (As := []) i372_1535 cal311 ob11 rfl (Nat.le_of_ble_eq_true rfl) (Nat.le_of_ble_eq_true rfl) (show 4 < 60 by decide) (c311 m1) ?_
  exact Ev.ic_eq H372 i372_1538 (by decide) (fun _ => k) (fun e => absurd rfl e)
set_option maxRecDepth 100000 in
theorem i372_1543 : mm_cd 372 1543 = some (.aload_n 1, 1, 0, 0) := rfl
set_option maxRecDepth 100000 in
theorem i372_1544 : mm_cd 372 1544 = some (.aload_n 3, 1, 0, 0) := rfl
set_option maxRecDepth 100000 in
theorem i372_1545 : mm_cd 372 1545 = some (.invokestatic 213, 3, 0, 361) := rfl
set_option maxRecDepth 100000 in
theorem i372_1548 : mm_cd 372 1548 = some (.istore 5, 2, 0, 0) := rfl
set_option maxRecDepth 100000 in
theorem i372_1550 : mm_cd 372 1550 = some (.aload_n 2, 1, 0, 0) := rfl
set_option maxRecDepth 100000 in
theorem i372_1551 : mm_cd 372 1551 = some (.invokevirtual 215, 3, 0, 316) := rfl
set_option maxRecDepth 100000 in
theorem i372_1554 : mm_cd 372 1554 = some (.istore 6, 2, 0, 0) := rfl
set_option maxRecDepth 100000 in
theorem i372_1556 : mm_cd 372 1556 = some (.aload_n 2, 1, 0, 0) := rfl
set_option maxRecDepth 100000 in
theorem i372_1557 : mm_cd 372 1557 = some (.invokevirtual 130, 3, 0, 187) := rfl
set_option maxRecDepth 100000 in
theorem i372_1560 : mm_cd 372 1560 = some (.iload 5, 2, 0, 0) := rfl
set_option maxRecDepth 100000 in
theorem i372_1562 : mm_cd 372 1562 = some (.if_icmp .eq 5, 3, 0, 0) := rfl
set_option maxRecDepth 100000 in
theorem i372_1565 : mm_cd 372 1565 = some (.iconst 0, 1, 0, 0) := rfl
set_option maxRecDepth 100000 in
theorem i372_1566 : mm_cd 372 1566 = some (.ireturn, 1, 0, 0) := rfl
set_option maxRecDepth 100000 in
theorem i372_1567 : mm_cd 372 1567 = some (.iload 5, 2, 0, 0) := rfl
set_option maxRecDepth 100000 in
theorem i372_1569 : mm_cd 372 1569 = some (.ifCond .ne 15, 3, 0, 0) := rfl
set_option maxRecDepth 100000 in
theorem i372_1572 : mm_cd 372 1572 = some (.aload_n 3, 1, 0, 0) := rfl
set_option maxRecDepth 100000 in
theorem i372_1573 : mm_cd 372 1573 = some (.iconst 0, 1, 0, 0) := rfl
set_option maxRecDepth 100000 in
theorem i372_1574 : mm_cd 372 1574 = some (.laload, 1, 0, 0) := rfl
set_option maxRecDepth 100000 in
theorem i372_1575 : mm_cd 372 1575 = some (.iload 6, 2, 0, 0) := rfl
set_option maxRecDepth 100000 in
theorem i372_1577 : mm_cd 372 1577 = some (.i2l, 1, 0, 0) := rfl
set_option maxRecDepth 100000 in
theorem i372_1578 : mm_cd 372 1578 = some (.lcmp, 1, 0, 0) := rfl
set_option maxRecDepth 100000 in
theorem i372_1579 : mm_cd 372 1579 = some (.ifCond .eq 5, 3, 0, 0) := rfl
set_option maxRecDepth 100000 in
theorem i372_1582 : mm_cd 372 1582 = some (.iconst 0, 1, 0, 0) := rfl
set_option maxRecDepth 100000 in
theorem i372_1583 : mm_cd 372 1583 = some (.ireturn, 1, 0, 0) := rfl
set_option maxRecDepth 100000 in
theorem i372_1584 : mm_cd 372 1584 = some (.goto 798, 3, 0, 0) := rfl
theorem K26 {L : Nat} {xs : Nat → Int32} {i B : Nat} {s : mS} (hL : L ≤ 3072) (hi : i + 6 ≤ L) (hG : G B s) (hB : B + 60 < 400000000) : KQ L xs i B 1543 s := by
  have walk : ∀ (k0 v : Int32) (s1 t : mS) (r : mQ), q361 s = some (.inl (some k0), s1) → q316 s1 = some (.inl (some v), t) → t.1 512 0 = k0 → (k0 = 0 → t.2.1 524 0 = v.toInt64) → Ev L xs 60 372 2382 (lvB i) [] (hp t) (hr r) → Ev L xs 60 372 1543 (lvB i) [] (hp s) (hr r) := fun k0 v s1 t r z1 m1 hc hv k => by
    refine Ev.aload_n H372 i372_1543 rfl ?_
    refine Ev.aload_n H372 i372_1544 rfl ?_
    refine CSt (As := [.ref 0, .ref 524]) i372_1545 cal361 rfl (Nat.le_of_ble_eq_true rfl) (Nat.le_of_ble_eq_true rfl) (show 4 < 60 by decide) (c361 z1) ?_
    refine Ev.istore H372 i372_1548 (by decide) (lv2 := (5, .int k0) :: lvB i) rfl ?_
    refine Ev.aload_n H372 i372_1550 rfl ?_
    refine CV (As := []) i372_1551 cal316 ob11 rfl (Nat.le_of_ble_eq_true rfl) (Nat.le_of_ble_eq_true rfl) (show 5 < 60 by decide) (c316 m1) ?_
    refine Ev.istore H372 i372_1554 (by decide) (lv2 := (6, .int v) :: (5, .int k0) :: lvB i) rfl ?_
    exact TLI i372_1556 i372_1557 i372_1560 i372_1562 i372_1567 i372_1569 i372_1572 i372_1573 i372_1574 i372_1575 i372_1577 i372_1578 i372_1579 i372_1584 (by decide) (by decide) (by decide) (by decide) hc hv k
  have h0 : (0 : Int32).toNatClampNeg = 0 := by decide
  rcases z_who hG with ⟨v, s1, z1, z2, z3⟩ | ⟨x, u, w, c, s1, z1, z2, z4, z5, z6, z3⟩
  · obtain ⟨t, m1, m2, m3, m4⟩ := z3 (sL s1 524 0 v.toInt64) sL_1
    refine ⟨t, G_up m4 (by omega), CN_e (by rw [m2.1, sL_22, z2]), fun r k => walk 0 v (sL s1 524 0 v.toInt64) t r ?_ m1 m3 (fun _ => by rw [m2.2 524 (by omega), sLz_at]) k⟩
    unfold q361
    rw [z1]
    show gA 1 (nI 0) _ = _
    rw [gA_ok (show 0 < 1 by decide) (by omega), sp_e, h0]; rfl
  · obtain ⟨v, t, m1, m2, m3, m4⟩ := z3 (sX s1) rfl
    have hcz : ¬ nI c = 0 := by rw [nI_lit, nI_eqv (by omega) (by omega)]; omega
    refine ⟨t, G_up m4 (by omega), ?_, fun r k => walk (nI c) v (sX s1) t r ?_ m1 m3 (fun q => absurd q hcz) k⟩
    · unfold CN
      rw [m2.1]
      show s1.2.2.2.1 + 1 ≤ _ ∧ s1.2.2.2.2 + 6 ≤ _
      rw [z2]; exact ⟨Nat.le_refl _, Nat.le_refl _⟩
    · unfold q361
      rw [z1]
      exact bC_x z4 z6
set_option maxRecDepth 100000 in
theorem i372_1587 : mm_cd 372 1587 = some (.aload_n 1, 1, 0, 0) := rfl
set_option maxRecDepth 100000 in
theorem i372_1588 : mm_cd 372 1588 = some (.aload_n 3, 1, 0, 0) := rfl
set_option maxRecDepth 100000 in
theorem i372_1589 : mm_cd 372 1589 = some (.invokestatic 216, 3, 0, 362) := rfl
set_option maxRecDepth 100000 in
theorem i372_1592 : mm_cd 372 1592 = some (.istore 5, 2, 0, 0) := rfl
set_option maxRecDepth 100000 in
theorem i372_1594 : mm_cd 372 1594 = some (.aload_n 2, 1, 0, 0) := rfl
set_option maxRecDepth 100000 in
theorem i372_1595 : mm_cd 372 1595 = some (.invokevirtual 218, 3, 0, 317) := rfl
set_option maxRecDepth 100000 in
theorem i372_1598 : mm_cd 372 1598 = some (.istore 6, 2, 0, 0) := rfl
set_option maxRecDepth 100000 in
theorem i372_1600 : mm_cd 372 1600 = some (.aload_n 2, 1, 0, 0) := rfl
set_option maxRecDepth 100000 in
theorem i372_1601 : mm_cd 372 1601 = some (.invokevirtual 130, 3, 0, 187) := rfl
set_option maxRecDepth 100000 in
theorem i372_1604 : mm_cd 372 1604 = some (.iload 5, 2, 0, 0) := rfl
set_option maxRecDepth 100000 in
theorem i372_1606 : mm_cd 372 1606 = some (.if_icmp .eq 5, 3, 0, 0) := rfl
set_option maxRecDepth 100000 in
theorem i372_1609 : mm_cd 372 1609 = some (.iconst 0, 1, 0, 0) := rfl
set_option maxRecDepth 100000 in
theorem i372_1610 : mm_cd 372 1610 = some (.ireturn, 1, 0, 0) := rfl
set_option maxRecDepth 100000 in
theorem i372_1611 : mm_cd 372 1611 = some (.iload 5, 2, 0, 0) := rfl
set_option maxRecDepth 100000 in
theorem i372_1613 : mm_cd 372 1613 = some (.ifCond .ne 15, 3, 0, 0) := rfl
set_option maxRecDepth 100000 in
theorem i372_1616 : mm_cd 372 1616 = some (.aload_n 3, 1, 0, 0) := rfl
set_option maxRecDepth 100000 in
theorem i372_1617 : mm_cd 372 1617 = some (.iconst 0, 1, 0, 0) := rfl
set_option maxRecDepth 100000 in
theorem i372_1618 : mm_cd 372 1618 = some (.laload, 1, 0, 0) := rfl
set_option maxRecDepth 100000 in
theorem i372_1619 : mm_cd 372 1619 = some (.iload 6, 2, 0, 0) := rfl
set_option maxRecDepth 100000 in
theorem i372_1621 : mm_cd 372 1621 = some (.i2l, 1, 0, 0) := rfl
set_option maxRecDepth 100000 in
theorem i372_1622 : mm_cd 372 1622 = some (.lcmp, 1, 0, 0) := rfl
set_option maxRecDepth 100000 in
theorem i372_1623 : mm_cd 372 1623 = some (.ifCond .eq 5, 3, 0, 0) := rfl
set_option maxRecDepth 100000 in
theorem i372_1626 : mm_cd 372 1626 = some (.iconst 0, 1, 0, 0) := rfl
set_option maxRecDepth 100000 in
theorem i372_1627 : mm_cd 372 1627 = some (.ireturn, 1, 0, 0) := rfl
set_option maxRecDepth 100000 in
theorem i372_1628 : mm_cd 372 1628 = some (.goto 754, 3, 0, 0) := rfl
theorem K27 {L : Nat} {xs : Nat → Int32} {i B : Nat} {s : mS} (hL : L ≤ 3072) (hi : i + 6 ≤ L) (hG : G B s) (hB : B + 60 < 400000000) : KQ L xs i B 1587 s := by
  have walk : ∀ (k0 v : Int32) (s1 t : mS) (r : mQ), q362 s = some (.inl (some k0), s1) → q317 s1 = some (.inl (some v), t) → t.1 512 0 = k0 → (k0 = 0 → t.2.1 524 0 = v.toInt64) → Ev L xs 60 372 2382 (lvB i) [] (hp t) (hr r) → Ev L xs 60 372 1587 (lvB i) [] (hp s) (hr r) := fun k0 v s1 t r z1 m1 hc hv k => by
    refine Ev.aload_n H372 i372_1587 rfl ?_
    refine Ev.aload_n H372 i372_1588 rfl ?_
    refine CSt (As := [.ref 0, .ref 524]) i372_1589 cal362 rfl (Nat.le_of_ble_eq_true rfl) (Nat.le_of_ble_eq_true rfl) (show 3 < 60 by decide) (c362 z1) ?_
    refine Ev.istore H372 i372_1592 (by decide) (lv2 := (5, .int k0) :: lvB i) rfl ?_
    refine Ev.aload_n H372 i372_1594 rfl ?_
    refine CV (As := []) i372_1595 cal317 ob11 rfl (Nat.le_of_ble_eq_true rfl) (Nat.le_of_ble_eq_true rfl) (show 5 < 60 by decide) (c317 m1) ?_
    refine Ev.istore H372 i372_1598 (by decide) (lv2 := (6, .int v) :: (5, .int k0) :: lvB i) rfl ?_
    exact TLI i372_1600 i372_1601 i372_1604 i372_1606 i372_1611 i372_1613 i372_1616 i372_1617 i372_1618 i372_1619 i372_1621 i372_1622 i372_1623 i372_1628 (by decide) (by decide) (by decide) (by decide) hc hv k
  have h0 : (0 : Int32).toNatClampNeg = 0 := by decide
  rcases z_likely hG with ⟨v, s1, z1, z2, z3⟩ | ⟨x, u, w, c, s1, z1, z2, z4, z5, z6, z3⟩
  · obtain ⟨t, m1, m2, m3, m4⟩ := z3 (sL s1 524 0 v.toInt64) sL_1
    refine ⟨t, G_up m4 (by omega), CN_e (by rw [m2.1, sL_22, z2]), fun r k => walk 0 v (sL s1 524 0 v.toInt64) t r ?_ m1 m3 (fun _ => by rw [m2.2 524 (by omega), sLz_at]) k⟩
    unfold q362
    rw [z1]
    show gA 1 (nI 0) _ = _
    rw [gA_ok (show 0 < 1 by decide) (by omega), sp_e, h0]; rfl
  · obtain ⟨v, t, m1, m2, m3, m4⟩ := z3 (sX s1) rfl
    have hcz : ¬ nI c = 0 := by rw [nI_lit, nI_eqv (by omega) (by omega)]; omega
    refine ⟨t, G_up m4 (by omega), ?_, fun r k => walk (nI c) v (sX s1) t r ?_ m1 m3 (fun q => absurd q hcz) k⟩
    · unfold CN
      rw [m2.1]
      show s1.2.2.2.1 + 1 ≤ _ ∧ s1.2.2.2.2 + 6 ≤ _
      rw [z2]; exact ⟨Nat.le_refl _, Nat.le_refl _⟩
    · unfold q362
      rw [z1]
      exact bC_x z4 z6
set_option maxRecDepth 100000 in
theorem i372_1631 : mm_cd 372 1631 = some (.aload_n 1, 1, 0, 0) := rfl
set_option maxRecDepth 100000 in
theorem i372_1632 : mm_cd 372 1632 = some (.aload_n 3, 1, 0, 0) := rfl
set_option maxRecDepth 100000 in
theorem i372_1633 : mm_cd 372 1633 = some (.invokestatic 219, 3, 0, 363) := rfl
set_option maxRecDepth 100000 in
theorem i372_1636 : mm_cd 372 1636 = some (.istore 5, 2, 0, 0) := rfl
set_option maxRecDepth 100000 in
theorem i372_1638 : mm_cd 372 1638 = some (.aload_n 2, 1, 0, 0) := rfl
set_option maxRecDepth 100000 in
theorem i372_1639 : mm_cd 372 1639 = some (.invokevirtual 221, 3, 0, 318) := rfl
set_option maxRecDepth 100000 in
theorem i372_1642 : mm_cd 372 1642 = some (.istore 6, 2, 0, 0) := rfl
set_option maxRecDepth 100000 in
theorem i372_1644 : mm_cd 372 1644 = some (.aload_n 2, 1, 0, 0) := rfl
set_option maxRecDepth 100000 in
theorem i372_1645 : mm_cd 372 1645 = some (.invokevirtual 130, 3, 0, 187) := rfl
set_option maxRecDepth 100000 in
theorem i372_1648 : mm_cd 372 1648 = some (.iload 5, 2, 0, 0) := rfl
set_option maxRecDepth 100000 in
theorem i372_1650 : mm_cd 372 1650 = some (.if_icmp .eq 5, 3, 0, 0) := rfl
set_option maxRecDepth 100000 in
theorem i372_1653 : mm_cd 372 1653 = some (.iconst 0, 1, 0, 0) := rfl
set_option maxRecDepth 100000 in
theorem i372_1654 : mm_cd 372 1654 = some (.ireturn, 1, 0, 0) := rfl
set_option maxRecDepth 100000 in
theorem i372_1655 : mm_cd 372 1655 = some (.iload 5, 2, 0, 0) := rfl
set_option maxRecDepth 100000 in
theorem i372_1657 : mm_cd 372 1657 = some (.ifCond .ne 15, 3, 0, 0) := rfl
set_option maxRecDepth 100000 in
theorem i372_1660 : mm_cd 372 1660 = some (.aload_n 3, 1, 0, 0) := rfl
set_option maxRecDepth 100000 in
theorem i372_1661 : mm_cd 372 1661 = some (.iconst 0, 1, 0, 0) := rfl
set_option maxRecDepth 100000 in
theorem i372_1662 : mm_cd 372 1662 = some (.laload, 1, 0, 0) := rfl
set_option maxRecDepth 100000 in
theorem i372_1663 : mm_cd 372 1663 = some (.iload 6, 2, 0, 0) := rfl
set_option maxRecDepth 100000 in
theorem i372_1665 : mm_cd 372 1665 = some (.i2l, 1, 0, 0) := rfl
set_option maxRecDepth 100000 in
theorem i372_1666 : mm_cd 372 1666 = some (.lcmp, 1, 0, 0) := rfl
set_option maxRecDepth 100000 in
theorem i372_1667 : mm_cd 372 1667 = some (.ifCond .eq 5, 3, 0, 0) := rfl
set_option maxRecDepth 100000 in
theorem i372_1670 : mm_cd 372 1670 = some (.iconst 0, 1, 0, 0) := rfl
set_option maxRecDepth 100000 in
theorem i372_1671 : mm_cd 372 1671 = some (.ireturn, 1, 0, 0) := rfl
set_option maxRecDepth 100000 in
theorem i372_1672 : mm_cd 372 1672 = some (.goto 710, 3, 0, 0) := rfl
theorem K28 {L : Nat} {xs : Nat → Int32} {i B : Nat} {s : mS} (hL : L ≤ 3072) (hi : i + 6 ≤ L) (hG : G B s) (hB : B + 60 < 400000000) : KQ L xs i B 1631 s := by
  have walk : ∀ (k0 v : Int32) (s1 t : mS) (r : mQ), q363 s = some (.inl (some k0), s1) → q318 s1 = some (.inl (some v), t) → t.1 512 0 = k0 → (k0 = 0 → t.2.1 524 0 = v.toInt64) → Ev L xs 60 372 2382 (lvB i) [] (hp t) (hr r) → Ev L xs 60 372 1631 (lvB i) [] (hp s) (hr r) := fun k0 v s1 t r z1 m1 hc hv k => by
    refine Ev.aload_n H372 i372_1631 rfl ?_
    refine Ev.aload_n H372 i372_1632 rfl ?_
    refine CSt (As := [.ref 0, .ref 524]) i372_1633 cal363 rfl (Nat.le_of_ble_eq_true rfl) (Nat.le_of_ble_eq_true rfl) (show 4 < 60 by decide) (c363 z1) ?_
    refine Ev.istore H372 i372_1636 (by decide) (lv2 := (5, .int k0) :: lvB i) rfl ?_
    refine Ev.aload_n H372 i372_1638 rfl ?_
    refine CV (As := []) i372_1639 cal318 ob11 rfl (Nat.le_of_ble_eq_true rfl) (Nat.le_of_ble_eq_true rfl) (show 5 < 60 by decide) (c318 m1) ?_
    refine Ev.istore H372 i372_1642 (by decide) (lv2 := (6, .int v) :: (5, .int k0) :: lvB i) rfl ?_
    exact TLI i372_1644 i372_1645 i372_1648 i372_1650 i372_1655 i372_1657 i372_1660 i372_1661 i372_1662 i372_1663 i372_1665 i372_1666 i372_1667 i372_1672 (by decide) (by decide) (by decide) (by decide) hc hv k
  have h0 : (0 : Int32).toNatClampNeg = 0 := by decide
  rcases z_ask hG with ⟨v, s1, z1, z2, z3⟩ | ⟨x, u, w, c, s1, z1, z2, z4, z5, z6, z3⟩
  · obtain ⟨t, m1, m2, m3, m4⟩ := z3 (sL s1 524 0 v.toInt64) sL_1
    refine ⟨t, G_up m4 (by omega), CN_e (by rw [m2.1, sL_22, z2]), fun r k => walk 0 v (sL s1 524 0 v.toInt64) t r ?_ m1 m3 (fun _ => by rw [m2.2 524 (by omega), sLz_at]) k⟩
    unfold q363
    rw [z1]
    show gA 1 (nI 0) _ = _
    rw [gA_ok (show 0 < 1 by decide) (by omega), sp_e, h0]; rfl
  · obtain ⟨v, t, m1, m2, m3, m4⟩ := z3 (sX s1) rfl
    have hcz : ¬ nI c = 0 := by rw [nI_lit, nI_eqv (by omega) (by omega)]; omega
    refine ⟨t, G_up m4 (by omega), ?_, fun r k => walk (nI c) v (sX s1) t r ?_ m1 m3 (fun q => absurd q hcz) k⟩
    · unfold CN
      rw [m2.1]
      show s1.2.2.2.1 + 1 ≤ _ ∧ s1.2.2.2.2 + 6 ≤ _
      rw [z2]; exact ⟨Nat.le_refl _, Nat.le_refl _⟩
    · unfold q363
      rw [z1]
      exact bC_x z4 z6
set_option maxRecDepth 100000 in
theorem i372_1675 : mm_cd 372 1675 = some (.aload_n 1, 1, 0, 0) := rfl
set_option maxRecDepth 100000 in
theorem i372_1676 : mm_cd 372 1676 = some (.aload_n 0, 1, 0, 0) := rfl
set_option maxRecDepth 100000 in
theorem i372_1677 : mm_cd 372 1677 = some (.iload 4, 2, 0, 0) := rfl
set_option maxRecDepth 100000 in
theorem i372_1679 : mm_cd 372 1679 = some (.iconst 1, 1, 0, 0) := rfl
set_option maxRecDepth 100000 in
theorem i372_1680 : mm_cd 372 1680 = some (.iadd, 1, 0, 0) := rfl
set_option maxRecDepth 100000 in
theorem i372_1681 : mm_cd 372 1681 = some (.iaload, 1, 0, 0) := rfl
set_option maxRecDepth 100000 in
theorem i372_1682 : mm_cd 372 1682 = some (.aload_n 3, 1, 0, 0) := rfl
set_option maxRecDepth 100000 in
theorem i372_1683 : mm_cd 372 1683 = some (.invokestatic 222, 3, 0, 364) := rfl
set_option maxRecDepth 100000 in
theorem i372_1686 : mm_cd 372 1686 = some (.istore 5, 2, 0, 0) := rfl
set_option maxRecDepth 100000 in
theorem i372_1688 : mm_cd 372 1688 = some (.aload_n 2, 1, 0, 0) := rfl
set_option maxRecDepth 100000 in
theorem i372_1689 : mm_cd 372 1689 = some (.aload_n 0, 1, 0, 0) := rfl
set_option maxRecDepth 100000 in
theorem i372_1690 : mm_cd 372 1690 = some (.iload 4, 2, 0, 0) := rfl
set_option maxRecDepth 100000 in
theorem i372_1692 : mm_cd 372 1692 = some (.iconst 1, 1, 0, 0) := rfl
set_option maxRecDepth 100000 in
theorem i372_1693 : mm_cd 372 1693 = some (.iadd, 1, 0, 0) := rfl
set_option maxRecDepth 100000 in
theorem i372_1694 : mm_cd 372 1694 = some (.iaload, 1, 0, 0) := rfl
set_option maxRecDepth 100000 in
theorem i372_1695 : mm_cd 372 1695 = some (.invokevirtual 224, 3, 0, 321) := rfl
set_option maxRecDepth 100000 in
theorem i372_1698 : mm_cd 372 1698 = some (.istore 6, 2, 0, 0) := rfl
set_option maxRecDepth 100000 in
theorem i372_1700 : mm_cd 372 1700 = some (.aload_n 2, 1, 0, 0) := rfl
set_option maxRecDepth 100000 in
theorem i372_1701 : mm_cd 372 1701 = some (.invokevirtual 130, 3, 0, 187) := rfl
set_option maxRecDepth 100000 in
theorem i372_1704 : mm_cd 372 1704 = some (.iload 5, 2, 0, 0) := rfl
set_option maxRecDepth 100000 in
theorem i372_1706 : mm_cd 372 1706 = some (.if_icmp .eq 5, 3, 0, 0) := rfl
set_option maxRecDepth 100000 in
theorem i372_1709 : mm_cd 372 1709 = some (.iconst 0, 1, 0, 0) := rfl
set_option maxRecDepth 100000 in
theorem i372_1710 : mm_cd 372 1710 = some (.ireturn, 1, 0, 0) := rfl
set_option maxRecDepth 100000 in
theorem i372_1711 : mm_cd 372 1711 = some (.iload 5, 2, 0, 0) := rfl
set_option maxRecDepth 100000 in
theorem i372_1713 : mm_cd 372 1713 = some (.ifCond .ne 15, 3, 0, 0) := rfl
set_option maxRecDepth 100000 in
theorem i372_1716 : mm_cd 372 1716 = some (.aload_n 3, 1, 0, 0) := rfl
set_option maxRecDepth 100000 in
theorem i372_1717 : mm_cd 372 1717 = some (.iconst 0, 1, 0, 0) := rfl
set_option maxRecDepth 100000 in
theorem i372_1718 : mm_cd 372 1718 = some (.laload, 1, 0, 0) := rfl
set_option maxRecDepth 100000 in
theorem i372_1719 : mm_cd 372 1719 = some (.iload 6, 2, 0, 0) := rfl
set_option maxRecDepth 100000 in
theorem i372_1721 : mm_cd 372 1721 = some (.i2l, 1, 0, 0) := rfl
set_option maxRecDepth 100000 in
theorem i372_1722 : mm_cd 372 1722 = some (.lcmp, 1, 0, 0) := rfl
set_option maxRecDepth 100000 in
theorem i372_1723 : mm_cd 372 1723 = some (.ifCond .eq 5, 3, 0, 0) := rfl
set_option maxRecDepth 100000 in
theorem i372_1726 : mm_cd 372 1726 = some (.iconst 0, 1, 0, 0) := rfl
set_option maxRecDepth 100000 in
theorem i372_1727 : mm_cd 372 1727 = some (.ireturn, 1, 0, 0) := rfl
set_option maxRecDepth 100000 in
theorem i372_1728 : mm_cd 372 1728 = some (.goto 654, 3, 0, 0) := rfl
theorem K29 {L : Nat} {xs : Nat → Int32} {i B : Nat} {s : mS} (hL : L ≤ 3072) (hi : i + 6 ≤ L) (hG : G B s) (hB : B + 60 < 400000000) : KQ L xs i B 1675 s := by
  have walk : ∀ (k0 v : Int32) (s1 t : mS) (r : mQ), q364 (xs (i + 1)) s = some (.inl (some k0), s1) → q321 (xs (i + 1)) s1 = some (.inl (some v), t) → t.1 512 0 = k0 → (k0 = 0 → t.2.1 524 0 = v.toInt64) → Ev L xs 60 372 2382 (lvB i) [] (hp t) (hr r) → Ev L xs 60 372 1675 (lvB i) [] (hp s) (hr r) := fun k0 v s1 t r z1 m1 hc hv k => by
    refine Ev.aload_n H372 i372_1675 rfl ?_
    refine LD (j := 1) i372_1676 i372_1677 i372_1679 i372_1680 i372_1681 (by decide) rfl rfl hL (by omega) ?_
    refine Ev.aload_n H372 i372_1682 rfl ?_
    refine CSt (As := [.ref 0, .int (xs (i + 1)), .ref 524]) i372_1683 cal364 rfl (Nat.le_of_ble_eq_true rfl) (Nat.le_of_ble_eq_true rfl) (show 12 < 60 by decide) (c364 z1) ?_
    refine Ev.istore H372 i372_1686 (by decide) (lv2 := (5, .int k0) :: lvB i) rfl ?_
    refine Ev.aload_n H372 i372_1688 rfl ?_
    refine LD (j := 1) i372_1689 i372_1690 i372_1692 i372_1693 i372_1694 (by decide) rfl rfl hL (by omega) ?_
    refine CV (As := [.int (xs (i + 1))]) i372_1695 cal321 ob11 rfl (Nat.le_of_ble_eq_true rfl) (Nat.le_of_ble_eq_true rfl) (show 6 < 60 by decide) (c321 m1) ?_
    refine Ev.istore H372 i372_1698 (by decide) (lv2 := (6, .int v) :: (5, .int k0) :: lvB i) rfl ?_
    exact TLI i372_1700 i372_1701 i372_1704 i372_1706 i372_1711 i372_1713 i372_1716 i372_1717 i372_1718 i372_1719 i372_1721 i372_1722 i372_1723 i372_1728 (by decide) (by decide) (by decide) (by decide) hc hv k
  have h0 : (0 : Int32).toNatClampNeg = 0 := by decide
  rcases z_pairs hG (xs (i + 1)) with ⟨v, s1, z1, z2, z3⟩ | ⟨x, u, w, c, s1, z1, z2, z4, z5, z6, z3⟩
  · obtain ⟨t, m1, m2, m3, m4⟩ := z3 (sL s1 524 0 v.toInt64) sL_1
    refine ⟨t, G_up m4 (by omega), CN_e (by rw [m2.1, sL_22, z2]), fun r k => walk 0 v (sL s1 524 0 v.toInt64) t r ?_ m1 m3 (fun _ => by rw [m2.2 524 (by omega), sLz_at]) k⟩
    unfold q364
    rw [z1]
    show gA 1 (nI 0) _ = _
    rw [gA_ok (show 0 < 1 by decide) (by omega), sp_e, h0]; rfl
  · obtain ⟨v, t, m1, m2, m3, m4⟩ := z3 (sX s1) rfl
    have hcz : ¬ nI c = 0 := by rw [nI_lit, nI_eqv (by omega) (by omega)]; omega
    refine ⟨t, G_up m4 (by omega), ?_, fun r k => walk (nI c) v (sX s1) t r ?_ m1 m3 (fun q => absurd q hcz) k⟩
    · unfold CN
      rw [m2.1]
      show s1.2.2.2.1 + 1 ≤ _ ∧ s1.2.2.2.2 + 6 ≤ _
      rw [z2]; exact ⟨Nat.le_refl _, Nat.le_refl _⟩
    · unfold q364
      rw [z1]
      exact bC_x z4 z6
set_option maxRecDepth 100000 in
theorem i372_1731 : mm_cd 372 1731 = some (.aload_n 1, 1, 0, 0) := rfl
set_option maxRecDepth 100000 in
theorem i372_1732 : mm_cd 372 1732 = some (.aload_n 0, 1, 0, 0) := rfl
set_option maxRecDepth 100000 in
theorem i372_1733 : mm_cd 372 1733 = some (.iload 4, 2, 0, 0) := rfl
set_option maxRecDepth 100000 in
theorem i372_1735 : mm_cd 372 1735 = some (.iconst 1, 1, 0, 0) := rfl
set_option maxRecDepth 100000 in
theorem i372_1736 : mm_cd 372 1736 = some (.iadd, 1, 0, 0) := rfl
set_option maxRecDepth 100000 in
theorem i372_1737 : mm_cd 372 1737 = some (.iaload, 1, 0, 0) := rfl
set_option maxRecDepth 100000 in
theorem i372_1738 : mm_cd 372 1738 = some (.aload_n 0, 1, 0, 0) := rfl
set_option maxRecDepth 100000 in
theorem i372_1739 : mm_cd 372 1739 = some (.iload 4, 2, 0, 0) := rfl
set_option maxRecDepth 100000 in
theorem i372_1741 : mm_cd 372 1741 = some (.iconst 2, 1, 0, 0) := rfl
set_option maxRecDepth 100000 in
theorem i372_1742 : mm_cd 372 1742 = some (.iadd, 1, 0, 0) := rfl
set_option maxRecDepth 100000 in
theorem i372_1743 : mm_cd 372 1743 = some (.iaload, 1, 0, 0) := rfl
set_option maxRecDepth 100000 in
theorem i372_1744 : mm_cd 372 1744 = some (.aload_n 3, 1, 0, 0) := rfl
set_option maxRecDepth 100000 in
theorem i372_1745 : mm_cd 372 1745 = some (.invokestatic 225, 3, 0, 365) := rfl
set_option maxRecDepth 100000 in
theorem i372_1748 : mm_cd 372 1748 = some (.istore 5, 2, 0, 0) := rfl
set_option maxRecDepth 100000 in
theorem i372_1750 : mm_cd 372 1750 = some (.aload_n 2, 1, 0, 0) := rfl
set_option maxRecDepth 100000 in
theorem i372_1751 : mm_cd 372 1751 = some (.aload_n 0, 1, 0, 0) := rfl
set_option maxRecDepth 100000 in
theorem i372_1752 : mm_cd 372 1752 = some (.iload 4, 2, 0, 0) := rfl
set_option maxRecDepth 100000 in
theorem i372_1754 : mm_cd 372 1754 = some (.iconst 1, 1, 0, 0) := rfl
set_option maxRecDepth 100000 in
theorem i372_1755 : mm_cd 372 1755 = some (.iadd, 1, 0, 0) := rfl
set_option maxRecDepth 100000 in
theorem i372_1756 : mm_cd 372 1756 = some (.iaload, 1, 0, 0) := rfl
set_option maxRecDepth 100000 in
theorem i372_1757 : mm_cd 372 1757 = some (.aload_n 0, 1, 0, 0) := rfl
set_option maxRecDepth 100000 in
theorem i372_1758 : mm_cd 372 1758 = some (.iload 4, 2, 0, 0) := rfl
set_option maxRecDepth 100000 in
theorem i372_1760 : mm_cd 372 1760 = some (.iconst 2, 1, 0, 0) := rfl
set_option maxRecDepth 100000 in
theorem i372_1761 : mm_cd 372 1761 = some (.iadd, 1, 0, 0) := rfl
set_option maxRecDepth 100000 in
theorem i372_1762 : mm_cd 372 1762 = some (.iaload, 1, 0, 0) := rfl
set_option maxRecDepth 100000 in
theorem i372_1763 : mm_cd 372 1763 = some (.invokevirtual 227, 3, 0, 323) := rfl
set_option maxRecDepth 100000 in
theorem i372_1766 : mm_cd 372 1766 = some (.istore 6, 2, 0, 0) := rfl
set_option maxRecDepth 100000 in
theorem i372_1768 : mm_cd 372 1768 = some (.aload_n 2, 1, 0, 0) := rfl
set_option maxRecDepth 100000 in
theorem i372_1769 : mm_cd 372 1769 = some (.invokevirtual 130, 3, 0, 187) := rfl
set_option maxRecDepth 100000 in
theorem i372_1772 : mm_cd 372 1772 = some (.iload 5, 2, 0, 0) := rfl
set_option maxRecDepth 100000 in
theorem i372_1774 : mm_cd 372 1774 = some (.if_icmp .eq 5, 3, 0, 0) := rfl
set_option maxRecDepth 100000 in
theorem i372_1777 : mm_cd 372 1777 = some (.iconst 0, 1, 0, 0) := rfl
set_option maxRecDepth 100000 in
theorem i372_1778 : mm_cd 372 1778 = some (.ireturn, 1, 0, 0) := rfl
set_option maxRecDepth 100000 in
theorem i372_1779 : mm_cd 372 1779 = some (.iload 5, 2, 0, 0) := rfl
set_option maxRecDepth 100000 in
theorem i372_1781 : mm_cd 372 1781 = some (.ifCond .ne 15, 3, 0, 0) := rfl
set_option maxRecDepth 100000 in
theorem i372_1784 : mm_cd 372 1784 = some (.aload_n 3, 1, 0, 0) := rfl
set_option maxRecDepth 100000 in
theorem i372_1785 : mm_cd 372 1785 = some (.iconst 0, 1, 0, 0) := rfl
set_option maxRecDepth 100000 in
theorem i372_1786 : mm_cd 372 1786 = some (.laload, 1, 0, 0) := rfl
set_option maxRecDepth 100000 in
theorem i372_1787 : mm_cd 372 1787 = some (.iload 6, 2, 0, 0) := rfl
set_option maxRecDepth 100000 in
theorem i372_1789 : mm_cd 372 1789 = some (.i2l, 1, 0, 0) := rfl
set_option maxRecDepth 100000 in
theorem i372_1790 : mm_cd 372 1790 = some (.lcmp, 1, 0, 0) := rfl
set_option maxRecDepth 100000 in
theorem i372_1791 : mm_cd 372 1791 = some (.ifCond .eq 5, 3, 0, 0) := rfl
set_option maxRecDepth 100000 in
theorem i372_1794 : mm_cd 372 1794 = some (.iconst 0, 1, 0, 0) := rfl
set_option maxRecDepth 100000 in
theorem i372_1795 : mm_cd 372 1795 = some (.ireturn, 1, 0, 0) := rfl
set_option maxRecDepth 100000 in
theorem i372_1796 : mm_cd 372 1796 = some (.goto 586, 3, 0, 0) := rfl
theorem K30 {L : Nat} {xs : Nat → Int32} {i B : Nat} {s : mS} (hL : L ≤ 3072) (hi : i + 6 ≤ L) (hG : G B s) (hB : B + 60 < 400000000) : KQ L xs i B 1731 s := by
  have walk : ∀ (k0 v : Int32) (s1 t : mS) (r : mQ), q365 (xs (i + 1)) (xs (i + 2)) s = some (.inl (some k0), s1) → q323 (xs (i + 1)) (xs (i + 2)) s1 = some (.inl (some v), t) → t.1 512 0 = k0 → (k0 = 0 → t.2.1 524 0 = v.toInt64) → Ev L xs 60 372 2382 (lvB i) [] (hp t) (hr r) → Ev L xs 60 372 1731 (lvB i) [] (hp s) (hr r) := fun k0 v s1 t r z1 m1 hc hv k => by
    refine Ev.aload_n H372 i372_1731 rfl ?_
    refine LD (j := 1) i372_1732 i372_1733 i372_1735 i372_1736 i372_1737 (by decide) rfl rfl hL (by omega) ?_
    refine LD (j := 2) i372_1738 i372_1739 i372_1741 i372_1742 i372_1743 (by decide) rfl rfl hL (by omega) ?_
    refine Ev.aload_n H372 i372_1744 rfl ?_
    refine CSt (As := [.ref 0, .int (xs (i + 1)), .int (xs (i + 2)), .ref 524]) i372_1745 cal365 rfl (Nat.le_of_ble_eq_true rfl) (Nat.le_of_ble_eq_true rfl) (show 4 < 60 by decide) (c365 z1) ?_
    refine Ev.istore H372 i372_1748 (by decide) (lv2 := (5, .int k0) :: lvB i) rfl ?_
    refine Ev.aload_n H372 i372_1750 rfl ?_
    refine LD (j := 1) i372_1751 i372_1752 i372_1754 i372_1755 i372_1756 (by decide) rfl rfl hL (by omega) ?_
    refine LD (j := 2) i372_1757 i372_1758 i372_1760 i372_1761 i372_1762 (by decide) rfl rfl hL (by omega) ?_
    refine CV (As := [.int (xs (i + 1)), .int (xs (i + 2))]) i372_1763 cal323 ob11 rfl (Nat.le_of_ble_eq_true rfl) (Nat.le_of_ble_eq_true rfl) (show 5 < 60 by decide) (c323 m1) ?_
    refine Ev.istore H372 i372_1766 (by decide) (lv2 := (6, .int v) :: (5, .int k0) :: lvB i) rfl ?_
    exact TLI i372_1768 i372_1769 i372_1772 i372_1774 i372_1779 i372_1781 i372_1784 i372_1785 i372_1786 i372_1787 i372_1789 i372_1790 i372_1791 i372_1796 (by decide) (by decide) (by decide) (by decide) hc hv k
  have h0 : (0 : Int32).toNatClampNeg = 0 := by decide
  rcases z_rests hG (xs (i + 1)) (xs (i + 2)) with ⟨v, s1, z1, z2, z3⟩ | ⟨x, u, w, c, s1, z1, z2, z4, z5, z6, z3⟩
  · obtain ⟨t, m1, m2, m3, m4⟩ := z3 (sL s1 524 0 v.toInt64) sL_1
    refine ⟨t, G_up m4 (by omega), CN_e (by rw [m2.1, sL_22, z2]), fun r k => walk 0 v (sL s1 524 0 v.toInt64) t r ?_ m1 m3 (fun _ => by rw [m2.2 524 (by omega), sLz_at]) k⟩
    unfold q365
    rw [z1]
    show gA 1 (nI 0) _ = _
    rw [gA_ok (show 0 < 1 by decide) (by omega), sp_e, h0]; rfl
  · obtain ⟨v, t, m1, m2, m3, m4⟩ := z3 (sX s1) rfl
    have hcz : ¬ nI c = 0 := by rw [nI_lit, nI_eqv (by omega) (by omega)]; omega
    refine ⟨t, G_up m4 (by omega), ?_, fun r k => walk (nI c) v (sX s1) t r ?_ m1 m3 (fun q => absurd q hcz) k⟩
    · unfold CN
      rw [m2.1]
      show s1.2.2.2.1 + 1 ≤ _ ∧ s1.2.2.2.2 + 6 ≤ _
      rw [z2]; exact ⟨Nat.le_refl _, Nat.le_refl _⟩
    · unfold q365
      rw [z1]
      exact bC_x z4 z6
set_option maxRecDepth 100000 in
theorem i372_1799 : mm_cd 372 1799 = some (.aload_n 1, 1, 0, 0) := rfl
set_option maxRecDepth 100000 in
theorem i372_1800 : mm_cd 372 1800 = some (.aload_n 0, 1, 0, 0) := rfl
set_option maxRecDepth 100000 in
theorem i372_1801 : mm_cd 372 1801 = some (.iload 4, 2, 0, 0) := rfl
set_option maxRecDepth 100000 in
theorem i372_1803 : mm_cd 372 1803 = some (.iconst 1, 1, 0, 0) := rfl
set_option maxRecDepth 100000 in
theorem i372_1804 : mm_cd 372 1804 = some (.iadd, 1, 0, 0) := rfl
set_option maxRecDepth 100000 in
theorem i372_1805 : mm_cd 372 1805 = some (.iaload, 1, 0, 0) := rfl
set_option maxRecDepth 100000 in
theorem i372_1806 : mm_cd 372 1806 = some (.aload_n 0, 1, 0, 0) := rfl
set_option maxRecDepth 100000 in
theorem i372_1807 : mm_cd 372 1807 = some (.iload 4, 2, 0, 0) := rfl
set_option maxRecDepth 100000 in
theorem i372_1809 : mm_cd 372 1809 = some (.iconst 2, 1, 0, 0) := rfl
set_option maxRecDepth 100000 in
theorem i372_1810 : mm_cd 372 1810 = some (.iadd, 1, 0, 0) := rfl
set_option maxRecDepth 100000 in
theorem i372_1811 : mm_cd 372 1811 = some (.iaload, 1, 0, 0) := rfl
set_option maxRecDepth 100000 in
theorem i372_1812 : mm_cd 372 1812 = some (.aload_n 3, 1, 0, 0) := rfl
set_option maxRecDepth 100000 in
theorem i372_1813 : mm_cd 372 1813 = some (.invokestatic 228, 3, 0, 366) := rfl
set_option maxRecDepth 100000 in
theorem i372_1816 : mm_cd 372 1816 = some (.istore 5, 2, 0, 0) := rfl
set_option maxRecDepth 100000 in
theorem i372_1818 : mm_cd 372 1818 = some (.aload_n 2, 1, 0, 0) := rfl
set_option maxRecDepth 100000 in
theorem i372_1819 : mm_cd 372 1819 = some (.aload_n 0, 1, 0, 0) := rfl
set_option maxRecDepth 100000 in
theorem i372_1820 : mm_cd 372 1820 = some (.iload 4, 2, 0, 0) := rfl
set_option maxRecDepth 100000 in
theorem i372_1822 : mm_cd 372 1822 = some (.iconst 1, 1, 0, 0) := rfl
set_option maxRecDepth 100000 in
theorem i372_1823 : mm_cd 372 1823 = some (.iadd, 1, 0, 0) := rfl
set_option maxRecDepth 100000 in
theorem i372_1824 : mm_cd 372 1824 = some (.iaload, 1, 0, 0) := rfl
set_option maxRecDepth 100000 in
theorem i372_1825 : mm_cd 372 1825 = some (.aload_n 0, 1, 0, 0) := rfl
set_option maxRecDepth 100000 in
theorem i372_1826 : mm_cd 372 1826 = some (.iload 4, 2, 0, 0) := rfl
set_option maxRecDepth 100000 in
theorem i372_1828 : mm_cd 372 1828 = some (.iconst 2, 1, 0, 0) := rfl
set_option maxRecDepth 100000 in
theorem i372_1829 : mm_cd 372 1829 = some (.iadd, 1, 0, 0) := rfl
set_option maxRecDepth 100000 in
theorem i372_1830 : mm_cd 372 1830 = some (.iaload, 1, 0, 0) := rfl
set_option maxRecDepth 100000 in
theorem i372_1831 : mm_cd 372 1831 = some (.invokevirtual 230, 3, 0, 324) := rfl
set_option maxRecDepth 100000 in
theorem i372_1834 : mm_cd 372 1834 = some (.istore 6, 2, 0, 0) := rfl
set_option maxRecDepth 100000 in
theorem i372_1836 : mm_cd 372 1836 = some (.aload_n 2, 1, 0, 0) := rfl
set_option maxRecDepth 100000 in
theorem i372_1837 : mm_cd 372 1837 = some (.invokevirtual 130, 3, 0, 187) := rfl
set_option maxRecDepth 100000 in
theorem i372_1840 : mm_cd 372 1840 = some (.iload 5, 2, 0, 0) := rfl
set_option maxRecDepth 100000 in
theorem i372_1842 : mm_cd 372 1842 = some (.if_icmp .eq 5, 3, 0, 0) := rfl
set_option maxRecDepth 100000 in
theorem i372_1845 : mm_cd 372 1845 = some (.iconst 0, 1, 0, 0) := rfl
set_option maxRecDepth 100000 in
theorem i372_1846 : mm_cd 372 1846 = some (.ireturn, 1, 0, 0) := rfl
set_option maxRecDepth 100000 in
theorem i372_1847 : mm_cd 372 1847 = some (.iload 5, 2, 0, 0) := rfl
set_option maxRecDepth 100000 in
theorem i372_1849 : mm_cd 372 1849 = some (.ifCond .ne 15, 3, 0, 0) := rfl
set_option maxRecDepth 100000 in
theorem i372_1852 : mm_cd 372 1852 = some (.aload_n 3, 1, 0, 0) := rfl
set_option maxRecDepth 100000 in
theorem i372_1853 : mm_cd 372 1853 = some (.iconst 0, 1, 0, 0) := rfl
set_option maxRecDepth 100000 in
theorem i372_1854 : mm_cd 372 1854 = some (.laload, 1, 0, 0) := rfl
set_option maxRecDepth 100000 in
theorem i372_1855 : mm_cd 372 1855 = some (.iload 6, 2, 0, 0) := rfl
set_option maxRecDepth 100000 in
theorem i372_1857 : mm_cd 372 1857 = some (.i2l, 1, 0, 0) := rfl
set_option maxRecDepth 100000 in
theorem i372_1858 : mm_cd 372 1858 = some (.lcmp, 1, 0, 0) := rfl
set_option maxRecDepth 100000 in
theorem i372_1859 : mm_cd 372 1859 = some (.ifCond .eq 5, 3, 0, 0) := rfl
set_option maxRecDepth 100000 in
theorem i372_1862 : mm_cd 372 1862 = some (.iconst 0, 1, 0, 0) := rfl
set_option maxRecDepth 100000 in
theorem i372_1863 : mm_cd 372 1863 = some (.ireturn, 1, 0, 0) := rfl
set_option maxRecDepth 100000 in
theorem i372_1864 : mm_cd 372 1864 = some (.goto 518, 3, 0, 0) := rfl
theorem K31 {L : Nat} {xs : Nat → Int32} {i B : Nat} {s : mS} (hL : L ≤ 3072) (hi : i + 6 ≤ L) (hG : G B s) (hB : B + 60 < 400000000) : KQ L xs i B 1799 s := by
  have walk : ∀ (k0 v : Int32) (s1 t : mS) (r : mQ), q366 (xs (i + 1)) (xs (i + 2)) s = some (.inl (some k0), s1) → q324 (xs (i + 1)) (xs (i + 2)) s1 = some (.inl (some v), t) → t.1 512 0 = k0 → (k0 = 0 → t.2.1 524 0 = v.toInt64) → Ev L xs 60 372 2382 (lvB i) [] (hp t) (hr r) → Ev L xs 60 372 1799 (lvB i) [] (hp s) (hr r) := fun k0 v s1 t r z1 m1 hc hv k => by
    refine Ev.aload_n H372 i372_1799 rfl ?_
    refine LD (j := 1) i372_1800 i372_1801 i372_1803 i372_1804 i372_1805 (by decide) rfl rfl hL (by omega) ?_
    refine LD (j := 2) i372_1806 i372_1807 i372_1809 i372_1810 i372_1811 (by decide) rfl rfl hL (by omega) ?_
    refine Ev.aload_n H372 i372_1812 rfl ?_
    refine CSt (As := [.ref 0, .int (xs (i + 1)), .int (xs (i + 2)), .ref 524]) i372_1813 cal366 rfl (Nat.le_of_ble_eq_true rfl) (Nat.le_of_ble_eq_true rfl) (show 2 < 60 by decide) (c366 z1) ?_
    refine Ev.istore H372 i372_1816 (by decide) (lv2 := (5, .int k0) :: lvB i) rfl ?_
    refine Ev.aload_n H372 i372_1818 rfl ?_
    refine LD (j := 1) i372_1819 i372_1820 i372_1822 i372_1823 i372_1824 (by decide) rfl rfl hL (by omega) ?_
    refine LD (j := 2) i372_1825 i372_1826 i372_1828 i372_1829 i372_1830 (by decide) rfl rfl hL (by omega) ?_
    refine CV (As := [.int (xs (i + 1)), .int (xs (i + 2))]) i372_1831 cal324 ob11 rfl (Nat.le_of_ble_eq_true rfl) (Nat.le_of_ble_eq_true rfl) (show 1 < 60 by decide) (c324 m1) ?_
    refine Ev.istore H372 i372_1834 (by decide) (lv2 := (6, .int v) :: (5, .int k0) :: lvB i) rfl ?_
    exact TLI i372_1836 i372_1837 i372_1840 i372_1842 i372_1847 i372_1849 i372_1852 i372_1853 i372_1854 i372_1855 i372_1857 i372_1858 i372_1859 i372_1864 (by decide) (by decide) (by decide) (by decide) hc hv k
  have h0 : (0 : Int32).toNatClampNeg = 0 := by decide
  rcases z_odds hG (xs (i + 1)) (xs (i + 2)) with ⟨v, s1, z1, z2, z3⟩ | ⟨x, u, w, c, s1, z1, z2, z4, z5, z6, z3⟩
  · obtain ⟨t, m1, m2, m3, m4⟩ := z3 (sL s1 524 0 v.toInt64) sL_1
    refine ⟨t, G_up m4 (by omega), CN_e (by rw [m2.1, sL_22, z2]), fun r k => walk 0 v (sL s1 524 0 v.toInt64) t r ?_ m1 m3 (fun _ => by rw [m2.2 524 (by omega), sLz_at]) k⟩
    unfold q366
    rw [z1]
    show gA 1 (nI 0) _ = _
    rw [gA_ok (show 0 < 1 by decide) (by omega), sp_e, h0]; rfl
  · obtain ⟨v, t, m1, m2, m3, m4⟩ := z3 (sX s1) rfl
    have hcz : ¬ nI c = 0 := by rw [nI_lit, nI_eqv (by omega) (by omega)]; omega
    refine ⟨t, G_up m4 (by omega), ?_, fun r k => walk (nI c) v (sX s1) t r ?_ m1 m3 (fun q => absurd q hcz) k⟩
    · unfold CN
      rw [m2.1]
      show s1.2.2.2.1 + 1 ≤ _ ∧ s1.2.2.2.2 + 6 ≤ _
      rw [z2]; exact ⟨Nat.le_refl _, Nat.le_refl _⟩
    · unfold q366
      rw [z1]
      exact bC_x z4 z6
set_option maxRecDepth 100000 in
theorem i372_1867 : mm_cd 372 1867 = some (.aload_n 1, 1, 0, 0) := rfl
set_option maxRecDepth 100000 in
theorem i372_1868 : mm_cd 372 1868 = some (.aload_n 0, 1, 0, 0) := rfl
set_option maxRecDepth 100000 in
theorem i372_1869 : mm_cd 372 1869 = some (.iload 4, 2, 0, 0) := rfl
set_option maxRecDepth 100000 in
theorem i372_1871 : mm_cd 372 1871 = some (.iconst 1, 1, 0, 0) := rfl
set_option maxRecDepth 100000 in
theorem i372_1872 : mm_cd 372 1872 = some (.iadd, 1, 0, 0) := rfl
set_option maxRecDepth 100000 in
theorem i372_1873 : mm_cd 372 1873 = some (.iaload, 1, 0, 0) := rfl
set_option maxRecDepth 100000 in
theorem i372_1874 : mm_cd 372 1874 = some (.aload_n 3, 1, 0, 0) := rfl
set_option maxRecDepth 100000 in
theorem i372_1875 : mm_cd 372 1875 = some (.invokestatic 231, 3, 0, 367) := rfl
set_option maxRecDepth 100000 in
theorem i372_1878 : mm_cd 372 1878 = some (.istore 5, 2, 0, 0) := rfl
set_option maxRecDepth 100000 in
theorem i372_1880 : mm_cd 372 1880 = some (.aload_n 2, 1, 0, 0) := rfl
set_option maxRecDepth 100000 in
theorem i372_1881 : mm_cd 372 1881 = some (.aload_n 0, 1, 0, 0) := rfl
set_option maxRecDepth 100000 in
theorem i372_1882 : mm_cd 372 1882 = some (.iload 4, 2, 0, 0) := rfl
set_option maxRecDepth 100000 in
theorem i372_1884 : mm_cd 372 1884 = some (.iconst 1, 1, 0, 0) := rfl
set_option maxRecDepth 100000 in
theorem i372_1885 : mm_cd 372 1885 = some (.iadd, 1, 0, 0) := rfl
set_option maxRecDepth 100000 in
theorem i372_1886 : mm_cd 372 1886 = some (.iaload, 1, 0, 0) := rfl
set_option maxRecDepth 100000 in
theorem i372_1887 : mm_cd 372 1887 = some (.invokevirtual 233, 3, 0, 326) := rfl
set_option maxRecDepth 100000 in
theorem i372_1890 : mm_cd 372 1890 = some (.istore 6, 2, 0, 0) := rfl
set_option maxRecDepth 100000 in
theorem i372_1892 : mm_cd 372 1892 = some (.aload_n 2, 1, 0, 0) := rfl
set_option maxRecDepth 100000 in
theorem i372_1893 : mm_cd 372 1893 = some (.invokevirtual 130, 3, 0, 187) := rfl
set_option maxRecDepth 100000 in
theorem i372_1896 : mm_cd 372 1896 = some (.iload 5, 2, 0, 0) := rfl
set_option maxRecDepth 100000 in
theorem i372_1898 : mm_cd 372 1898 = some (.if_icmp .eq 5, 3, 0, 0) := rfl
set_option maxRecDepth 100000 in
theorem i372_1901 : mm_cd 372 1901 = some (.iconst 0, 1, 0, 0) := rfl
set_option maxRecDepth 100000 in
theorem i372_1902 : mm_cd 372 1902 = some (.ireturn, 1, 0, 0) := rfl
set_option maxRecDepth 100000 in
theorem i372_1903 : mm_cd 372 1903 = some (.iload 5, 2, 0, 0) := rfl
set_option maxRecDepth 100000 in
theorem i372_1905 : mm_cd 372 1905 = some (.ifCond .ne 15, 3, 0, 0) := rfl
set_option maxRecDepth 100000 in
theorem i372_1908 : mm_cd 372 1908 = some (.aload_n 3, 1, 0, 0) := rfl
set_option maxRecDepth 100000 in
theorem i372_1909 : mm_cd 372 1909 = some (.iconst 0, 1, 0, 0) := rfl
set_option maxRecDepth 100000 in
theorem i372_1910 : mm_cd 372 1910 = some (.laload, 1, 0, 0) := rfl
set_option maxRecDepth 100000 in
theorem i372_1911 : mm_cd 372 1911 = some (.iload 6, 2, 0, 0) := rfl
set_option maxRecDepth 100000 in
theorem i372_1913 : mm_cd 372 1913 = some (.i2l, 1, 0, 0) := rfl
set_option maxRecDepth 100000 in
theorem i372_1914 : mm_cd 372 1914 = some (.lcmp, 1, 0, 0) := rfl
set_option maxRecDepth 100000 in
theorem i372_1915 : mm_cd 372 1915 = some (.ifCond .eq 5, 3, 0, 0) := rfl
set_option maxRecDepth 100000 in
theorem i372_1918 : mm_cd 372 1918 = some (.iconst 0, 1, 0, 0) := rfl
set_option maxRecDepth 100000 in
theorem i372_1919 : mm_cd 372 1919 = some (.ireturn, 1, 0, 0) := rfl
set_option maxRecDepth 100000 in
theorem i372_1920 : mm_cd 372 1920 = some (.goto 462, 3, 0, 0) := rfl
theorem K32 {L : Nat} {xs : Nat → Int32} {i B : Nat} {s : mS} (hL : L ≤ 3072) (hi : i + 6 ≤ L) (hG : G B s) (hB : B + 60 < 400000000) : KQ L xs i B 1867 s := by
  have walk : ∀ (k0 v : Int32) (s1 t : mS) (r : mQ), q367 (xs (i + 1)) s = some (.inl (some k0), s1) → q326 (xs (i + 1)) s1 = some (.inl (some v), t) → t.1 512 0 = k0 → (k0 = 0 → t.2.1 524 0 = v.toInt64) → Ev L xs 60 372 2382 (lvB i) [] (hp t) (hr r) → Ev L xs 60 372 1867 (lvB i) [] (hp s) (hr r) := fun k0 v s1 t r z1 m1 hc hv k => by
    refine Ev.aload_n H372 i372_1867 rfl ?_
    refine LD (j := 1) i372_1868 i372_1869 i372_1871 i372_1872 i372_1873 (by decide) rfl rfl hL (by omega) ?_
    refine Ev.aload_n H372 i372_1874 rfl ?_
    refine CSt (As := [.ref 0, .int (xs (i + 1)), .ref 524]) i372_1875 cal367 rfl (Nat.le_of_ble_eq_true rfl) (Nat.le_of_ble_eq_true rfl) (show 2 < 60 by decide) (c367 z1) ?_
    refine Ev.istore H372 i372_1878 (by decide) (lv2 := (5, .int k0) :: lvB i) rfl ?_
    refine Ev.aload_n H372 i372_1880 rfl ?_
    refine LD (j := 1) i372_1881 i372_1882 i372_1884 i372_1885 i372_1886 (by decide) rfl rfl hL (by omega) ?_
    refine CV (As := [.int (xs (i + 1))]) i372_1887 cal326 ob11 rfl (Nat.le_of_ble_eq_true rfl) (Nat.le_of_ble_eq_true rfl) (show 4 < 60 by decide) (c326 m1) ?_
    refine Ev.istore H372 i372_1890 (by decide) (lv2 := (6, .int v) :: (5, .int k0) :: lvB i) rfl ?_
    exact TLI i372_1892 i372_1893 i372_1896 i372_1898 i372_1903 i372_1905 i372_1908 i372_1909 i372_1910 i372_1911 i372_1913 i372_1914 i372_1915 i372_1920 (by decide) (by decide) (by decide) (by decide) hc hv k
  have h0 : (0 : Int32).toNatClampNeg = 0 := by decide
  rcases z_most hG (by omega) (xs (i + 1)) with ⟨v, s1, z1, z2, z3⟩ | ⟨x, u, w, c, s1, z1, z2, z4, z5, z6, z3⟩
  · obtain ⟨t, m1, m2, m3, m4⟩ := z3 (sL s1 524 0 v.toInt64) sL_1
    refine ⟨t, G_up m4 (by omega), CN_e (by rw [m2.1, sL_22, z2]), fun r k => walk 0 v (sL s1 524 0 v.toInt64) t r ?_ m1 m3 (fun _ => by rw [m2.2 524 (by omega), sLz_at]) k⟩
    unfold q367
    rw [z1]
    show gA 1 (nI 0) _ = _
    rw [gA_ok (show 0 < 1 by decide) (by omega), sp_e, h0]; rfl
  · obtain ⟨v, t, m1, m2, m3, m4⟩ := z3 (sX s1) rfl
    have hcz : ¬ nI c = 0 := by rw [nI_lit, nI_eqv (by omega) (by omega)]; omega
    refine ⟨t, G_up m4 (by omega), ?_, fun r k => walk (nI c) v (sX s1) t r ?_ m1 m3 (fun q => absurd q hcz) k⟩
    · unfold CN
      rw [m2.1]
      show s1.2.2.2.1 + 1 ≤ _ ∧ s1.2.2.2.2 + 6 ≤ _
      rw [z2]; exact ⟨Nat.le_refl _, Nat.le_refl _⟩
    · unfold q367
      rw [z1]
      exact bC_x z4 z6
set_option maxRecDepth 100000 in
theorem i372_1923 : mm_cd 372 1923 = some (.aload_n 1, 1, 0, 0) := rfl
set_option maxRecDepth 100000 in
theorem i372_1924 : mm_cd 372 1924 = some (.invokevirtual 234, 3, 0, 169) := rfl
set_option maxRecDepth 100000 in
theorem i372_1927 : mm_cd 372 1927 = some (.aload_n 2, 1, 0, 0) := rfl
set_option maxRecDepth 100000 in
theorem i372_1928 : mm_cd 372 1928 = some (.invokevirtual 237, 3, 0, 327) := rfl
set_option maxRecDepth 100000 in
theorem i372_1931 : mm_cd 372 1931 = some (.if_icmp .eq 451, 3, 0, 0) := rfl
set_option maxRecDepth 100000 in
theorem i372_1934 : mm_cd 372 1934 = some (.iconst 0, 1, 0, 0) := rfl
set_option maxRecDepth 100000 in
theorem i372_1935 : mm_cd 372 1935 = some (.ireturn, 1, 0, 0) := rfl
theorem K33 {L : Nat} {xs : Nat → Int32} {i B : Nat} {s : mS} (hL : L ≤ 3072) (hi : i + 6 ≤ L) (hG : G B s) (hB : B + 60 < 400000000) : KQ L xs i B 1923 s := by
  obtain ⟨v, s1, z1, z2, z3⟩ := z_running hG
  obtain ⟨t, m1, m2, m3⟩ := z3 s1 rfl
  refine ⟨t, G_up m3 (by omega), CN_e (by rw [m2.1, z2]), fun r k => ?_⟩
  refine Ev.aload_n H372 i372_1923 rfl ?_
  refine CV (As := []) i372_1924 cal169 ob10 rfl (Nat.le_of_ble_eq_true rfl) (Nat.le_of_ble_eq_true rfl) (show 0 < 60 by decide) (c169 z1) ?_
  refine Ev.aload_n H372 i372_1927 rfl ?_
  refine CV (As := []) i372_1928 cal327 ob11 rfl (Nat.le_of_ble_eq_true rfl) (Nat.le_of_ble_eq_true rfl) (show 3 < 60 by decide) (c327 m1) ?_
  exact Ev.ic_eq H372 i372_1931 (by decide) (fun _ => k) (fun e => absurd rfl e)
set_option maxRecDepth 100000 in
theorem i372_1936 : mm_cd 372 1936 = some (.aload_n 1, 1, 0, 0) := rfl
set_option maxRecDepth 100000 in
theorem i372_1937 : mm_cd 372 1937 = some (.invokevirtual 238, 3, 0, 170) := rfl
set_option maxRecDepth 100000 in
theorem i372_1940 : mm_cd 372 1940 = some (.aload_n 2, 1, 0, 0) := rfl
set_option maxRecDepth 100000 in
theorem i372_1941 : mm_cd 372 1941 = some (.invokevirtual 241, 3, 0, 328) := rfl
set_option maxRecDepth 100000 in
theorem i372_1944 : mm_cd 372 1944 = some (.if_icmp .eq 438, 3, 0, 0) := rfl
set_option maxRecDepth 100000 in
theorem i372_1947 : mm_cd 372 1947 = some (.iconst 0, 1, 0, 0) := rfl
set_option maxRecDepth 100000 in
theorem i372_1948 : mm_cd 372 1948 = some (.ireturn, 1, 0, 0) := rfl
theorem K34 {L : Nat} {xs : Nat → Int32} {i B : Nat} {s : mS} (hL : L ≤ 3072) (hi : i + 6 ≤ L) (hG : G B s) (hB : B + 60 < 400000000) : KQ L xs i B 1936 s := by
  obtain ⟨v, s1, z1, z2, z3⟩ := z_finished hG
  obtain ⟨t, m1, m2, m3⟩ := z3 s1 rfl
  refine ⟨t, G_up m3 (by omega), CN_e (by rw [m2.1, z2]), fun r k => ?_⟩
  refine Ev.aload_n H372 i372_1936 rfl ?_
  refine CV (As := []) i372_1937 cal170 ob10 rfl (Nat.le_of_ble_eq_true rfl) (Nat.le_of_ble_eq_true rfl) (show 0 < 60 by decide) (c170 z1) ?_
  refine Ev.aload_n H372 i372_1940 rfl ?_
  refine CV (As := []) i372_1941 cal328 ob11 rfl (Nat.le_of_ble_eq_true rfl) (Nat.le_of_ble_eq_true rfl) (show 3 < 60 by decide) (c328 m1) ?_
  exact Ev.ic_eq H372 i372_1944 (by decide) (fun _ => k) (fun e => absurd rfl e)
