theorem fl_X12_225 : Cond.fieldLink RX12 225 "CloneVolumesModel" "numberAsked" "[C" ∈ lw_gd := zm (List.mem_of_getElem? (i := 1633) (by decide +kernel)) rfl
theorem fl_X12_228 : Cond.fieldLink RX12 228 "CloneVolumesModel" "countAsked" "[C" ∈ lw_gd := zm (List.mem_of_getElem? (i := 1634) (by decide +kernel)) rfl
theorem fl_X12_231 : Cond.fieldLink RX12 231 "CloneVolumesModel" "freshAsked" "[C" ∈ lw_gd := zm (List.mem_of_getElem? (i := 1635) (by decide +kernel)) rfl
theorem fl_X12_234 : Cond.fieldLink RX12 234 "CloneVolumesModel" "savedAsked" "[C" ∈ lw_gd := zm (List.mem_of_getElem? (i := 1636) (by decide +kernel)) rfl
theorem fl_X12_237 : Cond.fieldLink RX12 237 "CloneVolumesModel" "refsAsked" "[C" ∈ lw_gd := zm (List.mem_of_getElem? (i := 1637) (by decide +kernel)) rfl
theorem fl_X12_240 : Cond.fieldLink RX12 240 "CloneVolumesModel" "keyAsked" "[C" ∈ lw_gd := zm (List.mem_of_getElem? (i := 1638) (by decide +kernel)) rfl
theorem fl_X12_243 : Cond.fieldLink RX12 243 "CloneVolumesModel" "qCodes" "[I" ∈ lw_gd := zm (List.mem_of_getElem? (i := 1639) (by decide +kernel)) rfl
theorem fl_X12_246 : Cond.fieldLink RX12 246 "CloneVolumesModel" "qWait" "[I" ∈ lw_gd := zm (List.mem_of_getElem? (i := 1641) (by decide +kernel)) rfl
theorem fl_X12_249 : Cond.fieldLink RX12 249 "CloneVolumesModel" "qPile" "[J" ∈ lw_gd := zm (List.mem_of_getElem? (i := 1645) (by decide +kernel)) rfl
theorem fl_X12_252 : Cond.fieldLink RX12 252 "CloneVolumesModel" "octet" "[I" ∈ lw_gd := zm (List.mem_of_getElem? (i := 1649) (by decide +kernel)) rfl
theorem fl_X12_255 : Cond.fieldLink RX12 255 "CloneVolumesModel" "laid" "[I" ∈ lw_gd := zm (List.mem_of_getElem? (i := 1651) (by decide +kernel)) rfl
theorem fl_X12_258 : Cond.fieldLink RX12 258 "CloneVolumesModel" "recount" "[I" ∈ lw_gd := zm (List.mem_of_getElem? (i := 1653) (by decide +kernel)) rfl
theorem dX12_init_1485 : decode cX12_init 1485 = .ok (.aload_n 0, 1) := by decide +kernel
theorem dX12_init_1486 : decode cX12_init 1486 = .ok (.bipush 6, 2) := by decide +kernel
theorem dX12_init_1488 : decode cX12_init 1488 = .ok (.newarray .char, 2) := by decide +kernel
theorem dX12_init_1490 : decode cX12_init 1490 = .ok (.dup, 1) := by decide +kernel
theorem dX12_init_1491 : decode cX12_init 1491 = .ok (.iconst 0, 1) := by decide +kernel
theorem dX12_init_1492 : decode cX12_init 1492 = .ok (.bipush 110, 2) := by decide +kernel
theorem dX12_init_1494 : decode cX12_init 1494 = .ok (.castore, 1) := by decide +kernel
theorem dX12_init_1495 : decode cX12_init 1495 = .ok (.dup, 1) := by decide +kernel
theorem dX12_init_1496 : decode cX12_init 1496 = .ok (.iconst 1, 1) := by decide +kernel
theorem dX12_init_1497 : decode cX12_init 1497 = .ok (.bipush 117, 2) := by decide +kernel
theorem dX12_init_1499 : decode cX12_init 1499 = .ok (.castore, 1) := by decide +kernel
theorem dX12_init_1500 : decode cX12_init 1500 = .ok (.dup, 1) := by decide +kernel
theorem dX12_init_1501 : decode cX12_init 1501 = .ok (.iconst 2, 1) := by decide +kernel
theorem dX12_init_1502 : decode cX12_init 1502 = .ok (.bipush 109, 2) := by decide +kernel
theorem dX12_init_1504 : decode cX12_init 1504 = .ok (.castore, 1) := by decide +kernel
theorem dX12_init_1505 : decode cX12_init 1505 = .ok (.dup, 1) := by decide +kernel
theorem dX12_init_1506 : decode cX12_init 1506 = .ok (.iconst 3, 1) := by decide +kernel
theorem dX12_init_1507 : decode cX12_init 1507 = .ok (.bipush 98, 2) := by decide +kernel
theorem dX12_init_1509 : decode cX12_init 1509 = .ok (.castore, 1) := by decide +kernel
theorem dX12_init_1510 : decode cX12_init 1510 = .ok (.dup, 1) := by decide +kernel
theorem dX12_init_1511 : decode cX12_init 1511 = .ok (.iconst 4, 1) := by decide +kernel
theorem dX12_init_1512 : decode cX12_init 1512 = .ok (.bipush 101, 2) := by decide +kernel
theorem dX12_init_1514 : decode cX12_init 1514 = .ok (.castore, 1) := by decide +kernel
theorem dX12_init_1515 : decode cX12_init 1515 = .ok (.dup, 1) := by decide +kernel
theorem dX12_init_1516 : decode cX12_init 1516 = .ok (.iconst 5, 1) := by decide +kernel
theorem dX12_init_1517 : decode cX12_init 1517 = .ok (.bipush 114, 2) := by decide +kernel
theorem dX12_init_1519 : decode cX12_init 1519 = .ok (.castore, 1) := by decide +kernel
theorem dX12_init_1520 : decode cX12_init 1520 = .ok (.putfield 225, 3) := by decide +kernel
theorem dX12_init_1523 : decode cX12_init 1523 = .ok (.aload_n 0, 1) := by decide +kernel
theorem dX12_init_1524 : decode cX12_init 1524 = .ok (.iconst 5, 1) := by decide +kernel
theorem dX12_init_1525 : decode cX12_init 1525 = .ok (.newarray .char, 2) := by decide +kernel
theorem dX12_init_1527 : decode cX12_init 1527 = .ok (.dup, 1) := by decide +kernel
theorem dX12_init_1528 : decode cX12_init 1528 = .ok (.iconst 0, 1) := by decide +kernel
theorem dX12_init_1529 : decode cX12_init 1529 = .ok (.bipush 99, 2) := by decide +kernel
theorem dX12_init_1531 : decode cX12_init 1531 = .ok (.castore, 1) := by decide +kernel
theorem dX12_init_1532 : decode cX12_init 1532 = .ok (.dup, 1) := by decide +kernel
theorem dX12_init_1533 : decode cX12_init 1533 = .ok (.iconst 1, 1) := by decide +kernel
theorem dX12_init_1534 : decode cX12_init 1534 = .ok (.bipush 111, 2) := by decide +kernel
theorem dX12_init_1536 : decode cX12_init 1536 = .ok (.castore, 1) := by decide +kernel
theorem dX12_init_1537 : decode cX12_init 1537 = .ok (.dup, 1) := by decide +kernel
theorem dX12_init_1538 : decode cX12_init 1538 = .ok (.iconst 2, 1) := by decide +kernel
theorem dX12_init_1539 : decode cX12_init 1539 = .ok (.bipush 117, 2) := by decide +kernel
theorem dX12_init_1541 : decode cX12_init 1541 = .ok (.castore, 1) := by decide +kernel
theorem dX12_init_1542 : decode cX12_init 1542 = .ok (.dup, 1) := by decide +kernel
theorem dX12_init_1543 : decode cX12_init 1543 = .ok (.iconst 3, 1) := by decide +kernel
theorem dX12_init_1544 : decode cX12_init 1544 = .ok (.bipush 110, 2) := by decide +kernel
theorem dX12_init_1546 : decode cX12_init 1546 = .ok (.castore, 1) := by decide +kernel
theorem dX12_init_1547 : decode cX12_init 1547 = .ok (.dup, 1) := by decide +kernel
theorem dX12_init_1548 : decode cX12_init 1548 = .ok (.iconst 4, 1) := by decide +kernel
theorem dX12_init_1549 : decode cX12_init 1549 = .ok (.bipush 116, 2) := by decide +kernel
theorem dX12_init_1551 : decode cX12_init 1551 = .ok (.castore, 1) := by decide +kernel
theorem dX12_init_1552 : decode cX12_init 1552 = .ok (.putfield 228, 3) := by decide +kernel
theorem dX12_init_1555 : decode cX12_init 1555 = .ok (.aload_n 0, 1) := by decide +kernel
theorem dX12_init_1556 : decode cX12_init 1556 = .ok (.iconst 5, 1) := by decide +kernel
theorem dX12_init_1557 : decode cX12_init 1557 = .ok (.newarray .char, 2) := by decide +kernel
theorem dX12_init_1559 : decode cX12_init 1559 = .ok (.dup, 1) := by decide +kernel
theorem dX12_init_1560 : decode cX12_init 1560 = .ok (.iconst 0, 1) := by decide +kernel
theorem dX12_init_1561 : decode cX12_init 1561 = .ok (.bipush 102, 2) := by decide +kernel
theorem dX12_init_1563 : decode cX12_init 1563 = .ok (.castore, 1) := by decide +kernel
theorem dX12_init_1564 : decode cX12_init 1564 = .ok (.dup, 1) := by decide +kernel
theorem dX12_init_1565 : decode cX12_init 1565 = .ok (.iconst 1, 1) := by decide +kernel
theorem dX12_init_1566 : decode cX12_init 1566 = .ok (.bipush 114, 2) := by decide +kernel
theorem dX12_init_1568 : decode cX12_init 1568 = .ok (.castore, 1) := by decide +kernel
theorem dX12_init_1569 : decode cX12_init 1569 = .ok (.dup, 1) := by decide +kernel
theorem dX12_init_1570 : decode cX12_init 1570 = .ok (.iconst 2, 1) := by decide +kernel
theorem dX12_init_1571 : decode cX12_init 1571 = .ok (.bipush 101, 2) := by decide +kernel
theorem dX12_init_1573 : decode cX12_init 1573 = .ok (.castore, 1) := by decide +kernel
theorem dX12_init_1574 : decode cX12_init 1574 = .ok (.dup, 1) := by decide +kernel
theorem dX12_init_1575 : decode cX12_init 1575 = .ok (.iconst 3, 1) := by decide +kernel
theorem dX12_init_1576 : decode cX12_init 1576 = .ok (.bipush 115, 2) := by decide +kernel
theorem dX12_init_1578 : decode cX12_init 1578 = .ok (.castore, 1) := by decide +kernel
theorem dX12_init_1579 : decode cX12_init 1579 = .ok (.dup, 1) := by decide +kernel
theorem dX12_init_1580 : decode cX12_init 1580 = .ok (.iconst 4, 1) := by decide +kernel
theorem dX12_init_1581 : decode cX12_init 1581 = .ok (.bipush 104, 2) := by decide +kernel
theorem dX12_init_1583 : decode cX12_init 1583 = .ok (.castore, 1) := by decide +kernel
theorem dX12_init_1584 : decode cX12_init 1584 = .ok (.putfield 231, 3) := by decide +kernel
theorem dX12_init_1587 : decode cX12_init 1587 = .ok (.aload_n 0, 1) := by decide +kernel
theorem dX12_init_1588 : decode cX12_init 1588 = .ok (.iconst 5, 1) := by decide +kernel
theorem dX12_init_1589 : decode cX12_init 1589 = .ok (.newarray .char, 2) := by decide +kernel
theorem dX12_init_1591 : decode cX12_init 1591 = .ok (.dup, 1) := by decide +kernel
theorem dX12_init_1592 : decode cX12_init 1592 = .ok (.iconst 0, 1) := by decide +kernel
theorem dX12_init_1593 : decode cX12_init 1593 = .ok (.bipush 115, 2) := by decide +kernel
theorem dX12_init_1595 : decode cX12_init 1595 = .ok (.castore, 1) := by decide +kernel
theorem dX12_init_1596 : decode cX12_init 1596 = .ok (.dup, 1) := by decide +kernel
theorem dX12_init_1597 : decode cX12_init 1597 = .ok (.iconst 1, 1) := by decide +kernel
theorem dX12_init_1598 : decode cX12_init 1598 = .ok (.bipush 97, 2) := by decide +kernel
theorem dX12_init_1600 : decode cX12_init 1600 = .ok (.castore, 1) := by decide +kernel
theorem dX12_init_1601 : decode cX12_init 1601 = .ok (.dup, 1) := by decide +kernel
theorem dX12_init_1602 : decode cX12_init 1602 = .ok (.iconst 2, 1) := by decide +kernel
theorem dX12_init_1603 : decode cX12_init 1603 = .ok (.bipush 118, 2) := by decide +kernel
theorem dX12_init_1605 : decode cX12_init 1605 = .ok (.castore, 1) := by decide +kernel
theorem dX12_init_1606 : decode cX12_init 1606 = .ok (.dup, 1) := by decide +kernel
theorem dX12_init_1607 : decode cX12_init 1607 = .ok (.iconst 3, 1) := by decide +kernel
theorem dX12_init_1608 : decode cX12_init 1608 = .ok (.bipush 101, 2) := by decide +kernel
theorem dX12_init_1610 : decode cX12_init 1610 = .ok (.castore, 1) := by decide +kernel
theorem dX12_init_1611 : decode cX12_init 1611 = .ok (.dup, 1) := by decide +kernel
theorem dX12_init_1612 : decode cX12_init 1612 = .ok (.iconst 4, 1) := by decide +kernel
theorem dX12_init_1613 : decode cX12_init 1613 = .ok (.bipush 100, 2) := by decide +kernel
theorem dX12_init_1615 : decode cX12_init 1615 = .ok (.castore, 1) := by decide +kernel
theorem dX12_init_1616 : decode cX12_init 1616 = .ok (.putfield 234, 3) := by decide +kernel
theorem dX12_init_1619 : decode cX12_init 1619 = .ok (.aload_n 0, 1) := by decide +kernel
theorem dX12_init_1620 : decode cX12_init 1620 = .ok (.iconst 4, 1) := by decide +kernel
theorem dX12_init_1621 : decode cX12_init 1621 = .ok (.newarray .char, 2) := by decide +kernel
theorem dX12_init_1623 : decode cX12_init 1623 = .ok (.dup, 1) := by decide +kernel
theorem dX12_init_1624 : decode cX12_init 1624 = .ok (.iconst 0, 1) := by decide +kernel
theorem dX12_init_1625 : decode cX12_init 1625 = .ok (.bipush 114, 2) := by decide +kernel
theorem dX12_init_1627 : decode cX12_init 1627 = .ok (.castore, 1) := by decide +kernel
theorem dX12_init_1628 : decode cX12_init 1628 = .ok (.dup, 1) := by decide +kernel
theorem dX12_init_1629 : decode cX12_init 1629 = .ok (.iconst 1, 1) := by decide +kernel
theorem dX12_init_1630 : decode cX12_init 1630 = .ok (.bipush 101, 2) := by decide +kernel
theorem dX12_init_1632 : decode cX12_init 1632 = .ok (.castore, 1) := by decide +kernel
theorem dX12_init_1633 : decode cX12_init 1633 = .ok (.dup, 1) := by decide +kernel
theorem dX12_init_1634 : decode cX12_init 1634 = .ok (.iconst 2, 1) := by decide +kernel
theorem dX12_init_1635 : decode cX12_init 1635 = .ok (.bipush 102, 2) := by decide +kernel
theorem dX12_init_1637 : decode cX12_init 1637 = .ok (.castore, 1) := by decide +kernel
theorem dX12_init_1638 : decode cX12_init 1638 = .ok (.dup, 1) := by decide +kernel
theorem dX12_init_1639 : decode cX12_init 1639 = .ok (.iconst 3, 1) := by decide +kernel
theorem dX12_init_1640 : decode cX12_init 1640 = .ok (.bipush 115, 2) := by decide +kernel
theorem dX12_init_1642 : decode cX12_init 1642 = .ok (.castore, 1) := by decide +kernel
theorem dX12_init_1643 : decode cX12_init 1643 = .ok (.putfield 237, 3) := by decide +kernel
theorem dX12_init_1646 : decode cX12_init 1646 = .ok (.aload_n 0, 1) := by decide +kernel
theorem dX12_init_1647 : decode cX12_init 1647 = .ok (.iconst 3, 1) := by decide +kernel
theorem dX12_init_1648 : decode cX12_init 1648 = .ok (.newarray .char, 2) := by decide +kernel
theorem dX12_init_1650 : decode cX12_init 1650 = .ok (.dup, 1) := by decide +kernel
theorem dX12_init_1651 : decode cX12_init 1651 = .ok (.iconst 0, 1) := by decide +kernel
theorem dX12_init_1652 : decode cX12_init 1652 = .ok (.bipush 107, 2) := by decide +kernel
theorem dX12_init_1654 : decode cX12_init 1654 = .ok (.castore, 1) := by decide +kernel
theorem dX12_init_1655 : decode cX12_init 1655 = .ok (.dup, 1) := by decide +kernel
theorem dX12_init_1656 : decode cX12_init 1656 = .ok (.iconst 1, 1) := by decide +kernel
theorem dX12_init_1657 : decode cX12_init 1657 = .ok (.bipush 101, 2) := by decide +kernel
theorem dX12_init_1659 : decode cX12_init 1659 = .ok (.castore, 1) := by decide +kernel
theorem dX12_init_1660 : decode cX12_init 1660 = .ok (.dup, 1) := by decide +kernel
theorem dX12_init_1661 : decode cX12_init 1661 = .ok (.iconst 2, 1) := by decide +kernel
theorem dX12_init_1662 : decode cX12_init 1662 = .ok (.bipush 121, 2) := by decide +kernel
theorem dX12_init_1664 : decode cX12_init 1664 = .ok (.castore, 1) := by decide +kernel
theorem dX12_init_1665 : decode cX12_init 1665 = .ok (.putfield 240, 3) := by decide +kernel
theorem dX12_init_1668 : decode cX12_init 1668 = .ok (.aload_n 0, 1) := by decide +kernel
theorem dX12_init_1669 : decode cX12_init 1669 = .ok (.sipush 1700, 3) := by decide +kernel
theorem dX12_init_1672 : decode cX12_init 1672 = .ok (.newarray .int, 2) := by decide +kernel
theorem dX12_init_1674 : decode cX12_init 1674 = .ok (.putfield 243, 3) := by decide +kernel
theorem dX12_init_1677 : decode cX12_init 1677 = .ok (.aload_n 0, 1) := by decide +kernel
theorem dX12_init_1678 : decode cX12_init 1678 = .ok (.sipush 1700, 3) := by decide +kernel
theorem dX12_init_1681 : decode cX12_init 1681 = .ok (.newarray .int, 2) := by decide +kernel
theorem dX12_init_1683 : decode cX12_init 1683 = .ok (.putfield 246, 3) := by decide +kernel
theorem dX12_init_1686 : decode cX12_init 1686 = .ok (.aload_n 0, 1) := by decide +kernel
theorem dX12_init_1687 : decode cX12_init 1687 = .ok (.sipush 1700, 3) := by decide +kernel
theorem dX12_init_1690 : decode cX12_init 1690 = .ok (.newarray .long, 2) := by decide +kernel
theorem dX12_init_1692 : decode cX12_init 1692 = .ok (.putfield 249, 3) := by decide +kernel
theorem dX12_init_1695 : decode cX12_init 1695 = .ok (.aload_n 0, 1) := by decide +kernel
theorem dX12_init_1696 : decode cX12_init 1696 = .ok (.sipush 1364, 3) := by decide +kernel
theorem dX12_init_1699 : decode cX12_init 1699 = .ok (.newarray .int, 2) := by decide +kernel
theorem dX12_init_1701 : decode cX12_init 1701 = .ok (.putfield 252, 3) := by decide +kernel
theorem dX12_init_1704 : decode cX12_init 1704 = .ok (.aload_n 0, 1) := by decide +kernel
theorem dX12_init_1705 : decode cX12_init 1705 = .ok (.sipush 785, 3) := by decide +kernel
theorem dX12_init_1708 : decode cX12_init 1708 = .ok (.newarray .int, 2) := by decide +kernel
theorem dX12_init_1710 : decode cX12_init 1710 = .ok (.putfield 255, 3) := by decide +kernel
theorem dX12_init_1713 : decode cX12_init 1713 = .ok (.aload_n 0, 1) := by decide +kernel
theorem dX12_init_1714 : decode cX12_init 1714 = .ok (.bipush 48, 2) := by decide +kernel
theorem dX12_init_1716 : decode cX12_init 1716 = .ok (.newarray .int, 2) := by decide +kernel
theorem dX12_init_1718 : decode cX12_init 1718 = .ok (.putfield 258, 3) := by decide +kernel
set_option maxHeartbeats 4000000 in
set_option maxRecDepth 100000 in
theorem cM_19 {p : Program} {l : Launch} {e : Env} {R : Room} {s : State} {m : MethodId} {args : Array Value} {below : List Frame} {meth : Method} {c : Code} {Q : State → Prop} {D : va_G} {A : Nat → Prop} {ls : Array Slot} {h0 : Nat} {T : va_W} (hx : p.tables.exec = Jvm.exec) (hb : c.code = cX12_init) (ht : ∀ w ∈ lw_gd, w.before args s = true) (hown : s.vm.findClass RX12 = some m.cls) (hin : meth.name = "<init>") (hK : va_K D vwCl (TY D) s) (hA : ∀ q : Nat, s.heap.size ≤ q → A q) (hRc : 80 ≤ R.cells) (hRs : 35050 ≤ R.slots) (hl : lv_has ls 1 [(0, .ref h0)]) {fs : List Value} (hlen : fs.length = 116) {H : Heap} {locs : List Loc} (hP : va_P D vwCl ((h0, .inr (12, fs)) :: T) H) (hD : va_D A ((h0, .inr (12, fs)) :: T)) (hS : va_S A s.heap H locs)
    (kk : ∀ (q_141 : Nat) (q_139 : Nat) (fs' : List Value) (H : Heap) (locs : List Loc), fs' = ((fs.set 95 (.ref q_139)).set 96 (.ref q_141)) → va_P D vwCl ((h0, .inr (12, fs')) :: (q_141, .inl (D.1 14, 5, .inl (fun j => i2 (upZ (upZ (upZ (upZ (upZ (fun _ => 0) 0 99) 1 111) 2 117) 3 110) 4 116 j)))) :: (q_139, .inl (D.1 14, 6, .inl (fun j => i2 (upZ (upZ (upZ (upZ (upZ (upZ (fun _ => 0) 0 110) 1 117) 2 109) 3 98) 4 101) 5 114 j)))) :: T) H → va_D A ((h0, .inr (12, fs')) :: (q_141, .inl (D.1 14, 5, .inl (fun j => i2 (upZ (upZ (upZ (upZ (upZ (fun _ => 0) 0 99) 1 111) 2 117) 3 110) 4 116 j)))) :: (q_139, .inl (D.1 14, 6, .inl (fun j => i2 (upZ (upZ (upZ (upZ (upZ (upZ (fun _ => 0) 0 110) 1 117) 2 109) 3 98) 4 101) 5 114 j)))) :: T) → va_S A s.heap H locs → W p l e R s m args below meth c H locs 70 27736 Q (F0 m 1555 ls [])) : W p l e R s m args below meth c H locs 68 27725 Q (F0 m 1485 ls []) := by
  refine lv_aload_n hx hb dX12_init_1485 rfl (lv_at hl 0 rfl) ?_
  refine lv_bipush (v := 6) hx hb dX12_init_1486 (by decide) ?_
  refine va_newa (atype := .char) (a0 := (6, .inl (fun _ => 0))) (ty := .char) (N' := 6) hx hb (ht _ ac_char) rfl hK hP hD hS hA (fun _ => rfl) (by decide) (by decide) (by decide) (Nat.le_trans (Nat.le_of_ble_eq_true rfl) hRc) (Nat.le_trans (Nat.le_of_ble_eq_true rfl) hRs) dX12_init_1488 (fun q_139 cA H hK2 hP hD hS => ?_)
  obtain rfl := z_cls_char hK hK2
  refine W.widen (k := 69) (n := 27731) (Nat.le_of_ble_eq_true rfl) (Nat.le_of_ble_eq_true rfl) ?_
  obtain ⟨hP, hD⟩ := z_rot hP hD
  have hP : va_P D vwCl ((h0, .inr (12, fs)) :: (q_139, .inl (D.1 14, 6, .inl (fun _ => i2 0))) :: T) H := hP
  have hD : va_D A ((h0, .inr (12, fs)) :: (q_139, .inl (D.1 14, 6, .inl (fun _ => i2 0))) :: T) := hD
  refine lv_dup hx hb dX12_init_1490 rfl ?_
  refine lv_iconst (v := 0) hx hb dX12_init_1491 (by decide) ?_
  refine lv_bipush (v := 110) hx hb dX12_init_1492 (by decide) ?_
  refine va_cast hx hb hK hP hD hS 1 1 rfl rfl (z_in (by decide) (by decide)) dX12_init_1494 (fun H locs hP hD hS => ?_)
  rw [c_i2 (F := fun _ => 0) (k := Int32.toNatClampNeg 0) (c := vp_nar .char 110) (v := 110) (by decide)] at hP hD
  have hP : va_P D vwCl ((h0, .inr (12, fs)) :: (q_139, .inl (D.1 14, 6, .inl (fun j => i2 (upZ (fun _ => 0) 0 110 j)))) :: T) H := hP
  have hD : va_D A ((h0, .inr (12, fs)) :: (q_139, .inl (D.1 14, 6, .inl (fun j => i2 (upZ (fun _ => 0) 0 110 j)))) :: T) := hD
  refine lv_dup hx hb dX12_init_1495 rfl ?_
  refine lv_iconst (v := 1) hx hb dX12_init_1496 (by decide) ?_
  refine lv_bipush (v := 117) hx hb dX12_init_1497 (by decide) ?_
  refine va_cast hx hb hK hP hD hS 1 1 rfl rfl (z_in (by decide) (by decide)) dX12_init_1499 (fun H locs hP hD hS => ?_)
  rw [c_i2 (F := upZ (fun _ => 0) 0 110) (k := Int32.toNatClampNeg 1) (c := vp_nar .char 117) (v := 117) (by decide)] at hP hD
  have hP : va_P D vwCl ((h0, .inr (12, fs)) :: (q_139, .inl (D.1 14, 6, .inl (fun j => i2 (upZ (upZ (fun _ => 0) 0 110) 1 117 j)))) :: T) H := hP
  have hD : va_D A ((h0, .inr (12, fs)) :: (q_139, .inl (D.1 14, 6, .inl (fun j => i2 (upZ (upZ (fun _ => 0) 0 110) 1 117 j)))) :: T) := hD
  refine lv_dup hx hb dX12_init_1500 rfl ?_
  refine lv_iconst (v := 2) hx hb dX12_init_1501 (by decide) ?_
  refine lv_bipush (v := 109) hx hb dX12_init_1502 (by decide) ?_
  refine va_cast hx hb hK hP hD hS 1 1 rfl rfl (z_in (by decide) (by decide)) dX12_init_1504 (fun H locs hP hD hS => ?_)
  rw [c_i2 (F := upZ (upZ (fun _ => 0) 0 110) 1 117) (k := Int32.toNatClampNeg 2) (c := vp_nar .char 109) (v := 109) (by decide)] at hP hD
  have hP : va_P D vwCl ((h0, .inr (12, fs)) :: (q_139, .inl (D.1 14, 6, .inl (fun j => i2 (upZ (upZ (upZ (fun _ => 0) 0 110) 1 117) 2 109 j)))) :: T) H := hP
  have hD : va_D A ((h0, .inr (12, fs)) :: (q_139, .inl (D.1 14, 6, .inl (fun j => i2 (upZ (upZ (upZ (fun _ => 0) 0 110) 1 117) 2 109 j)))) :: T) := hD
  refine lv_dup hx hb dX12_init_1505 rfl ?_
  refine lv_iconst (v := 3) hx hb dX12_init_1506 (by decide) ?_
  refine lv_bipush (v := 98) hx hb dX12_init_1507 (by decide) ?_
  refine va_cast hx hb hK hP hD hS 1 1 rfl rfl (z_in (by decide) (by decide)) dX12_init_1509 (fun H locs hP hD hS => ?_)
  rw [c_i2 (F := upZ (upZ (upZ (fun _ => 0) 0 110) 1 117) 2 109) (k := Int32.toNatClampNeg 3) (c := vp_nar .char 98) (v := 98) (by decide)] at hP hD
  have hP : va_P D vwCl ((h0, .inr (12, fs)) :: (q_139, .inl (D.1 14, 6, .inl (fun j => i2 (upZ (upZ (upZ (upZ (fun _ => 0) 0 110) 1 117) 2 109) 3 98 j)))) :: T) H := hP
  have hD : va_D A ((h0, .inr (12, fs)) :: (q_139, .inl (D.1 14, 6, .inl (fun j => i2 (upZ (upZ (upZ (upZ (fun _ => 0) 0 110) 1 117) 2 109) 3 98 j)))) :: T) := hD
  refine lv_dup hx hb dX12_init_1510 rfl ?_
  refine lv_iconst (v := 4) hx hb dX12_init_1511 (by decide) ?_
  refine lv_bipush (v := 101) hx hb dX12_init_1512 (by decide) ?_
  refine va_cast hx hb hK hP hD hS 1 1 rfl rfl (z_in (by decide) (by decide)) dX12_init_1514 (fun H locs hP hD hS => ?_)
  rw [c_i2 (F := upZ (upZ (upZ (upZ (fun _ => 0) 0 110) 1 117) 2 109) 3 98) (k := Int32.toNatClampNeg 4) (c := vp_nar .char 101) (v := 101) (by decide)] at hP hD
  have hP : va_P D vwCl ((h0, .inr (12, fs)) :: (q_139, .inl (D.1 14, 6, .inl (fun j => i2 (upZ (upZ (upZ (upZ (upZ (fun _ => 0) 0 110) 1 117) 2 109) 3 98) 4 101 j)))) :: T) H := hP
  have hD : va_D A ((h0, .inr (12, fs)) :: (q_139, .inl (D.1 14, 6, .inl (fun j => i2 (upZ (upZ (upZ (upZ (upZ (fun _ => 0) 0 110) 1 117) 2 109) 3 98) 4 101 j)))) :: T) := hD
  refine lv_dup hx hb dX12_init_1515 rfl ?_
  refine lv_iconst (v := 5) hx hb dX12_init_1516 (by decide) ?_
  refine lv_bipush (v := 114) hx hb dX12_init_1517 (by decide) ?_
  refine va_cast hx hb hK hP hD hS 1 1 rfl rfl (z_in (by decide) (by decide)) dX12_init_1519 (fun H locs hP hD hS => ?_)
  rw [c_i2 (F := upZ (upZ (upZ (upZ (upZ (fun _ => 0) 0 110) 1 117) 2 109) 3 98) 4 101) (k := Int32.toNatClampNeg 5) (c := vp_nar .char 114) (v := 114) (by decide)] at hP hD
  have hP : va_P D vwCl ((h0, .inr (12, fs)) :: (q_139, .inl (D.1 14, 6, .inl (fun j => i2 (upZ (upZ (upZ (upZ (upZ (upZ (fun _ => 0) 0 110) 1 117) 2 109) 3 98) 4 101) 5 114 j)))) :: T) H := hP
  have hD : va_D A ((h0, .inr (12, fs)) :: (q_139, .inl (D.1 14, 6, .inl (fun j => i2 (upZ (upZ (upZ (upZ (upZ (upZ (fun _ => 0) 0 110) 1 117) 2 109) 3 98) 4 101) 5 114 j)))) :: T) := hD
  refine va_putF (D := D) (ci := 12) (v := .ref q_139) (ty := .array .char) (C := RX12) (T := TX12) (N := 116) hx hb ht inX12 tyX12 tyX12_ok nmX12 hown hK hP hD hS 0 rfl rfl 95 (by decide) (ht (.fieldLink RX12 225 "CloneVolumesModel" "numberAsked" "[C") fl_X12_225) (fun _ h9 => h9) rfl hin rfl (by decide +kernel) rfl rfl (by rw [hlen]; decide) dX12_init_1520 (fun H locs hP hD hS => ?_)
  have hP : va_P D vwCl ((h0, .inr (12, (fs.set 95 (.ref q_139)))) :: (q_139, .inl (D.1 14, 6, .inl (fun j => i2 (upZ (upZ (upZ (upZ (upZ (upZ (fun _ => 0) 0 110) 1 117) 2 109) 3 98) 4 101) 5 114 j)))) :: T) H := hP
  have hD : va_D A ((h0, .inr (12, (fs.set 95 (.ref q_139)))) :: (q_139, .inl (D.1 14, 6, .inl (fun j => i2 (upZ (upZ (upZ (upZ (upZ (upZ (fun _ => 0) 0 110) 1 117) 2 109) 3 98) 4 101) 5 114 j)))) :: T) := hD
  generalize hfs_140 : fs.set 95 (.ref q_139) = fs_140 at hP hD
  have hlen : fs_140.length = 116 := by rw [← hfs_140, List.length_set]; exact hlen
  have hP : va_P D vwCl ((h0, .inr (12, fs_140)) :: (q_139, .inl (D.1 14, 6, .inl (fun j => i2 (upZ (upZ (upZ (upZ (upZ (upZ (fun _ => 0) 0 110) 1 117) 2 109) 3 98) 4 101) 5 114 j)))) :: T) H := hP
  have hD : va_D A ((h0, .inr (12, fs_140)) :: (q_139, .inl (D.1 14, 6, .inl (fun j => i2 (upZ (upZ (upZ (upZ (upZ (upZ (fun _ => 0) 0 110) 1 117) 2 109) 3 98) 4 101) 5 114 j)))) :: T) := hD
  refine lv_aload_n hx hb dX12_init_1523 rfl (lv_at hl 0 rfl) ?_
  refine lv_iconst (v := 5) hx hb dX12_init_1524 (by decide) ?_
  refine va_newa (atype := .char) (a0 := (5, .inl (fun _ => 0))) (ty := .char) (N' := 5) hx hb (ht _ ac_char) rfl hK hP hD hS hA (fun _ => rfl) (by decide) (by decide) (by decide) (Nat.le_trans (Nat.le_of_ble_eq_true rfl) hRc) (Nat.le_trans (Nat.le_of_ble_eq_true rfl) hRs) dX12_init_1525 (fun q_141 cA H hK2 hP hD hS => ?_)
  obtain rfl := z_cls_char hK hK2
  refine W.widen (k := 70) (n := 27736) (Nat.le_of_ble_eq_true rfl) (Nat.le_of_ble_eq_true rfl) ?_
  obtain ⟨hP, hD⟩ := z_rot hP hD
  have hP : va_P D vwCl ((h0, .inr (12, fs_140)) :: (q_141, .inl (D.1 14, 5, .inl (fun _ => i2 0))) :: (q_139, .inl (D.1 14, 6, .inl (fun j => i2 (upZ (upZ (upZ (upZ (upZ (upZ (fun _ => 0) 0 110) 1 117) 2 109) 3 98) 4 101) 5 114 j)))) :: T) H := hP
  have hD : va_D A ((h0, .inr (12, fs_140)) :: (q_141, .inl (D.1 14, 5, .inl (fun _ => i2 0))) :: (q_139, .inl (D.1 14, 6, .inl (fun j => i2 (upZ (upZ (upZ (upZ (upZ (upZ (fun _ => 0) 0 110) 1 117) 2 109) 3 98) 4 101) 5 114 j)))) :: T) := hD
  refine lv_dup hx hb dX12_init_1527 rfl ?_
  refine lv_iconst (v := 0) hx hb dX12_init_1528 (by decide) ?_
  refine lv_bipush (v := 99) hx hb dX12_init_1529 (by decide) ?_
  refine va_cast hx hb hK hP hD hS 1 1 rfl rfl (z_in (by decide) (by decide)) dX12_init_1531 (fun H locs hP hD hS => ?_)
  rw [c_i2 (F := fun _ => 0) (k := Int32.toNatClampNeg 0) (c := vp_nar .char 99) (v := 99) (by decide)] at hP hD
  have hP : va_P D vwCl ((h0, .inr (12, fs_140)) :: (q_141, .inl (D.1 14, 5, .inl (fun j => i2 (upZ (fun _ => 0) 0 99 j)))) :: (q_139, .inl (D.1 14, 6, .inl (fun j => i2 (upZ (upZ (upZ (upZ (upZ (upZ (fun _ => 0) 0 110) 1 117) 2 109) 3 98) 4 101) 5 114 j)))) :: T) H := hP
  have hD : va_D A ((h0, .inr (12, fs_140)) :: (q_141, .inl (D.1 14, 5, .inl (fun j => i2 (upZ (fun _ => 0) 0 99 j)))) :: (q_139, .inl (D.1 14, 6, .inl (fun j => i2 (upZ (upZ (upZ (upZ (upZ (upZ (fun _ => 0) 0 110) 1 117) 2 109) 3 98) 4 101) 5 114 j)))) :: T) := hD
  refine lv_dup hx hb dX12_init_1532 rfl ?_
  refine lv_iconst (v := 1) hx hb dX12_init_1533 (by decide) ?_
  refine lv_bipush (v := 111) hx hb dX12_init_1534 (by decide) ?_
  refine va_cast hx hb hK hP hD hS 1 1 rfl rfl (z_in (by decide) (by decide)) dX12_init_1536 (fun H locs hP hD hS => ?_)
  rw [c_i2 (F := upZ (fun _ => 0) 0 99) (k := Int32.toNatClampNeg 1) (c := vp_nar .char 111) (v := 111) (by decide)] at hP hD
  have hP : va_P D vwCl ((h0, .inr (12, fs_140)) :: (q_141, .inl (D.1 14, 5, .inl (fun j => i2 (upZ (upZ (fun _ => 0) 0 99) 1 111 j)))) :: (q_139, .inl (D.1 14, 6, .inl (fun j => i2 (upZ (upZ (upZ (upZ (upZ (upZ (fun _ => 0) 0 110) 1 117) 2 109) 3 98) 4 101) 5 114 j)))) :: T) H := hP
  have hD : va_D A ((h0, .inr (12, fs_140)) :: (q_141, .inl (D.1 14, 5, .inl (fun j => i2 (upZ (upZ (fun _ => 0) 0 99) 1 111 j)))) :: (q_139, .inl (D.1 14, 6, .inl (fun j => i2 (upZ (upZ (upZ (upZ (upZ (upZ (fun _ => 0) 0 110) 1 117) 2 109) 3 98) 4 101) 5 114 j)))) :: T) := hD
  refine lv_dup hx hb dX12_init_1537 rfl ?_
  refine lv_iconst (v := 2) hx hb dX12_init_1538 (by decide) ?_
  refine lv_bipush (v := 117) hx hb dX12_init_1539 (by decide) ?_
  refine va_cast hx hb hK hP hD hS 1 1 rfl rfl (z_in (by decide) (by decide)) dX12_init_1541 (fun H locs hP hD hS => ?_)
  rw [c_i2 (F := upZ (upZ (fun _ => 0) 0 99) 1 111) (k := Int32.toNatClampNeg 2) (c := vp_nar .char 117) (v := 117) (by decide)] at hP hD
  have hP : va_P D vwCl ((h0, .inr (12, fs_140)) :: (q_141, .inl (D.1 14, 5, .inl (fun j => i2 (upZ (upZ (upZ (fun _ => 0) 0 99) 1 111) 2 117 j)))) :: (q_139, .inl (D.1 14, 6, .inl (fun j => i2 (upZ (upZ (upZ (upZ (upZ (upZ (fun _ => 0) 0 110) 1 117) 2 109) 3 98) 4 101) 5 114 j)))) :: T) H := hP
  have hD : va_D A ((h0, .inr (12, fs_140)) :: (q_141, .inl (D.1 14, 5, .inl (fun j => i2 (upZ (upZ (upZ (fun _ => 0) 0 99) 1 111) 2 117 j)))) :: (q_139, .inl (D.1 14, 6, .inl (fun j => i2 (upZ (upZ (upZ (upZ (upZ (upZ (fun _ => 0) 0 110) 1 117) 2 109) 3 98) 4 101) 5 114 j)))) :: T) := hD
  refine lv_dup hx hb dX12_init_1542 rfl ?_
  refine lv_iconst (v := 3) hx hb dX12_init_1543 (by decide) ?_
  refine lv_bipush (v := 110) hx hb dX12_init_1544 (by decide) ?_
  refine va_cast hx hb hK hP hD hS 1 1 rfl rfl (z_in (by decide) (by decide)) dX12_init_1546 (fun H locs hP hD hS => ?_)
  rw [c_i2 (F := upZ (upZ (upZ (fun _ => 0) 0 99) 1 111) 2 117) (k := Int32.toNatClampNeg 3) (c := vp_nar .char 110) (v := 110) (by decide)] at hP hD
  have hP : va_P D vwCl ((h0, .inr (12, fs_140)) :: (q_141, .inl (D.1 14, 5, .inl (fun j => i2 (upZ (upZ (upZ (upZ (fun _ => 0) 0 99) 1 111) 2 117) 3 110 j)))) :: (q_139, .inl (D.1 14, 6, .inl (fun j => i2 (upZ (upZ (upZ (upZ (upZ (upZ (fun _ => 0) 0 110) 1 117) 2 109) 3 98) 4 101) 5 114 j)))) :: T) H := hP
  have hD : va_D A ((h0, .inr (12, fs_140)) :: (q_141, .inl (D.1 14, 5, .inl (fun j => i2 (upZ (upZ (upZ (upZ (fun _ => 0) 0 99) 1 111) 2 117) 3 110 j)))) :: (q_139, .inl (D.1 14, 6, .inl (fun j => i2 (upZ (upZ (upZ (upZ (upZ (upZ (fun _ => 0) 0 110) 1 117) 2 109) 3 98) 4 101) 5 114 j)))) :: T) := hD
  refine lv_dup hx hb dX12_init_1547 rfl ?_
  refine lv_iconst (v := 4) hx hb dX12_init_1548 (by decide) ?_
  refine lv_bipush (v := 116) hx hb dX12_init_1549 (by decide) ?_
  refine va_cast hx hb hK hP hD hS 1 1 rfl rfl (z_in (by decide) (by decide)) dX12_init_1551 (fun H locs hP hD hS => ?_)
  rw [c_i2 (F := upZ (upZ (upZ (upZ (fun _ => 0) 0 99) 1 111) 2 117) 3 110) (k := Int32.toNatClampNeg 4) (c := vp_nar .char 116) (v := 116) (by decide)] at hP hD
  have hP : va_P D vwCl ((h0, .inr (12, fs_140)) :: (q_141, .inl (D.1 14, 5, .inl (fun j => i2 (upZ (upZ (upZ (upZ (upZ (fun _ => 0) 0 99) 1 111) 2 117) 3 110) 4 116 j)))) :: (q_139, .inl (D.1 14, 6, .inl (fun j => i2 (upZ (upZ (upZ (upZ (upZ (upZ (fun _ => 0) 0 110) 1 117) 2 109) 3 98) 4 101) 5 114 j)))) :: T) H := hP
  have hD : va_D A ((h0, .inr (12, fs_140)) :: (q_141, .inl (D.1 14, 5, .inl (fun j => i2 (upZ (upZ (upZ (upZ (upZ (fun _ => 0) 0 99) 1 111) 2 117) 3 110) 4 116 j)))) :: (q_139, .inl (D.1 14, 6, .inl (fun j => i2 (upZ (upZ (upZ (upZ (upZ (upZ (fun _ => 0) 0 110) 1 117) 2 109) 3 98) 4 101) 5 114 j)))) :: T) := hD
  refine va_putF (D := D) (ci := 12) (v := .ref q_141) (ty := .array .char) (C := RX12) (T := TX12) (N := 116) hx hb ht inX12 tyX12 tyX12_ok nmX12 hown hK hP hD hS 0 rfl rfl 96 (by decide) (ht (.fieldLink RX12 228 "CloneVolumesModel" "countAsked" "[C") fl_X12_228) (fun _ h9 => h9) rfl hin rfl (by decide +kernel) rfl rfl (by rw [hlen]; decide) dX12_init_1552 (fun H locs hP hD hS => ?_)
  have hP : va_P D vwCl ((h0, .inr (12, (fs_140.set 96 (.ref q_141)))) :: (q_141, .inl (D.1 14, 5, .inl (fun j => i2 (upZ (upZ (upZ (upZ (upZ (fun _ => 0) 0 99) 1 111) 2 117) 3 110) 4 116 j)))) :: (q_139, .inl (D.1 14, 6, .inl (fun j => i2 (upZ (upZ (upZ (upZ (upZ (upZ (fun _ => 0) 0 110) 1 117) 2 109) 3 98) 4 101) 5 114 j)))) :: T) H := hP
  have hD : va_D A ((h0, .inr (12, (fs_140.set 96 (.ref q_141)))) :: (q_141, .inl (D.1 14, 5, .inl (fun j => i2 (upZ (upZ (upZ (upZ (upZ (fun _ => 0) 0 99) 1 111) 2 117) 3 110) 4 116 j)))) :: (q_139, .inl (D.1 14, 6, .inl (fun j => i2 (upZ (upZ (upZ (upZ (upZ (upZ (fun _ => 0) 0 110) 1 117) 2 109) 3 98) 4 101) 5 114 j)))) :: T) := hD
  generalize hfs_142 : fs_140.set 96 (.ref q_141) = fs_142 at hP hD
  have hlen : fs_142.length = 116 := by rw [← hfs_142, List.length_set]; exact hlen
  have hP : va_P D vwCl ((h0, .inr (12, fs_142)) :: (q_141, .inl (D.1 14, 5, .inl (fun j => i2 (upZ (upZ (upZ (upZ (upZ (fun _ => 0) 0 99) 1 111) 2 117) 3 110) 4 116 j)))) :: (q_139, .inl (D.1 14, 6, .inl (fun j => i2 (upZ (upZ (upZ (upZ (upZ (upZ (fun _ => 0) 0 110) 1 117) 2 109) 3 98) 4 101) 5 114 j)))) :: T) H := hP
  have hD : va_D A ((h0, .inr (12, fs_142)) :: (q_141, .inl (D.1 14, 5, .inl (fun j => i2 (upZ (upZ (upZ (upZ (upZ (fun _ => 0) 0 99) 1 111) 2 117) 3 110) 4 116 j)))) :: (q_139, .inl (D.1 14, 6, .inl (fun j => i2 (upZ (upZ (upZ (upZ (upZ (upZ (fun _ => 0) 0 110) 1 117) 2 109) 3 98) 4 101) 5 114 j)))) :: T) := hD
  exact kk q_141 q_139 fs_142 _ _ (by rw [← hfs_142, ← hfs_140]) hP hD hS
set_option maxHeartbeats 4000000 in
set_option maxRecDepth 100000 in
theorem cM_20 {p : Program} {l : Launch} {e : Env} {R : Room} {s : State} {m : MethodId} {args : Array Value} {below : List Frame} {meth : Method} {c : Code} {Q : State → Prop} {D : va_G} {A : Nat → Prop} {ls : Array Slot} {h0 : Nat} {T : va_W} (hx : p.tables.exec = Jvm.exec) (hb : c.code = cX12_init) (ht : ∀ w ∈ lw_gd, w.before args s = true) (hown : s.vm.findClass RX12 = some m.cls) (hin : meth.name = "<init>") (hK : va_K D vwCl (TY D) s) (hA : ∀ q : Nat, s.heap.size ≤ q → A q) (hRc : 80 ≤ R.cells) (hRs : 35050 ≤ R.slots) (hl : lv_has ls 1 [(0, .ref h0)]) {fs : List Value} (hlen : fs.length = 116) {H : Heap} {locs : List Loc} (hP : va_P D vwCl ((h0, .inr (12, fs)) :: T) H) (hD : va_D A ((h0, .inr (12, fs)) :: T)) (hS : va_S A s.heap H locs)
    (kk : ∀ (q_145 : Nat) (q_143 : Nat) (fs' : List Value) (H : Heap) (locs : List Loc), fs' = ((fs.set 97 (.ref q_143)).set 98 (.ref q_145)) → va_P D vwCl ((h0, .inr (12, fs')) :: (q_145, .inl (D.1 14, 5, .inl (fun j => i2 (upZ (upZ (upZ (upZ (upZ (fun _ => 0) 0 115) 1 97) 2 118) 3 101) 4 100 j)))) :: (q_143, .inl (D.1 14, 5, .inl (fun j => i2 (upZ (upZ (upZ (upZ (upZ (fun _ => 0) 0 102) 1 114) 2 101) 3 115) 4 104 j)))) :: T) H → va_D A ((h0, .inr (12, fs')) :: (q_145, .inl (D.1 14, 5, .inl (fun j => i2 (upZ (upZ (upZ (upZ (upZ (fun _ => 0) 0 115) 1 97) 2 118) 3 101) 4 100 j)))) :: (q_143, .inl (D.1 14, 5, .inl (fun j => i2 (upZ (upZ (upZ (upZ (upZ (fun _ => 0) 0 102) 1 114) 2 101) 3 115) 4 104 j)))) :: T) → va_S A s.heap H locs → W p l e R s m args below meth c H locs 72 27746 Q (F0 m 1619 ls [])) : W p l e R s m args below meth c H locs 70 27736 Q (F0 m 1555 ls []) := by
  refine lv_aload_n hx hb dX12_init_1555 rfl (lv_at hl 0 rfl) ?_
  refine lv_iconst (v := 5) hx hb dX12_init_1556 (by decide) ?_
  refine va_newa (atype := .char) (a0 := (5, .inl (fun _ => 0))) (ty := .char) (N' := 5) hx hb (ht _ ac_char) rfl hK hP hD hS hA (fun _ => rfl) (by decide) (by decide) (by decide) (Nat.le_trans (Nat.le_of_ble_eq_true rfl) hRc) (Nat.le_trans (Nat.le_of_ble_eq_true rfl) hRs) dX12_init_1557 (fun q_143 cA H hK2 hP hD hS => ?_)
  obtain rfl := z_cls_char hK hK2
  refine W.widen (k := 71) (n := 27741) (Nat.le_of_ble_eq_true rfl) (Nat.le_of_ble_eq_true rfl) ?_
  obtain ⟨hP, hD⟩ := z_rot hP hD
  have hP : va_P D vwCl ((h0, .inr (12, fs)) :: (q_143, .inl (D.1 14, 5, .inl (fun _ => i2 0))) :: T) H := hP
  have hD : va_D A ((h0, .inr (12, fs)) :: (q_143, .inl (D.1 14, 5, .inl (fun _ => i2 0))) :: T) := hD
  refine lv_dup hx hb dX12_init_1559 rfl ?_
  refine lv_iconst (v := 0) hx hb dX12_init_1560 (by decide) ?_
  refine lv_bipush (v := 102) hx hb dX12_init_1561 (by decide) ?_
  refine va_cast hx hb hK hP hD hS 1 1 rfl rfl (z_in (by decide) (by decide)) dX12_init_1563 (fun H locs hP hD hS => ?_)
  rw [c_i2 (F := fun _ => 0) (k := Int32.toNatClampNeg 0) (c := vp_nar .char 102) (v := 102) (by decide)] at hP hD
  have hP : va_P D vwCl ((h0, .inr (12, fs)) :: (q_143, .inl (D.1 14, 5, .inl (fun j => i2 (upZ (fun _ => 0) 0 102 j)))) :: T) H := hP
  have hD : va_D A ((h0, .inr (12, fs)) :: (q_143, .inl (D.1 14, 5, .inl (fun j => i2 (upZ (fun _ => 0) 0 102 j)))) :: T) := hD
  refine lv_dup hx hb dX12_init_1564 rfl ?_
  refine lv_iconst (v := 1) hx hb dX12_init_1565 (by decide) ?_
  refine lv_bipush (v := 114) hx hb dX12_init_1566 (by decide) ?_
  refine va_cast hx hb hK hP hD hS 1 1 rfl rfl (z_in (by decide) (by decide)) dX12_init_1568 (fun H locs hP hD hS => ?_)
  rw [c_i2 (F := upZ (fun _ => 0) 0 102) (k := Int32.toNatClampNeg 1) (c := vp_nar .char 114) (v := 114) (by decide)] at hP hD
  have hP : va_P D vwCl ((h0, .inr (12, fs)) :: (q_143, .inl (D.1 14, 5, .inl (fun j => i2 (upZ (upZ (fun _ => 0) 0 102) 1 114 j)))) :: T) H := hP
  have hD : va_D A ((h0, .inr (12, fs)) :: (q_143, .inl (D.1 14, 5, .inl (fun j => i2 (upZ (upZ (fun _ => 0) 0 102) 1 114 j)))) :: T) := hD
  refine lv_dup hx hb dX12_init_1569 rfl ?_
  refine lv_iconst (v := 2) hx hb dX12_init_1570 (by decide) ?_
  refine lv_bipush (v := 101) hx hb dX12_init_1571 (by decide) ?_
  refine va_cast hx hb hK hP hD hS 1 1 rfl rfl (z_in (by decide) (by decide)) dX12_init_1573 (fun H locs hP hD hS => ?_)
  rw [c_i2 (F := upZ (upZ (fun _ => 0) 0 102) 1 114) (k := Int32.toNatClampNeg 2) (c := vp_nar .char 101) (v := 101) (by decide)] at hP hD
  have hP : va_P D vwCl ((h0, .inr (12, fs)) :: (q_143, .inl (D.1 14, 5, .inl (fun j => i2 (upZ (upZ (upZ (fun _ => 0) 0 102) 1 114) 2 101 j)))) :: T) H := hP
  have hD : va_D A ((h0, .inr (12, fs)) :: (q_143, .inl (D.1 14, 5, .inl (fun j => i2 (upZ (upZ (upZ (fun _ => 0) 0 102) 1 114) 2 101 j)))) :: T) := hD
  refine lv_dup hx hb dX12_init_1574 rfl ?_
  refine lv_iconst (v := 3) hx hb dX12_init_1575 (by decide) ?_
  refine lv_bipush (v := 115) hx hb dX12_init_1576 (by decide) ?_
  refine va_cast hx hb hK hP hD hS 1 1 rfl rfl (z_in (by decide) (by decide)) dX12_init_1578 (fun H locs hP hD hS => ?_)
  rw [c_i2 (F := upZ (upZ (upZ (fun _ => 0) 0 102) 1 114) 2 101) (k := Int32.toNatClampNeg 3) (c := vp_nar .char 115) (v := 115) (by decide)] at hP hD
  have hP : va_P D vwCl ((h0, .inr (12, fs)) :: (q_143, .inl (D.1 14, 5, .inl (fun j => i2 (upZ (upZ (upZ (upZ (fun _ => 0) 0 102) 1 114) 2 101) 3 115 j)))) :: T) H := hP
  have hD : va_D A ((h0, .inr (12, fs)) :: (q_143, .inl (D.1 14, 5, .inl (fun j => i2 (upZ (upZ (upZ (upZ (fun _ => 0) 0 102) 1 114) 2 101) 3 115 j)))) :: T) := hD
  refine lv_dup hx hb dX12_init_1579 rfl ?_
  refine lv_iconst (v := 4) hx hb dX12_init_1580 (by decide) ?_
  refine lv_bipush (v := 104) hx hb dX12_init_1581 (by decide) ?_
  refine va_cast hx hb hK hP hD hS 1 1 rfl rfl (z_in (by decide) (by decide)) dX12_init_1583 (fun H locs hP hD hS => ?_)
  rw [c_i2 (F := upZ (upZ (upZ (upZ (fun _ => 0) 0 102) 1 114) 2 101) 3 115) (k := Int32.toNatClampNeg 4) (c := vp_nar .char 104) (v := 104) (by decide)] at hP hD
  have hP : va_P D vwCl ((h0, .inr (12, fs)) :: (q_143, .inl (D.1 14, 5, .inl (fun j => i2 (upZ (upZ (upZ (upZ (upZ (fun _ => 0) 0 102) 1 114) 2 101) 3 115) 4 104 j)))) :: T) H := hP
  have hD : va_D A ((h0, .inr (12, fs)) :: (q_143, .inl (D.1 14, 5, .inl (fun j => i2 (upZ (upZ (upZ (upZ (upZ (fun _ => 0) 0 102) 1 114) 2 101) 3 115) 4 104 j)))) :: T) := hD
  refine va_putF (D := D) (ci := 12) (v := .ref q_143) (ty := .array .char) (C := RX12) (T := TX12) (N := 116) hx hb ht inX12 tyX12 tyX12_ok nmX12 hown hK hP hD hS 0 rfl rfl 97 (by decide) (ht (.fieldLink RX12 231 "CloneVolumesModel" "freshAsked" "[C") fl_X12_231) (fun _ h9 => h9) rfl hin rfl (by decide +kernel) rfl rfl (by rw [hlen]; decide) dX12_init_1584 (fun H locs hP hD hS => ?_)
  have hP : va_P D vwCl ((h0, .inr (12, (fs.set 97 (.ref q_143)))) :: (q_143, .inl (D.1 14, 5, .inl (fun j => i2 (upZ (upZ (upZ (upZ (upZ (fun _ => 0) 0 102) 1 114) 2 101) 3 115) 4 104 j)))) :: T) H := hP
  have hD : va_D A ((h0, .inr (12, (fs.set 97 (.ref q_143)))) :: (q_143, .inl (D.1 14, 5, .inl (fun j => i2 (upZ (upZ (upZ (upZ (upZ (fun _ => 0) 0 102) 1 114) 2 101) 3 115) 4 104 j)))) :: T) := hD
  generalize hfs_144 : fs.set 97 (.ref q_143) = fs_144 at hP hD
  have hlen : fs_144.length = 116 := by rw [← hfs_144, List.length_set]; exact hlen
  have hP : va_P D vwCl ((h0, .inr (12, fs_144)) :: (q_143, .inl (D.1 14, 5, .inl (fun j => i2 (upZ (upZ (upZ (upZ (upZ (fun _ => 0) 0 102) 1 114) 2 101) 3 115) 4 104 j)))) :: T) H := hP
  have hD : va_D A ((h0, .inr (12, fs_144)) :: (q_143, .inl (D.1 14, 5, .inl (fun j => i2 (upZ (upZ (upZ (upZ (upZ (fun _ => 0) 0 102) 1 114) 2 101) 3 115) 4 104 j)))) :: T) := hD
  refine lv_aload_n hx hb dX12_init_1587 rfl (lv_at hl 0 rfl) ?_
  refine lv_iconst (v := 5) hx hb dX12_init_1588 (by decide) ?_
  refine va_newa (atype := .char) (a0 := (5, .inl (fun _ => 0))) (ty := .char) (N' := 5) hx hb (ht _ ac_char) rfl hK hP hD hS hA (fun _ => rfl) (by decide) (by decide) (by decide) (Nat.le_trans (Nat.le_of_ble_eq_true rfl) hRc) (Nat.le_trans (Nat.le_of_ble_eq_true rfl) hRs) dX12_init_1589 (fun q_145 cA H hK2 hP hD hS => ?_)
  obtain rfl := z_cls_char hK hK2
  refine W.widen (k := 72) (n := 27746) (Nat.le_of_ble_eq_true rfl) (Nat.le_of_ble_eq_true rfl) ?_
  obtain ⟨hP, hD⟩ := z_rot hP hD
  have hP : va_P D vwCl ((h0, .inr (12, fs_144)) :: (q_145, .inl (D.1 14, 5, .inl (fun _ => i2 0))) :: (q_143, .inl (D.1 14, 5, .inl (fun j => i2 (upZ (upZ (upZ (upZ (upZ (fun _ => 0) 0 102) 1 114) 2 101) 3 115) 4 104 j)))) :: T) H := hP
  have hD : va_D A ((h0, .inr (12, fs_144)) :: (q_145, .inl (D.1 14, 5, .inl (fun _ => i2 0))) :: (q_143, .inl (D.1 14, 5, .inl (fun j => i2 (upZ (upZ (upZ (upZ (upZ (fun _ => 0) 0 102) 1 114) 2 101) 3 115) 4 104 j)))) :: T) := hD
  refine lv_dup hx hb dX12_init_1591 rfl ?_
  refine lv_iconst (v := 0) hx hb dX12_init_1592 (by decide) ?_
  refine lv_bipush (v := 115) hx hb dX12_init_1593 (by decide) ?_
  refine va_cast hx hb hK hP hD hS 1 1 rfl rfl (z_in (by decide) (by decide)) dX12_init_1595 (fun H locs hP hD hS => ?_)
  rw [c_i2 (F := fun _ => 0) (k := Int32.toNatClampNeg 0) (c := vp_nar .char 115) (v := 115) (by decide)] at hP hD
  have hP : va_P D vwCl ((h0, .inr (12, fs_144)) :: (q_145, .inl (D.1 14, 5, .inl (fun j => i2 (upZ (fun _ => 0) 0 115 j)))) :: (q_143, .inl (D.1 14, 5, .inl (fun j => i2 (upZ (upZ (upZ (upZ (upZ (fun _ => 0) 0 102) 1 114) 2 101) 3 115) 4 104 j)))) :: T) H := hP
  have hD : va_D A ((h0, .inr (12, fs_144)) :: (q_145, .inl (D.1 14, 5, .inl (fun j => i2 (upZ (fun _ => 0) 0 115 j)))) :: (q_143, .inl (D.1 14, 5, .inl (fun j => i2 (upZ (upZ (upZ (upZ (upZ (fun _ => 0) 0 102) 1 114) 2 101) 3 115) 4 104 j)))) :: T) := hD
  refine lv_dup hx hb dX12_init_1596 rfl ?_
  refine lv_iconst (v := 1) hx hb dX12_init_1597 (by decide) ?_
  refine lv_bipush (v := 97) hx hb dX12_init_1598 (by decide) ?_
  refine va_cast hx hb hK hP hD hS 1 1 rfl rfl (z_in (by decide) (by decide)) dX12_init_1600 (fun H locs hP hD hS => ?_)
  rw [c_i2 (F := upZ (fun _ => 0) 0 115) (k := Int32.toNatClampNeg 1) (c := vp_nar .char 97) (v := 97) (by decide)] at hP hD
  have hP : va_P D vwCl ((h0, .inr (12, fs_144)) :: (q_145, .inl (D.1 14, 5, .inl (fun j => i2 (upZ (upZ (fun _ => 0) 0 115) 1 97 j)))) :: (q_143, .inl (D.1 14, 5, .inl (fun j => i2 (upZ (upZ (upZ (upZ (upZ (fun _ => 0) 0 102) 1 114) 2 101) 3 115) 4 104 j)))) :: T) H := hP
  have hD : va_D A ((h0, .inr (12, fs_144)) :: (q_145, .inl (D.1 14, 5, .inl (fun j => i2 (upZ (upZ (fun _ => 0) 0 115) 1 97 j)))) :: (q_143, .inl (D.1 14, 5, .inl (fun j => i2 (upZ (upZ (upZ (upZ (upZ (fun _ => 0) 0 102) 1 114) 2 101) 3 115) 4 104 j)))) :: T) := hD
  refine lv_dup hx hb dX12_init_1601 rfl ?_
  refine lv_iconst (v := 2) hx hb dX12_init_1602 (by decide) ?_
  refine lv_bipush (v := 118) hx hb dX12_init_1603 (by decide) ?_
  refine va_cast hx hb hK hP hD hS 1 1 rfl rfl (z_in (by decide) (by decide)) dX12_init_1605 (fun H locs hP hD hS => ?_)
  rw [c_i2 (F := upZ (upZ (fun _ => 0) 0 115) 1 97) (k := Int32.toNatClampNeg 2) (c := vp_nar .char 118) (v := 118) (by decide)] at hP hD
  have hP : va_P D vwCl ((h0, .inr (12, fs_144)) :: (q_145, .inl (D.1 14, 5, .inl (fun j => i2 (upZ (upZ (upZ (fun _ => 0) 0 115) 1 97) 2 118 j)))) :: (q_143, .inl (D.1 14, 5, .inl (fun j => i2 (upZ (upZ (upZ (upZ (upZ (fun _ => 0) 0 102) 1 114) 2 101) 3 115) 4 104 j)))) :: T) H := hP
  have hD : va_D A ((h0, .inr (12, fs_144)) :: (q_145, .inl (D.1 14, 5, .inl (fun j => i2 (upZ (upZ (upZ (fun _ => 0) 0 115) 1 97) 2 118 j)))) :: (q_143, .inl (D.1 14, 5, .inl (fun j => i2 (upZ (upZ (upZ (upZ (upZ (fun _ => 0) 0 102) 1 114) 2 101) 3 115) 4 104 j)))) :: T) := hD
  refine lv_dup hx hb dX12_init_1606 rfl ?_
  refine lv_iconst (v := 3) hx hb dX12_init_1607 (by decide) ?_
  refine lv_bipush (v := 101) hx hb dX12_init_1608 (by decide) ?_
  refine va_cast hx hb hK hP hD hS 1 1 rfl rfl (z_in (by decide) (by decide)) dX12_init_1610 (fun H locs hP hD hS => ?_)
  rw [c_i2 (F := upZ (upZ (upZ (fun _ => 0) 0 115) 1 97) 2 118) (k := Int32.toNatClampNeg 3) (c := vp_nar .char 101) (v := 101) (by decide)] at hP hD
  have hP : va_P D vwCl ((h0, .inr (12, fs_144)) :: (q_145, .inl (D.1 14, 5, .inl (fun j => i2 (upZ (upZ (upZ (upZ (fun _ => 0) 0 115) 1 97) 2 118) 3 101 j)))) :: (q_143, .inl (D.1 14, 5, .inl (fun j => i2 (upZ (upZ (upZ (upZ (upZ (fun _ => 0) 0 102) 1 114) 2 101) 3 115) 4 104 j)))) :: T) H := hP
  have hD : va_D A ((h0, .inr (12, fs_144)) :: (q_145, .inl (D.1 14, 5, .inl (fun j => i2 (upZ (upZ (upZ (upZ (fun _ => 0) 0 115) 1 97) 2 118) 3 101 j)))) :: (q_143, .inl (D.1 14, 5, .inl (fun j => i2 (upZ (upZ (upZ (upZ (upZ (fun _ => 0) 0 102) 1 114) 2 101) 3 115) 4 104 j)))) :: T) := hD
  refine lv_dup hx hb dX12_init_1611 rfl ?_
  refine lv_iconst (v := 4) hx hb dX12_init_1612 (by decide) ?_
  refine lv_bipush (v := 100) hx hb dX12_init_1613 (by decide) ?_
  refine va_cast hx hb hK hP hD hS 1 1 rfl rfl (z_in (by decide) (by decide)) dX12_init_1615 (fun H locs hP hD hS => ?_)
  rw [c_i2 (F := upZ (upZ (upZ (upZ (fun _ => 0) 0 115) 1 97) 2 118) 3 101) (k := Int32.toNatClampNeg 4) (c := vp_nar .char 100) (v := 100) (by decide)] at hP hD
  have hP : va_P D vwCl ((h0, .inr (12, fs_144)) :: (q_145, .inl (D.1 14, 5, .inl (fun j => i2 (upZ (upZ (upZ (upZ (upZ (fun _ => 0) 0 115) 1 97) 2 118) 3 101) 4 100 j)))) :: (q_143, .inl (D.1 14, 5, .inl (fun j => i2 (upZ (upZ (upZ (upZ (upZ (fun _ => 0) 0 102) 1 114) 2 101) 3 115) 4 104 j)))) :: T) H := hP
  have hD : va_D A ((h0, .inr (12, fs_144)) :: (q_145, .inl (D.1 14, 5, .inl (fun j => i2 (upZ (upZ (upZ (upZ (upZ (fun _ => 0) 0 115) 1 97) 2 118) 3 101) 4 100 j)))) :: (q_143, .inl (D.1 14, 5, .inl (fun j => i2 (upZ (upZ (upZ (upZ (upZ (fun _ => 0) 0 102) 1 114) 2 101) 3 115) 4 104 j)))) :: T) := hD
  refine va_putF (D := D) (ci := 12) (v := .ref q_145) (ty := .array .char) (C := RX12) (T := TX12) (N := 116) hx hb ht inX12 tyX12 tyX12_ok nmX12 hown hK hP hD hS 0 rfl rfl 98 (by decide) (ht (.fieldLink RX12 234 "CloneVolumesModel" "savedAsked" "[C") fl_X12_234) (fun _ h9 => h9) rfl hin rfl (by decide +kernel) rfl rfl (by rw [hlen]; decide) dX12_init_1616 (fun H locs hP hD hS => ?_)
  have hP : va_P D vwCl ((h0, .inr (12, (fs_144.set 98 (.ref q_145)))) :: (q_145, .inl (D.1 14, 5, .inl (fun j => i2 (upZ (upZ (upZ (upZ (upZ (fun _ => 0) 0 115) 1 97) 2 118) 3 101) 4 100 j)))) :: (q_143, .inl (D.1 14, 5, .inl (fun j => i2 (upZ (upZ (upZ (upZ (upZ (fun _ => 0) 0 102) 1 114) 2 101) 3 115) 4 104 j)))) :: T) H := hP
  have hD : va_D A ((h0, .inr (12, (fs_144.set 98 (.ref q_145)))) :: (q_145, .inl (D.1 14, 5, .inl (fun j => i2 (upZ (upZ (upZ (upZ (upZ (fun _ => 0) 0 115) 1 97) 2 118) 3 101) 4 100 j)))) :: (q_143, .inl (D.1 14, 5, .inl (fun j => i2 (upZ (upZ (upZ (upZ (upZ (fun _ => 0) 0 102) 1 114) 2 101) 3 115) 4 104 j)))) :: T) := hD
  generalize hfs_146 : fs_144.set 98 (.ref q_145) = fs_146 at hP hD
  have hlen : fs_146.length = 116 := by rw [← hfs_146, List.length_set]; exact hlen
  have hP : va_P D vwCl ((h0, .inr (12, fs_146)) :: (q_145, .inl (D.1 14, 5, .inl (fun j => i2 (upZ (upZ (upZ (upZ (upZ (fun _ => 0) 0 115) 1 97) 2 118) 3 101) 4 100 j)))) :: (q_143, .inl (D.1 14, 5, .inl (fun j => i2 (upZ (upZ (upZ (upZ (upZ (fun _ => 0) 0 102) 1 114) 2 101) 3 115) 4 104 j)))) :: T) H := hP
  have hD : va_D A ((h0, .inr (12, fs_146)) :: (q_145, .inl (D.1 14, 5, .inl (fun j => i2 (upZ (upZ (upZ (upZ (upZ (fun _ => 0) 0 115) 1 97) 2 118) 3 101) 4 100 j)))) :: (q_143, .inl (D.1 14, 5, .inl (fun j => i2 (upZ (upZ (upZ (upZ (upZ (fun _ => 0) 0 102) 1 114) 2 101) 3 115) 4 104 j)))) :: T) := hD
  exact kk q_145 q_143 fs_146 _ _ (by rw [← hfs_146, ← hfs_144]) hP hD hS
set_option maxHeartbeats 4000000 in
set_option maxRecDepth 100000 in
theorem cM_21 {p : Program} {l : Launch} {e : Env} {R : Room} {s : State} {m : MethodId} {args : Array Value} {below : List Frame} {meth : Method} {c : Code} {Q : State → Prop} {D : va_G} {A : Nat → Prop} {ls : Array Slot} {h0 : Nat} {T : va_W} (hx : p.tables.exec = Jvm.exec) (hb : c.code = cX12_init) (ht : ∀ w ∈ lw_gd, w.before args s = true) (hown : s.vm.findClass RX12 = some m.cls) (hin : meth.name = "<init>") (hK : va_K D vwCl (TY D) s) (hA : ∀ q : Nat, s.heap.size ≤ q → A q) (hRc : 80 ≤ R.cells) (hRs : 35050 ≤ R.slots) (hl : lv_has ls 1 [(0, .ref h0)]) {fs : List Value} (hlen : fs.length = 116) {H : Heap} {locs : List Loc} (hP : va_P D vwCl ((h0, .inr (12, fs)) :: T) H) (hD : va_D A ((h0, .inr (12, fs)) :: T)) (hS : va_S A s.heap H locs)
    (kk : ∀ (q_155 : Nat) (q_153 : Nat) (q_151 : Nat) (q_149 : Nat) (q_147 : Nat) (fs' : List Value) (H : Heap) (locs : List Loc), fs' = (((((fs.set 99 (.ref q_147)).set 100 (.ref q_149)).set 101 (.ref q_151)).set 103 (.ref q_153)).set 107 (.ref q_155)) → va_P D vwCl ((h0, .inr (12, fs')) :: (q_155, .inl (D.1 15, 1700, .inr (.inl (fun _ => 0)))) :: (q_153, .inl (D.1 13, 1700, .inl (fun _ => 0))) :: (q_151, .inl (D.1 13, 1700, .inl (fun _ => 0))) :: (q_149, .inl (D.1 14, 3, .inl (fun j => i2 (upZ (upZ (upZ (fun _ => 0) 0 107) 1 101) 2 121 j)))) :: (q_147, .inl (D.1 14, 4, .inl (fun j => i2 (upZ (upZ (upZ (upZ (fun _ => 0) 0 114) 1 101) 2 102) 3 115 j)))) :: T) H → va_D A ((h0, .inr (12, fs')) :: (q_155, .inl (D.1 15, 1700, .inr (.inl (fun _ => 0)))) :: (q_153, .inl (D.1 13, 1700, .inl (fun _ => 0))) :: (q_151, .inl (D.1 13, 1700, .inl (fun _ => 0))) :: (q_149, .inl (D.1 14, 3, .inl (fun j => i2 (upZ (upZ (upZ (fun _ => 0) 0 107) 1 101) 2 121 j)))) :: (q_147, .inl (D.1 14, 4, .inl (fun j => i2 (upZ (upZ (upZ (upZ (fun _ => 0) 0 114) 1 101) 2 102) 3 115 j)))) :: T) → va_S A s.heap H locs → W p l e R s m args below meth c H locs 77 32853 Q (F0 m 1695 ls [])) : W p l e R s m args below meth c H locs 72 27746 Q (F0 m 1619 ls []) := by
  refine lv_aload_n hx hb dX12_init_1619 rfl (lv_at hl 0 rfl) ?_
  refine lv_iconst (v := 4) hx hb dX12_init_1620 (by decide) ?_
  refine va_newa (atype := .char) (a0 := (4, .inl (fun _ => 0))) (ty := .char) (N' := 4) hx hb (ht _ ac_char) rfl hK hP hD hS hA (fun _ => rfl) (by decide) (by decide) (by decide) (Nat.le_trans (Nat.le_of_ble_eq_true rfl) hRc) (Nat.le_trans (Nat.le_of_ble_eq_true rfl) hRs) dX12_init_1621 (fun q_147 cA H hK2 hP hD hS => ?_)
  obtain rfl := z_cls_char hK hK2
  refine W.widen (k := 73) (n := 27750) (Nat.le_of_ble_eq_true rfl) (Nat.le_of_ble_eq_true rfl) ?_
  obtain ⟨hP, hD⟩ := z_rot hP hD
  have hP : va_P D vwCl ((h0, .inr (12, fs)) :: (q_147, .inl (D.1 14, 4, .inl (fun _ => i2 0))) :: T) H := hP
  have hD : va_D A ((h0, .inr (12, fs)) :: (q_147, .inl (D.1 14, 4, .inl (fun _ => i2 0))) :: T) := hD
  refine lv_dup hx hb dX12_init_1623 rfl ?_
  refine lv_iconst (v := 0) hx hb dX12_init_1624 (by decide) ?_
  refine lv_bipush (v := 114) hx hb dX12_init_1625 (by decide) ?_
  refine va_cast hx hb hK hP hD hS 1 1 rfl rfl (z_in (by decide) (by decide)) dX12_init_1627 (fun H locs hP hD hS => ?_)
  rw [c_i2 (F := fun _ => 0) (k := Int32.toNatClampNeg 0) (c := vp_nar .char 114) (v := 114) (by decide)] at hP hD
  have hP : va_P D vwCl ((h0, .inr (12, fs)) :: (q_147, .inl (D.1 14, 4, .inl (fun j => i2 (upZ (fun _ => 0) 0 114 j)))) :: T) H := hP
  have hD : va_D A ((h0, .inr (12, fs)) :: (q_147, .inl (D.1 14, 4, .inl (fun j => i2 (upZ (fun _ => 0) 0 114 j)))) :: T) := hD
  refine lv_dup hx hb dX12_init_1628 rfl ?_
  refine lv_iconst (v := 1) hx hb dX12_init_1629 (by decide) ?_
  refine lv_bipush (v := 101) hx hb dX12_init_1630 (by decide) ?_
  refine va_cast hx hb hK hP hD hS 1 1 rfl rfl (z_in (by decide) (by decide)) dX12_init_1632 (fun H locs hP hD hS => ?_)
  rw [c_i2 (F := upZ (fun _ => 0) 0 114) (k := Int32.toNatClampNeg 1) (c := vp_nar .char 101) (v := 101) (by decide)] at hP hD
  have hP : va_P D vwCl ((h0, .inr (12, fs)) :: (q_147, .inl (D.1 14, 4, .inl (fun j => i2 (upZ (upZ (fun _ => 0) 0 114) 1 101 j)))) :: T) H := hP
  have hD : va_D A ((h0, .inr (12, fs)) :: (q_147, .inl (D.1 14, 4, .inl (fun j => i2 (upZ (upZ (fun _ => 0) 0 114) 1 101 j)))) :: T) := hD
  refine lv_dup hx hb dX12_init_1633 rfl ?_
  refine lv_iconst (v := 2) hx hb dX12_init_1634 (by decide) ?_
  refine lv_bipush (v := 102) hx hb dX12_init_1635 (by decide) ?_
  refine va_cast hx hb hK hP hD hS 1 1 rfl rfl (z_in (by decide) (by decide)) dX12_init_1637 (fun H locs hP hD hS => ?_)
  rw [c_i2 (F := upZ (upZ (fun _ => 0) 0 114) 1 101) (k := Int32.toNatClampNeg 2) (c := vp_nar .char 102) (v := 102) (by decide)] at hP hD
  have hP : va_P D vwCl ((h0, .inr (12, fs)) :: (q_147, .inl (D.1 14, 4, .inl (fun j => i2 (upZ (upZ (upZ (fun _ => 0) 0 114) 1 101) 2 102 j)))) :: T) H := hP
  have hD : va_D A ((h0, .inr (12, fs)) :: (q_147, .inl (D.1 14, 4, .inl (fun j => i2 (upZ (upZ (upZ (fun _ => 0) 0 114) 1 101) 2 102 j)))) :: T) := hD
  refine lv_dup hx hb dX12_init_1638 rfl ?_
  refine lv_iconst (v := 3) hx hb dX12_init_1639 (by decide) ?_
  refine lv_bipush (v := 115) hx hb dX12_init_1640 (by decide) ?_
  refine va_cast hx hb hK hP hD hS 1 1 rfl rfl (z_in (by decide) (by decide)) dX12_init_1642 (fun H locs hP hD hS => ?_)
  rw [c_i2 (F := upZ (upZ (upZ (fun _ => 0) 0 114) 1 101) 2 102) (k := Int32.toNatClampNeg 3) (c := vp_nar .char 115) (v := 115) (by decide)] at hP hD
  have hP : va_P D vwCl ((h0, .inr (12, fs)) :: (q_147, .inl (D.1 14, 4, .inl (fun j => i2 (upZ (upZ (upZ (upZ (fun _ => 0) 0 114) 1 101) 2 102) 3 115 j)))) :: T) H := hP
  have hD : va_D A ((h0, .inr (12, fs)) :: (q_147, .inl (D.1 14, 4, .inl (fun j => i2 (upZ (upZ (upZ (upZ (fun _ => 0) 0 114) 1 101) 2 102) 3 115 j)))) :: T) := hD
  refine va_putF (D := D) (ci := 12) (v := .ref q_147) (ty := .array .char) (C := RX12) (T := TX12) (N := 116) hx hb ht inX12 tyX12 tyX12_ok nmX12 hown hK hP hD hS 0 rfl rfl 99 (by decide) (ht (.fieldLink RX12 237 "CloneVolumesModel" "refsAsked" "[C") fl_X12_237) (fun _ h9 => h9) rfl hin rfl (by decide +kernel) rfl rfl (by rw [hlen]; decide) dX12_init_1643 (fun H locs hP hD hS => ?_)
  have hP : va_P D vwCl ((h0, .inr (12, (fs.set 99 (.ref q_147)))) :: (q_147, .inl (D.1 14, 4, .inl (fun j => i2 (upZ (upZ (upZ (upZ (fun _ => 0) 0 114) 1 101) 2 102) 3 115 j)))) :: T) H := hP
  have hD : va_D A ((h0, .inr (12, (fs.set 99 (.ref q_147)))) :: (q_147, .inl (D.1 14, 4, .inl (fun j => i2 (upZ (upZ (upZ (upZ (fun _ => 0) 0 114) 1 101) 2 102) 3 115 j)))) :: T) := hD
  generalize hfs_148 : fs.set 99 (.ref q_147) = fs_148 at hP hD
  have hlen : fs_148.length = 116 := by rw [← hfs_148, List.length_set]; exact hlen
  have hP : va_P D vwCl ((h0, .inr (12, fs_148)) :: (q_147, .inl (D.1 14, 4, .inl (fun j => i2 (upZ (upZ (upZ (upZ (fun _ => 0) 0 114) 1 101) 2 102) 3 115 j)))) :: T) H := hP
  have hD : va_D A ((h0, .inr (12, fs_148)) :: (q_147, .inl (D.1 14, 4, .inl (fun j => i2 (upZ (upZ (upZ (upZ (fun _ => 0) 0 114) 1 101) 2 102) 3 115 j)))) :: T) := hD
  refine lv_aload_n hx hb dX12_init_1646 rfl (lv_at hl 0 rfl) ?_
  refine lv_iconst (v := 3) hx hb dX12_init_1647 (by decide) ?_
  refine va_newa (atype := .char) (a0 := (3, .inl (fun _ => 0))) (ty := .char) (N' := 3) hx hb (ht _ ac_char) rfl hK hP hD hS hA (fun _ => rfl) (by decide) (by decide) (by decide) (Nat.le_trans (Nat.le_of_ble_eq_true rfl) hRc) (Nat.le_trans (Nat.le_of_ble_eq_true rfl) hRs) dX12_init_1648 (fun q_149 cA H hK2 hP hD hS => ?_)
  obtain rfl := z_cls_char hK hK2
  refine W.widen (k := 74) (n := 27753) (Nat.le_of_ble_eq_true rfl) (Nat.le_of_ble_eq_true rfl) ?_
  obtain ⟨hP, hD⟩ := z_rot hP hD
  have hP : va_P D vwCl ((h0, .inr (12, fs_148)) :: (q_149, .inl (D.1 14, 3, .inl (fun _ => i2 0))) :: (q_147, .inl (D.1 14, 4, .inl (fun j => i2 (upZ (upZ (upZ (upZ (fun _ => 0) 0 114) 1 101) 2 102) 3 115 j)))) :: T) H := hP
  have hD : va_D A ((h0, .inr (12, fs_148)) :: (q_149, .inl (D.1 14, 3, .inl (fun _ => i2 0))) :: (q_147, .inl (D.1 14, 4, .inl (fun j => i2 (upZ (upZ (upZ (upZ (fun _ => 0) 0 114) 1 101) 2 102) 3 115 j)))) :: T) := hD
  refine lv_dup hx hb dX12_init_1650 rfl ?_
  refine lv_iconst (v := 0) hx hb dX12_init_1651 (by decide) ?_
  refine lv_bipush (v := 107) hx hb dX12_init_1652 (by decide) ?_
  refine va_cast hx hb hK hP hD hS 1 1 rfl rfl (z_in (by decide) (by decide)) dX12_init_1654 (fun H locs hP hD hS => ?_)
  rw [c_i2 (F := fun _ => 0) (k := Int32.toNatClampNeg 0) (c := vp_nar .char 107) (v := 107) (by decide)] at hP hD
  have hP : va_P D vwCl ((h0, .inr (12, fs_148)) :: (q_149, .inl (D.1 14, 3, .inl (fun j => i2 (upZ (fun _ => 0) 0 107 j)))) :: (q_147, .inl (D.1 14, 4, .inl (fun j => i2 (upZ (upZ (upZ (upZ (fun _ => 0) 0 114) 1 101) 2 102) 3 115 j)))) :: T) H := hP
  have hD : va_D A ((h0, .inr (12, fs_148)) :: (q_149, .inl (D.1 14, 3, .inl (fun j => i2 (upZ (fun _ => 0) 0 107 j)))) :: (q_147, .inl (D.1 14, 4, .inl (fun j => i2 (upZ (upZ (upZ (upZ (fun _ => 0) 0 114) 1 101) 2 102) 3 115 j)))) :: T) := hD
  refine lv_dup hx hb dX12_init_1655 rfl ?_
  refine lv_iconst (v := 1) hx hb dX12_init_1656 (by decide) ?_
  refine lv_bipush (v := 101) hx hb dX12_init_1657 (by decide) ?_
  refine va_cast hx hb hK hP hD hS 1 1 rfl rfl (z_in (by decide) (by decide)) dX12_init_1659 (fun H locs hP hD hS => ?_)
  rw [c_i2 (F := upZ (fun _ => 0) 0 107) (k := Int32.toNatClampNeg 1) (c := vp_nar .char 101) (v := 101) (by decide)] at hP hD
  have hP : va_P D vwCl ((h0, .inr (12, fs_148)) :: (q_149, .inl (D.1 14, 3, .inl (fun j => i2 (upZ (upZ (fun _ => 0) 0 107) 1 101 j)))) :: (q_147, .inl (D.1 14, 4, .inl (fun j => i2 (upZ (upZ (upZ (upZ (fun _ => 0) 0 114) 1 101) 2 102) 3 115 j)))) :: T) H := hP
  have hD : va_D A ((h0, .inr (12, fs_148)) :: (q_149, .inl (D.1 14, 3, .inl (fun j => i2 (upZ (upZ (fun _ => 0) 0 107) 1 101 j)))) :: (q_147, .inl (D.1 14, 4, .inl (fun j => i2 (upZ (upZ (upZ (upZ (fun _ => 0) 0 114) 1 101) 2 102) 3 115 j)))) :: T) := hD
  refine lv_dup hx hb dX12_init_1660 rfl ?_
  refine lv_iconst (v := 2) hx hb dX12_init_1661 (by decide) ?_
  refine lv_bipush (v := 121) hx hb dX12_init_1662 (by decide) ?_
  refine va_cast hx hb hK hP hD hS 1 1 rfl rfl (z_in (by decide) (by decide)) dX12_init_1664 (fun H locs hP hD hS => ?_)
  rw [c_i2 (F := upZ (upZ (fun _ => 0) 0 107) 1 101) (k := Int32.toNatClampNeg 2) (c := vp_nar .char 121) (v := 121) (by decide)] at hP hD
  have hP : va_P D vwCl ((h0, .inr (12, fs_148)) :: (q_149, .inl (D.1 14, 3, .inl (fun j => i2 (upZ (upZ (upZ (fun _ => 0) 0 107) 1 101) 2 121 j)))) :: (q_147, .inl (D.1 14, 4, .inl (fun j => i2 (upZ (upZ (upZ (upZ (fun _ => 0) 0 114) 1 101) 2 102) 3 115 j)))) :: T) H := hP
  have hD : va_D A ((h0, .inr (12, fs_148)) :: (q_149, .inl (D.1 14, 3, .inl (fun j => i2 (upZ (upZ (upZ (fun _ => 0) 0 107) 1 101) 2 121 j)))) :: (q_147, .inl (D.1 14, 4, .inl (fun j => i2 (upZ (upZ (upZ (upZ (fun _ => 0) 0 114) 1 101) 2 102) 3 115 j)))) :: T) := hD
  refine va_putF (D := D) (ci := 12) (v := .ref q_149) (ty := .array .char) (C := RX12) (T := TX12) (N := 116) hx hb ht inX12 tyX12 tyX12_ok nmX12 hown hK hP hD hS 0 rfl rfl 100 (by decide) (ht (.fieldLink RX12 240 "CloneVolumesModel" "keyAsked" "[C") fl_X12_240) (fun _ h9 => h9) rfl hin rfl (by decide +kernel) rfl rfl (by rw [hlen]; decide) dX12_init_1665 (fun H locs hP hD hS => ?_)
  have hP : va_P D vwCl ((h0, .inr (12, (fs_148.set 100 (.ref q_149)))) :: (q_149, .inl (D.1 14, 3, .inl (fun j => i2 (upZ (upZ (upZ (fun _ => 0) 0 107) 1 101) 2 121 j)))) :: (q_147, .inl (D.1 14, 4, .inl (fun j => i2 (upZ (upZ (upZ (upZ (fun _ => 0) 0 114) 1 101) 2 102) 3 115 j)))) :: T) H := hP
  have hD : va_D A ((h0, .inr (12, (fs_148.set 100 (.ref q_149)))) :: (q_149, .inl (D.1 14, 3, .inl (fun j => i2 (upZ (upZ (upZ (fun _ => 0) 0 107) 1 101) 2 121 j)))) :: (q_147, .inl (D.1 14, 4, .inl (fun j => i2 (upZ (upZ (upZ (upZ (fun _ => 0) 0 114) 1 101) 2 102) 3 115 j)))) :: T) := hD
  generalize hfs_150 : fs_148.set 100 (.ref q_149) = fs_150 at hP hD
  have hlen : fs_150.length = 116 := by rw [← hfs_150, List.length_set]; exact hlen
  have hP : va_P D vwCl ((h0, .inr (12, fs_150)) :: (q_149, .inl (D.1 14, 3, .inl (fun j => i2 (upZ (upZ (upZ (fun _ => 0) 0 107) 1 101) 2 121 j)))) :: (q_147, .inl (D.1 14, 4, .inl (fun j => i2 (upZ (upZ (upZ (upZ (fun _ => 0) 0 114) 1 101) 2 102) 3 115 j)))) :: T) H := hP
  have hD : va_D A ((h0, .inr (12, fs_150)) :: (q_149, .inl (D.1 14, 3, .inl (fun j => i2 (upZ (upZ (upZ (fun _ => 0) 0 107) 1 101) 2 121 j)))) :: (q_147, .inl (D.1 14, 4, .inl (fun j => i2 (upZ (upZ (upZ (upZ (fun _ => 0) 0 114) 1 101) 2 102) 3 115 j)))) :: T) := hD
  refine lv_aload_n hx hb dX12_init_1668 rfl (lv_at hl 0 rfl) ?_
  refine lv_sipush (v := 1700) hx hb dX12_init_1669 (by decide) ?_
  refine va_newa (atype := .int) (a0 := (1700, .inl (fun _ => 0))) (ty := .int) (N' := 1700) hx hb (ht _ ac_int) rfl hK hP hD hS hA (fun _ => rfl) (by decide) (by decide) (by decide) (Nat.le_trans (Nat.le_of_ble_eq_true rfl) hRc) (Nat.le_trans (Nat.le_of_ble_eq_true rfl) hRs) dX12_init_1672 (fun q_151 cA H hK2 hP hD hS => ?_)
  obtain rfl := z_cls_int hK hK2
  refine W.widen (k := 75) (n := 29453) (Nat.le_of_ble_eq_true rfl) (Nat.le_of_ble_eq_true rfl) ?_
  obtain ⟨hP, hD⟩ := z_rot hP hD
  have hP : va_P D vwCl ((h0, .inr (12, fs_150)) :: (q_151, .inl (D.1 13, 1700, .inl (fun _ => 0))) :: (q_149, .inl (D.1 14, 3, .inl (fun j => i2 (upZ (upZ (upZ (fun _ => 0) 0 107) 1 101) 2 121 j)))) :: (q_147, .inl (D.1 14, 4, .inl (fun j => i2 (upZ (upZ (upZ (upZ (fun _ => 0) 0 114) 1 101) 2 102) 3 115 j)))) :: T) H := hP
  have hD : va_D A ((h0, .inr (12, fs_150)) :: (q_151, .inl (D.1 13, 1700, .inl (fun _ => 0))) :: (q_149, .inl (D.1 14, 3, .inl (fun j => i2 (upZ (upZ (upZ (fun _ => 0) 0 107) 1 101) 2 121 j)))) :: (q_147, .inl (D.1 14, 4, .inl (fun j => i2 (upZ (upZ (upZ (upZ (fun _ => 0) 0 114) 1 101) 2 102) 3 115 j)))) :: T) := hD
  refine va_putF (D := D) (ci := 12) (v := .ref q_151) (ty := .array .int) (C := RX12) (T := TX12) (N := 116) hx hb ht inX12 tyX12 tyX12_ok nmX12 hown hK hP hD hS 0 rfl rfl 101 (by decide) (ht (.fieldLink RX12 243 "CloneVolumesModel" "qCodes" "[I") fl_X12_243) (fun _ h9 => h9) rfl hin rfl (by decide +kernel) rfl rfl (by rw [hlen]; decide) dX12_init_1674 (fun H locs hP hD hS => ?_)
  have hP : va_P D vwCl ((h0, .inr (12, (fs_150.set 101 (.ref q_151)))) :: (q_151, .inl (D.1 13, 1700, .inl (fun _ => 0))) :: (q_149, .inl (D.1 14, 3, .inl (fun j => i2 (upZ (upZ (upZ (fun _ => 0) 0 107) 1 101) 2 121 j)))) :: (q_147, .inl (D.1 14, 4, .inl (fun j => i2 (upZ (upZ (upZ (upZ (fun _ => 0) 0 114) 1 101) 2 102) 3 115 j)))) :: T) H := hP
  have hD : va_D A ((h0, .inr (12, (fs_150.set 101 (.ref q_151)))) :: (q_151, .inl (D.1 13, 1700, .inl (fun _ => 0))) :: (q_149, .inl (D.1 14, 3, .inl (fun j => i2 (upZ (upZ (upZ (fun _ => 0) 0 107) 1 101) 2 121 j)))) :: (q_147, .inl (D.1 14, 4, .inl (fun j => i2 (upZ (upZ (upZ (upZ (fun _ => 0) 0 114) 1 101) 2 102) 3 115 j)))) :: T) := hD
  generalize hfs_152 : fs_150.set 101 (.ref q_151) = fs_152 at hP hD
  have hlen : fs_152.length = 116 := by rw [← hfs_152, List.length_set]; exact hlen
  have hP : va_P D vwCl ((h0, .inr (12, fs_152)) :: (q_151, .inl (D.1 13, 1700, .inl (fun _ => 0))) :: (q_149, .inl (D.1 14, 3, .inl (fun j => i2 (upZ (upZ (upZ (fun _ => 0) 0 107) 1 101) 2 121 j)))) :: (q_147, .inl (D.1 14, 4, .inl (fun j => i2 (upZ (upZ (upZ (upZ (fun _ => 0) 0 114) 1 101) 2 102) 3 115 j)))) :: T) H := hP
  have hD : va_D A ((h0, .inr (12, fs_152)) :: (q_151, .inl (D.1 13, 1700, .inl (fun _ => 0))) :: (q_149, .inl (D.1 14, 3, .inl (fun j => i2 (upZ (upZ (upZ (fun _ => 0) 0 107) 1 101) 2 121 j)))) :: (q_147, .inl (D.1 14, 4, .inl (fun j => i2 (upZ (upZ (upZ (upZ (fun _ => 0) 0 114) 1 101) 2 102) 3 115 j)))) :: T) := hD
  refine lv_aload_n hx hb dX12_init_1677 rfl (lv_at hl 0 rfl) ?_
  refine lv_sipush (v := 1700) hx hb dX12_init_1678 (by decide) ?_
  refine va_newa (atype := .int) (a0 := (1700, .inl (fun _ => 0))) (ty := .int) (N' := 1700) hx hb (ht _ ac_int) rfl hK hP hD hS hA (fun _ => rfl) (by decide) (by decide) (by decide) (Nat.le_trans (Nat.le_of_ble_eq_true rfl) hRc) (Nat.le_trans (Nat.le_of_ble_eq_true rfl) hRs) dX12_init_1681 (fun q_153 cA H hK2 hP hD hS => ?_)
  obtain rfl := z_cls_int hK hK2
  refine W.widen (k := 76) (n := 31153) (Nat.le_of_ble_eq_true rfl) (Nat.le_of_ble_eq_true rfl) ?_
  obtain ⟨hP, hD⟩ := z_rot hP hD
  have hP : va_P D vwCl ((h0, .inr (12, fs_152)) :: (q_153, .inl (D.1 13, 1700, .inl (fun _ => 0))) :: (q_151, .inl (D.1 13, 1700, .inl (fun _ => 0))) :: (q_149, .inl (D.1 14, 3, .inl (fun j => i2 (upZ (upZ (upZ (fun _ => 0) 0 107) 1 101) 2 121 j)))) :: (q_147, .inl (D.1 14, 4, .inl (fun j => i2 (upZ (upZ (upZ (upZ (fun _ => 0) 0 114) 1 101) 2 102) 3 115 j)))) :: T) H := hP
  have hD : va_D A ((h0, .inr (12, fs_152)) :: (q_153, .inl (D.1 13, 1700, .inl (fun _ => 0))) :: (q_151, .inl (D.1 13, 1700, .inl (fun _ => 0))) :: (q_149, .inl (D.1 14, 3, .inl (fun j => i2 (upZ (upZ (upZ (fun _ => 0) 0 107) 1 101) 2 121 j)))) :: (q_147, .inl (D.1 14, 4, .inl (fun j => i2 (upZ (upZ (upZ (upZ (fun _ => 0) 0 114) 1 101) 2 102) 3 115 j)))) :: T) := hD
  refine va_putF (D := D) (ci := 12) (v := .ref q_153) (ty := .array .int) (C := RX12) (T := TX12) (N := 116) hx hb ht inX12 tyX12 tyX12_ok nmX12 hown hK hP hD hS 0 rfl rfl 103 (by decide) (ht (.fieldLink RX12 246 "CloneVolumesModel" "qWait" "[I") fl_X12_246) (fun _ h9 => h9) rfl hin rfl (by decide +kernel) rfl rfl (by rw [hlen]; decide) dX12_init_1683 (fun H locs hP hD hS => ?_)
  have hP : va_P D vwCl ((h0, .inr (12, (fs_152.set 103 (.ref q_153)))) :: (q_153, .inl (D.1 13, 1700, .inl (fun _ => 0))) :: (q_151, .inl (D.1 13, 1700, .inl (fun _ => 0))) :: (q_149, .inl (D.1 14, 3, .inl (fun j => i2 (upZ (upZ (upZ (fun _ => 0) 0 107) 1 101) 2 121 j)))) :: (q_147, .inl (D.1 14, 4, .inl (fun j => i2 (upZ (upZ (upZ (upZ (fun _ => 0) 0 114) 1 101) 2 102) 3 115 j)))) :: T) H := hP
  have hD : va_D A ((h0, .inr (12, (fs_152.set 103 (.ref q_153)))) :: (q_153, .inl (D.1 13, 1700, .inl (fun _ => 0))) :: (q_151, .inl (D.1 13, 1700, .inl (fun _ => 0))) :: (q_149, .inl (D.1 14, 3, .inl (fun j => i2 (upZ (upZ (upZ (fun _ => 0) 0 107) 1 101) 2 121 j)))) :: (q_147, .inl (D.1 14, 4, .inl (fun j => i2 (upZ (upZ (upZ (upZ (fun _ => 0) 0 114) 1 101) 2 102) 3 115 j)))) :: T) := hD
  generalize hfs_154 : fs_152.set 103 (.ref q_153) = fs_154 at hP hD
  have hlen : fs_154.length = 116 := by rw [← hfs_154, List.length_set]; exact hlen
  have hP : va_P D vwCl ((h0, .inr (12, fs_154)) :: (q_153, .inl (D.1 13, 1700, .inl (fun _ => 0))) :: (q_151, .inl (D.1 13, 1700, .inl (fun _ => 0))) :: (q_149, .inl (D.1 14, 3, .inl (fun j => i2 (upZ (upZ (upZ (fun _ => 0) 0 107) 1 101) 2 121 j)))) :: (q_147, .inl (D.1 14, 4, .inl (fun j => i2 (upZ (upZ (upZ (upZ (fun _ => 0) 0 114) 1 101) 2 102) 3 115 j)))) :: T) H := hP
  have hD : va_D A ((h0, .inr (12, fs_154)) :: (q_153, .inl (D.1 13, 1700, .inl (fun _ => 0))) :: (q_151, .inl (D.1 13, 1700, .inl (fun _ => 0))) :: (q_149, .inl (D.1 14, 3, .inl (fun j => i2 (upZ (upZ (upZ (fun _ => 0) 0 107) 1 101) 2 121 j)))) :: (q_147, .inl (D.1 14, 4, .inl (fun j => i2 (upZ (upZ (upZ (upZ (fun _ => 0) 0 114) 1 101) 2 102) 3 115 j)))) :: T) := hD
  refine lv_aload_n hx hb dX12_init_1686 rfl (lv_at hl 0 rfl) ?_
  refine lv_sipush (v := 1700) hx hb dX12_init_1687 (by decide) ?_
  refine va_newa (atype := .long) (a0 := (1700, .inr (.inl (fun _ => 0)))) (ty := .long) (N' := 1700) hx hb (ht _ ac_long) rfl hK hP hD hS hA (fun _ => rfl) (by decide) (by decide) (by decide) (Nat.le_trans (Nat.le_of_ble_eq_true rfl) hRc) (Nat.le_trans (Nat.le_of_ble_eq_true rfl) hRs) dX12_init_1690 (fun q_155 cA H hK2 hP hD hS => ?_)
  obtain rfl := z_cls_long hK hK2
  refine W.widen (k := 77) (n := 32853) (Nat.le_of_ble_eq_true rfl) (Nat.le_of_ble_eq_true rfl) ?_
  obtain ⟨hP, hD⟩ := z_rot hP hD
  have hP : va_P D vwCl ((h0, .inr (12, fs_154)) :: (q_155, .inl (D.1 15, 1700, .inr (.inl (fun _ => 0)))) :: (q_153, .inl (D.1 13, 1700, .inl (fun _ => 0))) :: (q_151, .inl (D.1 13, 1700, .inl (fun _ => 0))) :: (q_149, .inl (D.1 14, 3, .inl (fun j => i2 (upZ (upZ (upZ (fun _ => 0) 0 107) 1 101) 2 121 j)))) :: (q_147, .inl (D.1 14, 4, .inl (fun j => i2 (upZ (upZ (upZ (upZ (fun _ => 0) 0 114) 1 101) 2 102) 3 115 j)))) :: T) H := hP
  have hD : va_D A ((h0, .inr (12, fs_154)) :: (q_155, .inl (D.1 15, 1700, .inr (.inl (fun _ => 0)))) :: (q_153, .inl (D.1 13, 1700, .inl (fun _ => 0))) :: (q_151, .inl (D.1 13, 1700, .inl (fun _ => 0))) :: (q_149, .inl (D.1 14, 3, .inl (fun j => i2 (upZ (upZ (upZ (fun _ => 0) 0 107) 1 101) 2 121 j)))) :: (q_147, .inl (D.1 14, 4, .inl (fun j => i2 (upZ (upZ (upZ (upZ (fun _ => 0) 0 114) 1 101) 2 102) 3 115 j)))) :: T) := hD
  refine va_putF (D := D) (ci := 12) (v := .ref q_155) (ty := .array .long) (C := RX12) (T := TX12) (N := 116) hx hb ht inX12 tyX12 tyX12_ok nmX12 hown hK hP hD hS 0 rfl rfl 107 (by decide) (ht (.fieldLink RX12 249 "CloneVolumesModel" "qPile" "[J") fl_X12_249) (fun _ h9 => h9) rfl hin rfl (by decide +kernel) rfl rfl (by rw [hlen]; decide) dX12_init_1692 (fun H locs hP hD hS => ?_)
  have hP : va_P D vwCl ((h0, .inr (12, (fs_154.set 107 (.ref q_155)))) :: (q_155, .inl (D.1 15, 1700, .inr (.inl (fun _ => 0)))) :: (q_153, .inl (D.1 13, 1700, .inl (fun _ => 0))) :: (q_151, .inl (D.1 13, 1700, .inl (fun _ => 0))) :: (q_149, .inl (D.1 14, 3, .inl (fun j => i2 (upZ (upZ (upZ (fun _ => 0) 0 107) 1 101) 2 121 j)))) :: (q_147, .inl (D.1 14, 4, .inl (fun j => i2 (upZ (upZ (upZ (upZ (fun _ => 0) 0 114) 1 101) 2 102) 3 115 j)))) :: T) H := hP
  have hD : va_D A ((h0, .inr (12, (fs_154.set 107 (.ref q_155)))) :: (q_155, .inl (D.1 15, 1700, .inr (.inl (fun _ => 0)))) :: (q_153, .inl (D.1 13, 1700, .inl (fun _ => 0))) :: (q_151, .inl (D.1 13, 1700, .inl (fun _ => 0))) :: (q_149, .inl (D.1 14, 3, .inl (fun j => i2 (upZ (upZ (upZ (fun _ => 0) 0 107) 1 101) 2 121 j)))) :: (q_147, .inl (D.1 14, 4, .inl (fun j => i2 (upZ (upZ (upZ (upZ (fun _ => 0) 0 114) 1 101) 2 102) 3 115 j)))) :: T) := hD
  generalize hfs_156 : fs_154.set 107 (.ref q_155) = fs_156 at hP hD
  have hlen : fs_156.length = 116 := by rw [← hfs_156, List.length_set]; exact hlen
  have hP : va_P D vwCl ((h0, .inr (12, fs_156)) :: (q_155, .inl (D.1 15, 1700, .inr (.inl (fun _ => 0)))) :: (q_153, .inl (D.1 13, 1700, .inl (fun _ => 0))) :: (q_151, .inl (D.1 13, 1700, .inl (fun _ => 0))) :: (q_149, .inl (D.1 14, 3, .inl (fun j => i2 (upZ (upZ (upZ (fun _ => 0) 0 107) 1 101) 2 121 j)))) :: (q_147, .inl (D.1 14, 4, .inl (fun j => i2 (upZ (upZ (upZ (upZ (fun _ => 0) 0 114) 1 101) 2 102) 3 115 j)))) :: T) H := hP
  have hD : va_D A ((h0, .inr (12, fs_156)) :: (q_155, .inl (D.1 15, 1700, .inr (.inl (fun _ => 0)))) :: (q_153, .inl (D.1 13, 1700, .inl (fun _ => 0))) :: (q_151, .inl (D.1 13, 1700, .inl (fun _ => 0))) :: (q_149, .inl (D.1 14, 3, .inl (fun j => i2 (upZ (upZ (upZ (fun _ => 0) 0 107) 1 101) 2 121 j)))) :: (q_147, .inl (D.1 14, 4, .inl (fun j => i2 (upZ (upZ (upZ (upZ (fun _ => 0) 0 114) 1 101) 2 102) 3 115 j)))) :: T) := hD
  exact kk q_155 q_153 q_151 q_149 q_147 fs_156 _ _ (by rw [← hfs_156, ← hfs_154, ← hfs_152, ← hfs_150, ← hfs_148]) hP hD hS
set_option maxHeartbeats 4000000 in
set_option maxRecDepth 100000 in
theorem cM_22 {p : Program} {l : Launch} {e : Env} {R : Room} {s : State} {m : MethodId} {args : Array Value} {below : List Frame} {meth : Method} {c : Code} {Q : State → Prop} {D : va_G} {A : Nat → Prop} {ls : Array Slot} {h0 : Nat} {T : va_W} (hx : p.tables.exec = Jvm.exec) (hb : c.code = cX12_init) (ht : ∀ w ∈ lw_gd, w.before args s = true) (hown : s.vm.findClass RX12 = some m.cls) (hin : meth.name = "<init>") (hK : va_K D vwCl (TY D) s) (hA : ∀ q : Nat, s.heap.size ≤ q → A q) (hRc : 80 ≤ R.cells) (hRs : 35050 ≤ R.slots) (hl : lv_has ls 1 [(0, .ref h0)]) {fs : List Value} (hlen : fs.length = 116) {H : Heap} {locs : List Loc} (hP : va_P D vwCl ((h0, .inr (12, fs)) :: T) H) (hD : va_D A ((h0, .inr (12, fs)) :: T)) (hS : va_S A s.heap H locs)
    (kk : ∀ (q_161 : Nat) (q_159 : Nat) (q_157 : Nat) (fs' : List Value) (H : Heap) (locs : List Loc), fs' = (((fs.set 111 (.ref q_157)).set 113 (.ref q_159)).set 115 (.ref q_161)) → va_P D vwCl ((h0, .inr (12, fs')) :: (q_161, .inl (D.1 13, 48, .inl (fun _ => 0))) :: (q_159, .inl (D.1 13, 785, .inl (fun _ => 0))) :: (q_157, .inl (D.1 13, 1364, .inl (fun _ => 0))) :: T) H → va_D A ((h0, .inr (12, fs')) :: (q_161, .inl (D.1 13, 48, .inl (fun _ => 0))) :: (q_159, .inl (D.1 13, 785, .inl (fun _ => 0))) :: (q_157, .inl (D.1 13, 1364, .inl (fun _ => 0))) :: T) → va_S A s.heap H locs → W p l e R s m args below meth c H locs 80 35050 Q (F0 m 1721 ls [])) : W p l e R s m args below meth c H locs 77 32853 Q (F0 m 1695 ls []) := by
  refine lv_aload_n hx hb dX12_init_1695 rfl (lv_at hl 0 rfl) ?_
  refine lv_sipush (v := 1364) hx hb dX12_init_1696 (by decide) ?_
  refine va_newa (atype := .int) (a0 := (1364, .inl (fun _ => 0))) (ty := .int) (N' := 1364) hx hb (ht _ ac_int) rfl hK hP hD hS hA (fun _ => rfl) (by decide) (by decide) (by decide) (Nat.le_trans (Nat.le_of_ble_eq_true rfl) hRc) (Nat.le_trans (Nat.le_of_ble_eq_true rfl) hRs) dX12_init_1699 (fun q_157 cA H hK2 hP hD hS => ?_)
  obtain rfl := z_cls_int hK hK2
  refine W.widen (k := 78) (n := 34217) (Nat.le_of_ble_eq_true rfl) (Nat.le_of_ble_eq_true rfl) ?_
  obtain ⟨hP, hD⟩ := z_rot hP hD
  have hP : va_P D vwCl ((h0, .inr (12, fs)) :: (q_157, .inl (D.1 13, 1364, .inl (fun _ => 0))) :: T) H := hP
  have hD : va_D A ((h0, .inr (12, fs)) :: (q_157, .inl (D.1 13, 1364, .inl (fun _ => 0))) :: T) := hD
  refine va_putF (D := D) (ci := 12) (v := .ref q_157) (ty := .array .int) (C := RX12) (T := TX12) (N := 116) hx hb ht inX12 tyX12 tyX12_ok nmX12 hown hK hP hD hS 0 rfl rfl 111 (by decide) (ht (.fieldLink RX12 252 "CloneVolumesModel" "octet" "[I") fl_X12_252) (fun _ h9 => h9) rfl hin rfl (by decide +kernel) rfl rfl (by rw [hlen]; decide) dX12_init_1701 (fun H locs hP hD hS => ?_)
  have hP : va_P D vwCl ((h0, .inr (12, (fs.set 111 (.ref q_157)))) :: (q_157, .inl (D.1 13, 1364, .inl (fun _ => 0))) :: T) H := hP
  have hD : va_D A ((h0, .inr (12, (fs.set 111 (.ref q_157)))) :: (q_157, .inl (D.1 13, 1364, .inl (fun _ => 0))) :: T) := hD
  generalize hfs_158 : fs.set 111 (.ref q_157) = fs_158 at hP hD
  have hlen : fs_158.length = 116 := by rw [← hfs_158, List.length_set]; exact hlen
  have hP : va_P D vwCl ((h0, .inr (12, fs_158)) :: (q_157, .inl (D.1 13, 1364, .inl (fun _ => 0))) :: T) H := hP
  have hD : va_D A ((h0, .inr (12, fs_158)) :: (q_157, .inl (D.1 13, 1364, .inl (fun _ => 0))) :: T) := hD
  refine lv_aload_n hx hb dX12_init_1704 rfl (lv_at hl 0 rfl) ?_
  refine lv_sipush (v := 785) hx hb dX12_init_1705 (by decide) ?_
  refine va_newa (atype := .int) (a0 := (785, .inl (fun _ => 0))) (ty := .int) (N' := 785) hx hb (ht _ ac_int) rfl hK hP hD hS hA (fun _ => rfl) (by decide) (by decide) (by decide) (Nat.le_trans (Nat.le_of_ble_eq_true rfl) hRc) (Nat.le_trans (Nat.le_of_ble_eq_true rfl) hRs) dX12_init_1708 (fun q_159 cA H hK2 hP hD hS => ?_)
  obtain rfl := z_cls_int hK hK2
  refine W.widen (k := 79) (n := 35002) (Nat.le_of_ble_eq_true rfl) (Nat.le_of_ble_eq_true rfl) ?_
  obtain ⟨hP, hD⟩ := z_rot hP hD
  have hP : va_P D vwCl ((h0, .inr (12, fs_158)) :: (q_159, .inl (D.1 13, 785, .inl (fun _ => 0))) :: (q_157, .inl (D.1 13, 1364, .inl (fun _ => 0))) :: T) H := hP
  have hD : va_D A ((h0, .inr (12, fs_158)) :: (q_159, .inl (D.1 13, 785, .inl (fun _ => 0))) :: (q_157, .inl (D.1 13, 1364, .inl (fun _ => 0))) :: T) := hD
  refine va_putF (D := D) (ci := 12) (v := .ref q_159) (ty := .array .int) (C := RX12) (T := TX12) (N := 116) hx hb ht inX12 tyX12 tyX12_ok nmX12 hown hK hP hD hS 0 rfl rfl 113 (by decide) (ht (.fieldLink RX12 255 "CloneVolumesModel" "laid" "[I") fl_X12_255) (fun _ h9 => h9) rfl hin rfl (by decide +kernel) rfl rfl (by rw [hlen]; decide) dX12_init_1710 (fun H locs hP hD hS => ?_)
  have hP : va_P D vwCl ((h0, .inr (12, (fs_158.set 113 (.ref q_159)))) :: (q_159, .inl (D.1 13, 785, .inl (fun _ => 0))) :: (q_157, .inl (D.1 13, 1364, .inl (fun _ => 0))) :: T) H := hP
  have hD : va_D A ((h0, .inr (12, (fs_158.set 113 (.ref q_159)))) :: (q_159, .inl (D.1 13, 785, .inl (fun _ => 0))) :: (q_157, .inl (D.1 13, 1364, .inl (fun _ => 0))) :: T) := hD
  generalize hfs_160 : fs_158.set 113 (.ref q_159) = fs_160 at hP hD
  have hlen : fs_160.length = 116 := by rw [← hfs_160, List.length_set]; exact hlen
  have hP : va_P D vwCl ((h0, .inr (12, fs_160)) :: (q_159, .inl (D.1 13, 785, .inl (fun _ => 0))) :: (q_157, .inl (D.1 13, 1364, .inl (fun _ => 0))) :: T) H := hP
  have hD : va_D A ((h0, .inr (12, fs_160)) :: (q_159, .inl (D.1 13, 785, .inl (fun _ => 0))) :: (q_157, .inl (D.1 13, 1364, .inl (fun _ => 0))) :: T) := hD
  refine lv_aload_n hx hb dX12_init_1713 rfl (lv_at hl 0 rfl) ?_
  refine lv_bipush (v := 48) hx hb dX12_init_1714 (by decide) ?_
  refine va_newa (atype := .int) (a0 := (48, .inl (fun _ => 0))) (ty := .int) (N' := 48) hx hb (ht _ ac_int) rfl hK hP hD hS hA (fun _ => rfl) (by decide) (by decide) (by decide) (Nat.le_trans (Nat.le_of_ble_eq_true rfl) hRc) (Nat.le_trans (Nat.le_of_ble_eq_true rfl) hRs) dX12_init_1716 (fun q_161 cA H hK2 hP hD hS => ?_)
  obtain rfl := z_cls_int hK hK2
  refine W.widen (k := 80) (n := 35050) (Nat.le_of_ble_eq_true rfl) (Nat.le_of_ble_eq_true rfl) ?_
  obtain ⟨hP, hD⟩ := z_rot hP hD
  have hP : va_P D vwCl ((h0, .inr (12, fs_160)) :: (q_161, .inl (D.1 13, 48, .inl (fun _ => 0))) :: (q_159, .inl (D.1 13, 785, .inl (fun _ => 0))) :: (q_157, .inl (D.1 13, 1364, .inl (fun _ => 0))) :: T) H := hP
  have hD : va_D A ((h0, .inr (12, fs_160)) :: (q_161, .inl (D.1 13, 48, .inl (fun _ => 0))) :: (q_159, .inl (D.1 13, 785, .inl (fun _ => 0))) :: (q_157, .inl (D.1 13, 1364, .inl (fun _ => 0))) :: T) := hD
  refine va_putF (D := D) (ci := 12) (v := .ref q_161) (ty := .array .int) (C := RX12) (T := TX12) (N := 116) hx hb ht inX12 tyX12 tyX12_ok nmX12 hown hK hP hD hS 0 rfl rfl 115 (by decide) (ht (.fieldLink RX12 258 "CloneVolumesModel" "recount" "[I") fl_X12_258) (fun _ h9 => h9) rfl hin rfl (by decide +kernel) rfl rfl (by rw [hlen]; decide) dX12_init_1718 (fun H locs hP hD hS => ?_)
  have hP : va_P D vwCl ((h0, .inr (12, (fs_160.set 115 (.ref q_161)))) :: (q_161, .inl (D.1 13, 48, .inl (fun _ => 0))) :: (q_159, .inl (D.1 13, 785, .inl (fun _ => 0))) :: (q_157, .inl (D.1 13, 1364, .inl (fun _ => 0))) :: T) H := hP
  have hD : va_D A ((h0, .inr (12, (fs_160.set 115 (.ref q_161)))) :: (q_161, .inl (D.1 13, 48, .inl (fun _ => 0))) :: (q_159, .inl (D.1 13, 785, .inl (fun _ => 0))) :: (q_157, .inl (D.1 13, 1364, .inl (fun _ => 0))) :: T) := hD
  generalize hfs_162 : fs_160.set 115 (.ref q_161) = fs_162 at hP hD
  have hlen : fs_162.length = 116 := by rw [← hfs_162, List.length_set]; exact hlen
  have hP : va_P D vwCl ((h0, .inr (12, fs_162)) :: (q_161, .inl (D.1 13, 48, .inl (fun _ => 0))) :: (q_159, .inl (D.1 13, 785, .inl (fun _ => 0))) :: (q_157, .inl (D.1 13, 1364, .inl (fun _ => 0))) :: T) H := hP
  have hD : va_D A ((h0, .inr (12, fs_162)) :: (q_161, .inl (D.1 13, 48, .inl (fun _ => 0))) :: (q_159, .inl (D.1 13, 785, .inl (fun _ => 0))) :: (q_157, .inl (D.1 13, 1364, .inl (fun _ => 0))) :: T) := hD
  exact kk q_161 q_159 q_157 fs_162 _ _ (by rw [← hfs_162, ← hfs_160, ← hfs_158]) hP hD hS
