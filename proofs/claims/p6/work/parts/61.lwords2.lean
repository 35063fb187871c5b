theorem wd_1641 : Cond.code yX11_init cX11_init 2 none ∈ lw_tbl := mt_1 (List.mem_of_getElem? (i := 26) rfl)
theorem wd_1642 : Cond.classLink RX11 50 RX10 ∈ lw_tbl := mt_1 (List.mem_of_getElem? (i := 179) rfl)
theorem wd_1643 : Cond.instantiable RX6 3 ∈ lw_tbl := mt_1 (List.mem_of_getElem? (i := 160) rfl)
theorem wd_1644 : Cond.classLink RX11 43 RX6 ∈ lw_tbl := mt_1 (List.mem_of_getElem? (i := 159) rfl)
theorem wd_1645 : Cond.instantiable RX9 9 ∈ lw_tbl := mt_1 (List.mem_of_getElem? (i := 98) rfl)
theorem wd_1646 : Cond.classLink RX11 33 RX9 ∈ lw_tbl := mt_1 (List.mem_of_getElem? (i := 97) rfl)
theorem wd_1647 : Cond.instantiable RX7 11 ∈ lw_tbl := mt_1 (List.mem_of_getElem? (i := 31) rfl)
theorem wd_1648 : Cond.classLink RX11 23 RX7 ∈ lw_tbl := mt_1 (List.mem_of_getElem? (i := 30) rfl)
theorem wd_1649 : Cond.arrayClass .int ∈ lw_tbl := mt_1 (List.mem_of_getElem? (i := 96) rfl)
theorem wd_1650 : Cond.code objectInit ⟨#[0xb1]⟩ 1 none ∈ lw_tbl := mt_1 (List.mem_of_getElem? (i := 29) rfl)
theorem wd_1651 : Cond.instanceMethod objectInit ∈ lw_tbl := mt_1 (List.mem_of_getElem? (i := 28) rfl)
theorem wd_1652 : Cond.methodLink RX11 3 objectInit ∈ lw_tbl := mt_1 (List.mem_of_getElem? (i := 27) rfl)
set_option maxRecDepth 20000 in
theorem hl_wsX11_init_r1 : ∀ w ∈ wsX11_init_r1, w ∈ lw_tbl := by
  unfold wsX11_init_r1
  exact (List.forall_mem_cons.mpr ⟨wd_1652, (List.forall_mem_cons.mpr ⟨wd_1651, (List.forall_mem_cons.mpr ⟨wd_1650, (List.forall_mem_cons.mpr ⟨wd_1649, (List.forall_mem_cons.mpr ⟨wd_5, (List.forall_mem_cons.mpr ⟨wd_10, (List.forall_mem_cons.mpr ⟨wd_88, (List.forall_mem_cons.mpr ⟨wd_86, (List.forall_mem_cons.mpr ⟨wd_1648, (List.forall_mem_cons.mpr ⟨wd_1647, (List.forall_mem_cons.mpr ⟨wd_114, (List.forall_mem_cons.mpr ⟨wd_85, (List.forall_mem_cons.mpr ⟨wd_91, (List.forall_mem_cons.mpr ⟨wd_1646, (List.forall_mem_cons.mpr ⟨wd_1645, (List.forall_mem_cons.mpr ⟨wd_102, (List.forall_mem_cons.mpr ⟨wd_84, (List.forall_mem_cons.mpr ⟨wd_90, (List.forall_mem_cons.mpr ⟨wd_1644, (List.forall_mem_cons.mpr ⟨wd_1643, (List.forall_mem_cons.mpr ⟨wd_368, (List.forall_mem_cons.mpr ⟨wd_336, (List.forall_mem_cons.mpr ⟨wd_1642, (List.forall_mem_cons.mpr ⟨wd_929, (fun _ h => absurd h List.not_mem_nil)⟩)⟩)⟩)⟩)⟩)⟩)⟩)⟩)⟩)⟩)⟩)⟩)⟩)⟩)⟩)⟩)⟩)⟩)⟩)⟩)⟩)⟩)⟩)⟩)
theorem wd_1653 : Cond.instantiable RX10 3 ∈ lw_tbl := mt_2 (List.mem_of_getElem? (i := 88) rfl)
theorem wd_1654 : Cond.instantiable RX0 5 ∈ lw_tbl := mt_2 (List.mem_of_getElem? (i := 65) rfl)
theorem wd_1655 : Cond.classLink RX11 98 RX0 ∈ lw_tbl := mt_2 (List.mem_of_getElem? (i := 64) rfl)
theorem wd_1656 : Cond.instantiable RX5 14 ∈ lw_tbl := mt_2 (List.mem_of_getElem? (i := 12) rfl)
theorem wd_1657 : Cond.classLink RX11 89 RX5 ∈ lw_tbl := mt_2 (List.mem_of_getElem? (i := 11) rfl)
theorem wd_1658 : Cond.instantiable RX1 1 ∈ lw_tbl := mt_2 (List.mem_of_getElem? (i := 2) rfl)
theorem wd_1659 : Cond.classLink RX11 80 RX1 ∈ lw_tbl := mt_2 (List.mem_of_getElem? (i := 1) rfl)
theorem wd_1660 : Cond.instantiable RX4 7 ∈ lw_tbl := mt_1 (List.mem_of_getElem? (i := 214) rfl)
theorem wd_1661 : Cond.classLink RX11 71 RX4 ∈ lw_tbl := mt_1 (List.mem_of_getElem? (i := 213) rfl)
theorem wd_1662 : Cond.instantiable RX8 7 ∈ lw_tbl := mt_1 (List.mem_of_getElem? (i := 184) rfl)
theorem wd_1663 : Cond.classLink RX11 62 RX8 ∈ lw_tbl := mt_1 (List.mem_of_getElem? (i := 183) rfl)
theorem wd_1664 : Cond.classLink RX11 56 RX2 ∈ lw_tbl := mt_1 (List.mem_of_getElem? (i := 181) rfl)
set_option maxRecDepth 20000 in
theorem hl_wsX11_init_r2 : ∀ w ∈ wsX11_init_r2, w ∈ lw_tbl := by
  unfold wsX11_init_r2
  exact (List.forall_mem_cons.mpr ⟨wd_1664, (List.forall_mem_cons.mpr ⟨wd_1614, (List.forall_mem_cons.mpr ⟨wd_1663, (List.forall_mem_cons.mpr ⟨wd_1662, (List.forall_mem_cons.mpr ⟨wd_78, (List.forall_mem_cons.mpr ⟨wd_92, (List.forall_mem_cons.mpr ⟨wd_1661, (List.forall_mem_cons.mpr ⟨wd_1660, (List.forall_mem_cons.mpr ⟨wd_362, (List.forall_mem_cons.mpr ⟨wd_335, (List.forall_mem_cons.mpr ⟨wd_1659, (List.forall_mem_cons.mpr ⟨wd_1658, (List.forall_mem_cons.mpr ⟨wd_736, (List.forall_mem_cons.mpr ⟨wd_740, (List.forall_mem_cons.mpr ⟨wd_1657, (List.forall_mem_cons.mpr ⟨wd_1656, (List.forall_mem_cons.mpr ⟨wd_1030, (List.forall_mem_cons.mpr ⟨wd_1034, (List.forall_mem_cons.mpr ⟨wd_1655, (List.forall_mem_cons.mpr ⟨wd_1654, (List.forall_mem_cons.mpr ⟨wd_1428, (List.forall_mem_cons.mpr ⟨wd_1413, (List.forall_mem_cons.mpr ⟨wd_1653, (List.forall_mem_cons.mpr ⟨wd_920, (fun _ h => absurd h List.not_mem_nil)⟩)⟩)⟩)⟩)⟩)⟩)⟩)⟩)⟩)⟩)⟩)⟩)⟩)⟩)⟩)⟩)⟩)⟩)⟩)⟩)⟩)⟩)⟩)⟩)
theorem wd_1665 : Cond.methodLink RX9 3 objectInit ∈ lw_tbl := mt_1 (List.mem_of_getElem? (i := 102) rfl)
theorem wd_1666 : Cond.code yX9_init cX9_init 1 none ∈ lw_tbl := mt_1 (List.mem_of_getElem? (i := 101) rfl)
theorem wd_1667 : Cond.instanceMethod yX9_init ∈ lw_tbl := mt_1 (List.mem_of_getElem? (i := 100) rfl)
theorem wd_1668 : Cond.methodLink RX7 3 objectInit ∈ lw_tbl := mt_1 (List.mem_of_getElem? (i := 35) rfl)
theorem wd_1669 : Cond.code yX7_init cX7_init 1 none ∈ lw_tbl := mt_1 (List.mem_of_getElem? (i := 34) rfl)
theorem wd_1670 : Cond.instanceMethod yX7_init ∈ lw_tbl := mt_1 (List.mem_of_getElem? (i := 33) rfl)
theorem wd_1671 : Cond.initialized RX2 ∈ lw_tbl := mt_1 (List.mem_of_getElem? (i := 11) rfl)
theorem wd_1672 : Cond.instantiable RX2 3 ∈ lw_tbl := mt_2 (List.mem_of_getElem? (i := 103) rfl)
set_option maxRecDepth 20000 in
theorem hl_wsX11_init_r3 : ∀ w ∈ wsX11_init_r3, w ∈ lw_tbl := by
  unfold wsX11_init_r3
  exact (List.forall_mem_cons.mpr ⟨wd_1672, (List.forall_mem_cons.mpr ⟨wd_1671, (List.forall_mem_cons.mpr ⟨wd_1670, (List.forall_mem_cons.mpr ⟨wd_1669, (List.forall_mem_cons.mpr ⟨wd_1668, (List.forall_mem_cons.mpr ⟨wd_112, (List.forall_mem_cons.mpr ⟨wd_111, (List.forall_mem_cons.mpr ⟨wd_1606, (List.forall_mem_cons.mpr ⟨wd_1605, (List.forall_mem_cons.mpr ⟨wd_862, (List.forall_mem_cons.mpr ⟨wd_1604, (List.forall_mem_cons.mpr ⟨wd_110, (List.forall_mem_cons.mpr ⟨wd_109, (List.forall_mem_cons.mpr ⟨wd_108, (List.forall_mem_cons.mpr ⟨wd_107, (List.forall_mem_cons.mpr ⟨wd_106, (List.forall_mem_cons.mpr ⟨wd_1667, (List.forall_mem_cons.mpr ⟨wd_1666, (List.forall_mem_cons.mpr ⟨wd_1665, (List.forall_mem_cons.mpr ⟨wd_100, (List.forall_mem_cons.mpr ⟨wd_342, (List.forall_mem_cons.mpr ⟨wd_341, (List.forall_mem_cons.mpr ⟨wd_99, (List.forall_mem_cons.mpr ⟨wd_98, (fun _ h => absurd h List.not_mem_nil)⟩)⟩)⟩)⟩)⟩)⟩)⟩)⟩)⟩)⟩)⟩)⟩)⟩)⟩)⟩)⟩)⟩)⟩)⟩)⟩)⟩)⟩)⟩)⟩)
theorem wd_1673 : Cond.methodLink RX11 73 yX4_init ∈ lw_tbl := mt_1 (List.mem_of_getElem? (i := 215) rfl)
theorem wd_1674 : Cond.methodLink RX8 3 objectInit ∈ lw_tbl := mt_1 (List.mem_of_getElem? (i := 188) rfl)
theorem wd_1675 : Cond.code yX8_init cX8_init 3 none ∈ lw_tbl := mt_1 (List.mem_of_getElem? (i := 187) rfl)
theorem wd_1676 : Cond.instanceMethod yX8_init ∈ lw_tbl := mt_1 (List.mem_of_getElem? (i := 186) rfl)
theorem wd_1677 : Cond.methodLink RX11 64 yX8_init ∈ lw_tbl := mt_1 (List.mem_of_getElem? (i := 185) rfl)
theorem wd_1678 : Cond.classLink RX6 9 RX9 ∈ lw_tbl := mt_1 (List.mem_of_getElem? (i := 165) rfl)
theorem wd_1679 : Cond.methodLink RX6 3 objectInit ∈ lw_tbl := mt_1 (List.mem_of_getElem? (i := 164) rfl)
theorem wd_1680 : Cond.code yX6_init cX6_init 2 none ∈ lw_tbl := mt_1 (List.mem_of_getElem? (i := 163) rfl)
theorem wd_1681 : Cond.instanceMethod yX6_init ∈ lw_tbl := mt_1 (List.mem_of_getElem? (i := 162) rfl)
theorem wd_1682 : Cond.methodLink RX11 45 yX6_init ∈ lw_tbl := mt_1 (List.mem_of_getElem? (i := 161) rfl)
set_option maxRecDepth 20000 in
theorem hl_wsX11_init_r4 : ∀ w ∈ wsX11_init_r4, w ∈ lw_tbl := by
  unfold wsX11_init_r4
  exact (List.forall_mem_cons.mpr ⟨wd_97, (List.forall_mem_cons.mpr ⟨wd_96, (List.forall_mem_cons.mpr ⟨wd_95, (List.forall_mem_cons.mpr ⟨wd_94, (List.forall_mem_cons.mpr ⟨wd_1682, (List.forall_mem_cons.mpr ⟨wd_1681, (List.forall_mem_cons.mpr ⟨wd_1680, (List.forall_mem_cons.mpr ⟨wd_1679, (List.forall_mem_cons.mpr ⟨wd_1678, (List.forall_mem_cons.mpr ⟨wd_711, (List.forall_mem_cons.mpr ⟨wd_710, (List.forall_mem_cons.mpr ⟨wd_366, (List.forall_mem_cons.mpr ⟨wd_1677, (List.forall_mem_cons.mpr ⟨wd_1676, (List.forall_mem_cons.mpr ⟨wd_1675, (List.forall_mem_cons.mpr ⟨wd_1674, (List.forall_mem_cons.mpr ⟨wd_136, (List.forall_mem_cons.mpr ⟨wd_137, (List.forall_mem_cons.mpr ⟨wd_74, (List.forall_mem_cons.mpr ⟨wd_73, (List.forall_mem_cons.mpr ⟨wd_72, (List.forall_mem_cons.mpr ⟨wd_76, (List.forall_mem_cons.mpr ⟨wd_75, (List.forall_mem_cons.mpr ⟨wd_1673, (fun _ h => absurd h List.not_mem_nil)⟩)⟩)⟩)⟩)⟩)⟩)⟩)⟩)⟩)⟩)⟩)⟩)⟩)⟩)⟩)⟩)⟩)⟩)⟩)⟩)⟩)⟩)⟩)⟩)
theorem wd_1683 : Cond.arrayClass .long ∈ lw_tbl := mt_2 (List.mem_of_getElem? (i := 63) rfl)
theorem wd_1684 : Cond.methodLink RX5 3 objectInit ∈ lw_tbl := mt_2 (List.mem_of_getElem? (i := 16) rfl)
theorem wd_1685 : Cond.code yX5_init cX5_init 4 none ∈ lw_tbl := mt_2 (List.mem_of_getElem? (i := 15) rfl)
theorem wd_1686 : Cond.instanceMethod yX5_init ∈ lw_tbl := mt_2 (List.mem_of_getElem? (i := 14) rfl)
theorem wd_1687 : Cond.methodLink RX11 91 yX5_init ∈ lw_tbl := mt_2 (List.mem_of_getElem? (i := 13) rfl)
theorem wd_1688 : Cond.methodLink RX1 3 objectInit ∈ lw_tbl := mt_2 (List.mem_of_getElem? (i := 6) rfl)
theorem wd_1689 : Cond.code yX1_init cX1_init 2 none ∈ lw_tbl := mt_2 (List.mem_of_getElem? (i := 5) rfl)
theorem wd_1690 : Cond.instanceMethod yX1_init ∈ lw_tbl := mt_2 (List.mem_of_getElem? (i := 4) rfl)
theorem wd_1691 : Cond.methodLink RX11 82 yX1_init ∈ lw_tbl := mt_2 (List.mem_of_getElem? (i := 3) rfl)
theorem wd_1692 : Cond.methodLink RX4 5 objectInit ∈ lw_tbl := mt_1 (List.mem_of_getElem? (i := 218) rfl)
theorem wd_1693 : Cond.code yX4_init cX4_init 2 none ∈ lw_tbl := mt_1 (List.mem_of_getElem? (i := 217) rfl)
theorem wd_1694 : Cond.instanceMethod yX4_init ∈ lw_tbl := mt_1 (List.mem_of_getElem? (i := 216) rfl)
set_option maxRecDepth 20000 in
theorem hl_wsX11_init_r5 : ∀ w ∈ wsX11_init_r5, w ∈ lw_tbl := by
  unfold wsX11_init_r5
  exact (List.forall_mem_cons.mpr ⟨wd_1694, (List.forall_mem_cons.mpr ⟨wd_1693, (List.forall_mem_cons.mpr ⟨wd_1692, (List.forall_mem_cons.mpr ⟨wd_573, (List.forall_mem_cons.mpr ⟨wd_360, (List.forall_mem_cons.mpr ⟨wd_575, (List.forall_mem_cons.mpr ⟨wd_593, (List.forall_mem_cons.mpr ⟨wd_586, (List.forall_mem_cons.mpr ⟨wd_577, (List.forall_mem_cons.mpr ⟨wd_540, (List.forall_mem_cons.mpr ⟨wd_1691, (List.forall_mem_cons.mpr ⟨wd_1690, (List.forall_mem_cons.mpr ⟨wd_1689, (List.forall_mem_cons.mpr ⟨wd_1688, (List.forall_mem_cons.mpr ⟨wd_754, (List.forall_mem_cons.mpr ⟨wd_1687, (List.forall_mem_cons.mpr ⟨wd_1686, (List.forall_mem_cons.mpr ⟨wd_1685, (List.forall_mem_cons.mpr ⟨wd_1684, (List.forall_mem_cons.mpr ⟨wd_1042, (List.forall_mem_cons.mpr ⟨wd_1028, (List.forall_mem_cons.mpr ⟨wd_1056, (List.forall_mem_cons.mpr ⟨wd_1683, (List.forall_mem_cons.mpr ⟨wd_1137, (fun _ h => absurd h List.not_mem_nil)⟩)⟩)⟩)⟩)⟩)⟩)⟩)⟩)⟩)⟩)⟩)⟩)⟩)⟩)⟩)⟩)⟩)⟩)⟩)⟩)⟩)⟩)⟩)⟩)
theorem wd_1695 : Cond.methodLink RX10 3 objectInit ∈ lw_tbl := mt_2 (List.mem_of_getElem? (i := 92) rfl)
theorem wd_1696 : Cond.code yX10_init cX10_init 1 none ∈ lw_tbl := mt_2 (List.mem_of_getElem? (i := 91) rfl)
theorem wd_1697 : Cond.instanceMethod yX10_init ∈ lw_tbl := mt_2 (List.mem_of_getElem? (i := 90) rfl)
theorem wd_1698 : Cond.methodLink RX0 3 objectInit ∈ lw_tbl := mt_2 (List.mem_of_getElem? (i := 69) rfl)
theorem wd_1699 : Cond.code yX0_init cX0_init 2 none ∈ lw_tbl := mt_2 (List.mem_of_getElem? (i := 68) rfl)
theorem wd_1700 : Cond.instanceMethod yX0_init ∈ lw_tbl := mt_2 (List.mem_of_getElem? (i := 67) rfl)
theorem wd_1701 : Cond.methodLink RX11 100 yX0_init ∈ lw_tbl := mt_2 (List.mem_of_getElem? (i := 66) rfl)
set_option maxRecDepth 20000 in
theorem hl_wsX11_init_r6 : ∀ w ∈ wsX11_init_r6, w ∈ lw_tbl := by
  unfold wsX11_init_r6
  exact (List.forall_mem_cons.mpr ⟨wd_1129, (List.forall_mem_cons.mpr ⟨wd_1238, (List.forall_mem_cons.mpr ⟨wd_1237, (List.forall_mem_cons.mpr ⟨wd_1236, (List.forall_mem_cons.mpr ⟨wd_1026, (List.forall_mem_cons.mpr ⟨wd_1019, (List.forall_mem_cons.mpr ⟨wd_1027, (List.forall_mem_cons.mpr ⟨wd_1017, (List.forall_mem_cons.mpr ⟨wd_1021, (List.forall_mem_cons.mpr ⟨wd_1020, (List.forall_mem_cons.mpr ⟨wd_1701, (List.forall_mem_cons.mpr ⟨wd_1700, (List.forall_mem_cons.mpr ⟨wd_1699, (List.forall_mem_cons.mpr ⟨wd_1698, (List.forall_mem_cons.mpr ⟨wd_1443, (List.forall_mem_cons.mpr ⟨wd_1487, (List.forall_mem_cons.mpr ⟨wd_1426, (List.forall_mem_cons.mpr ⟨wd_1424, (List.forall_mem_cons.mpr ⟨wd_1425, (List.forall_mem_cons.mpr ⟨wd_1697, (List.forall_mem_cons.mpr ⟨wd_1696, (List.forall_mem_cons.mpr ⟨wd_1695, (List.forall_mem_cons.mpr ⟨wd_931, (List.forall_mem_cons.mpr ⟨wd_1561, (fun _ h => absurd h List.not_mem_nil)⟩)⟩)⟩)⟩)⟩)⟩)⟩)⟩)⟩)⟩)⟩)⟩)⟩)⟩)⟩)⟩)⟩)⟩)⟩)⟩)⟩)⟩)⟩)⟩)
theorem wd_1702 : Cond.fieldLink RX2 23 "OneOfEach$Image" "stock" "LOneOfEach$Stock;" ∈ lw_tbl := mt_2 (List.mem_of_getElem? (i := 116) rfl)
theorem wd_1703 : Cond.classLink RX2 20 RX9 ∈ lw_tbl := mt_2 (List.mem_of_getElem? (i := 110) rfl)
theorem wd_1704 : Cond.fieldLink RX2 16 "OneOfEach$Image" "plan" "LOneOfEach$Plan;" ∈ lw_tbl := mt_2 (List.mem_of_getElem? (i := 114) rfl)
theorem wd_1705 : Cond.classLink RX2 13 RX7 ∈ lw_tbl := mt_2 (List.mem_of_getElem? (i := 108) rfl)
theorem wd_1706 : Cond.fieldLink RX2 7 "OneOfEach$Image" "made" "Z" ∈ lw_tbl := mt_2 (List.mem_of_getElem? (i := 112) rfl)
theorem wd_1707 : Cond.methodLink RX2 1 objectInit ∈ lw_tbl := mt_2 (List.mem_of_getElem? (i := 107) rfl)
theorem wd_1708 : Cond.code yX2_init cX2_init 1 none ∈ lw_tbl := mt_2 (List.mem_of_getElem? (i := 106) rfl)
theorem wd_1709 : Cond.instanceMethod yX2_init ∈ lw_tbl := mt_2 (List.mem_of_getElem? (i := 105) rfl)
set_option maxRecDepth 20000 in
theorem hl_wsX11_init_r7 : ∀ w ∈ wsX11_init_r7, w ∈ lw_tbl := by
  unfold wsX11_init_r7
  exact (List.forall_mem_cons.mpr ⟨wd_918, (List.forall_mem_cons.mpr ⟨wd_1709, (List.forall_mem_cons.mpr ⟨wd_1708, (List.forall_mem_cons.mpr ⟨wd_1707, (List.forall_mem_cons.mpr ⟨wd_1706, (List.forall_mem_cons.mpr ⟨wd_1705, (List.forall_mem_cons.mpr ⟨wd_1704, (List.forall_mem_cons.mpr ⟨wd_1703, (List.forall_mem_cons.mpr ⟨wd_1702, (fun _ h => absurd h List.not_mem_nil)⟩)⟩)⟩)⟩)⟩)⟩)⟩)⟩)⟩)
set_option maxRecDepth 20000 in
theorem hl_wsX11_init : ∀ w ∈ wsX11_init, w ∈ lw_tbl := by
  unfold wsX11_init
  exact (List.forall_mem_cons.mpr ⟨wd_1641, (List.forall_mem_append.mpr ⟨(List.forall_mem_append.mpr ⟨(List.forall_mem_append.mpr ⟨(List.forall_mem_append.mpr ⟨(List.forall_mem_append.mpr ⟨(List.forall_mem_append.mpr ⟨(List.forall_mem_append.mpr ⟨(List.forall_mem_append.mpr ⟨(List.forall_mem_append.mpr ⟨(List.forall_mem_append.mpr ⟨(List.forall_mem_append.mpr ⟨(List.forall_mem_append.mpr ⟨hl_wsX11_init_r1, (List.forall_mem_append.mpr ⟨hl_wsX11_init_r2, (List.forall_mem_append.mpr ⟨hl_wsX11_init_r3, (List.forall_mem_append.mpr ⟨hl_wsX11_init_r4, (List.forall_mem_append.mpr ⟨hl_wsX11_init_r5, (List.forall_mem_append.mpr ⟨hl_wsX11_init_r6, hl_wsX11_init_r7⟩)⟩)⟩)⟩)⟩)⟩), hl_wsX110⟩), hl_wsX70⟩), hl_wsX90⟩), hl_wsX60⟩), hl_wsX80⟩), hl_wsX40⟩), hl_wsX10⟩), hl_wsX50⟩), hl_wsX00⟩), hl_wsX100⟩), hl_wsX20⟩)⟩)
set_option maxRecDepth 20000 in
theorem gi_X11 : GoodIn lw_tbl wsX11_init := fun w h => ⟨hl_wsX11_init w h, good_of_word (List.all_eq_true.mp (show wsX11_init.all goodWord = true by decide +kernel) w h)⟩
theorem wd_1710 : Cond.code yX12_init cX12_init 1 none ∈ lw_tbl := mt_6 (List.mem_of_getElem? (i := 23) rfl)
theorem wd_1711 : Cond.arrayClass .boolean ∈ lw_tbl := mt_6 (List.mem_of_getElem? (i := 125) rfl)
theorem wd_1712 : Cond.methodLink RX12 7 objectInit ∈ lw_tbl := mt_6 (List.mem_of_getElem? (i := 24) rfl)
set_option maxRecDepth 20000 in
theorem hl_wsX12_init_r1 : ∀ w ∈ wsX12_init_r1, w ∈ lw_tbl := by
  unfold wsX12_init_r1
  exact (List.forall_mem_cons.mpr ⟨wd_1712, (List.forall_mem_cons.mpr ⟨wd_1651, (List.forall_mem_cons.mpr ⟨wd_1650, (List.forall_mem_cons.mpr ⟨wd_1649, (List.forall_mem_cons.mpr ⟨wd_423, (List.forall_mem_cons.mpr ⟨wd_1711, (List.forall_mem_cons.mpr ⟨wd_1622, (List.forall_mem_cons.mpr ⟨wd_32, (List.forall_mem_cons.mpr ⟨wd_428, (List.forall_mem_cons.mpr ⟨wd_424, (List.forall_mem_cons.mpr ⟨wd_632, (List.forall_mem_cons.mpr ⟨wd_633, (List.forall_mem_cons.mpr ⟨wd_729, (List.forall_mem_cons.mpr ⟨wd_1083, (List.forall_mem_cons.mpr ⟨wd_1096, (List.forall_mem_cons.mpr ⟨wd_1122, (List.forall_mem_cons.mpr ⟨wd_1205, (List.forall_mem_cons.mpr ⟨wd_1683, (List.forall_mem_cons.mpr ⟨wd_1172, (List.forall_mem_cons.mpr ⟨wd_1167, (List.forall_mem_cons.mpr ⟨wd_1271, (List.forall_mem_cons.mpr ⟨wd_1458, (List.forall_mem_cons.mpr ⟨wd_1495, (List.forall_mem_cons.mpr ⟨wd_957, (fun _ h => absurd h List.not_mem_nil)⟩)⟩)⟩)⟩)⟩)⟩)⟩)⟩)⟩)⟩)⟩)⟩)⟩)⟩)⟩)⟩)⟩)⟩)⟩)⟩)⟩)⟩)⟩)⟩)
set_option maxRecDepth 20000 in
theorem hl_wsX12_init_r2 : ∀ w ∈ wsX12_init_r2, w ∈ lw_tbl := by
  unfold wsX12_init_r2
  exact (List.forall_mem_cons.mpr ⟨wd_952, (List.forall_mem_cons.mpr ⟨wd_951, (List.forall_mem_cons.mpr ⟨wd_419, (List.forall_mem_cons.mpr ⟨wd_418, (List.forall_mem_cons.mpr ⟨wd_27, (List.forall_mem_cons.mpr ⟨wd_417, (fun _ h => absurd h List.not_mem_nil)⟩)⟩)⟩)⟩)⟩)⟩)
set_option maxRecDepth 20000 in
theorem hl_wsX12_init : ∀ w ∈ wsX12_init, w ∈ lw_tbl := by
  unfold wsX12_init
  exact (List.forall_mem_cons.mpr ⟨wd_1710, (List.forall_mem_append.mpr ⟨(List.forall_mem_append.mpr ⟨hl_wsX12_init_r1, hl_wsX12_init_r2⟩), hl_wsX120⟩)⟩)
set_option maxRecDepth 20000 in
theorem gi_X12 : GoodIn lw_tbl wsX12_init := fun w h => ⟨hl_wsX12_init w h, good_of_word (List.all_eq_true.mp (show wsX12_init.all goodWord = true by decide +kernel) w h)⟩
theorem wd_1713 : Cond.instantiable RX11 16 ∈ lw_tbl := mt_1 (List.mem_of_getElem? (i := 23) rfl)
theorem wd_1714 : Cond.instantiable RX12 32 ∈ lw_tbl := mt_6 (List.mem_of_getElem? (i := 20) rfl)
theorem wd_1715 : Cond.stringRef RX3 23 (js_tx 0) ∈ lw_tbl := mt_3 (List.mem_of_getElem? (i := 24) rfl)
theorem wd_1716 : Cond.stringRef RX3 31 (js_tx 1) ∈ lw_tbl := mt_2 (List.mem_of_getElem? (i := 220) rfl)
theorem wd_1717 : Cond.stringRef RX12 86 (js_tx 2) ∈ lw_tbl := mt_6 (List.mem_of_getElem? (i := 152) rfl)
theorem wd_1718 : Cond.stringRef RX12 124 (js_tx 3) ∈ lw_tbl := mt_6 (List.mem_of_getElem? (i := 158) rfl)
theorem wd_1719 : Cond.methodLinkNest RX2 15 yX7_init RX11 ∈ lw_tbl := mt_2 (List.mem_of_getElem? (i := 109) rfl)
theorem wd_1720 : Cond.methodLinkNest RX2 22 yX9_init RX11 ∈ lw_tbl := mt_2 (List.mem_of_getElem? (i := 111) rfl)
theorem wd_1721 : Cond.methodLinkNest RX6 24 yX9_init RX11 ∈ lw_tbl := mt_1 (List.mem_of_getElem? (i := 167) rfl)
theorem wd_1722 : Cond.methodLinkNest RX11 25 yX7_init RX11 ∈ lw_tbl := mt_1 (List.mem_of_getElem? (i := 32) rfl)
theorem wd_1723 : Cond.methodLinkNest RX11 35 yX9_init RX11 ∈ lw_tbl := mt_1 (List.mem_of_getElem? (i := 99) rfl)
theorem wd_1724 : Cond.methodLinkNest RX11 107 yX10_init RX11 ∈ lw_tbl := mt_2 (List.mem_of_getElem? (i := 89) rfl)
theorem wd_1725 : Cond.methodLinkNest RX11 108 yX2_init RX11 ∈ lw_tbl := mt_2 (List.mem_of_getElem? (i := 104) rfl)
theorem wd_1726 : Cond.arrayOver (.object RX9) ∈ lw_tbl := mt_1 (List.mem_of_getElem? (i := 166) rfl)
theorem wd_1727 : Cond.arrayOver (.object RX10) ∈ lw_tbl := mt_1 (List.mem_of_getElem? (i := 180) rfl)
theorem wd_1728 : Cond.arrayOver (.object RX2) ∈ lw_tbl := mt_1 (List.mem_of_getElem? (i := 182) rfl)
theorem wd_1729 : Cond.classLink RL 7 RX11 ∈ lw_tbl := mt_1 (List.mem_of_getElem? (i := 22) rfl)
theorem wd_1730 : Cond.methodLink RL 9 yX11_init ∈ lw_tbl := mt_1 (List.mem_of_getElem? (i := 24) rfl)
theorem wd_1731 : Cond.instanceMethod yX11_init ∈ lw_tbl := mt_1 (List.mem_of_getElem? (i := 25) rfl)
theorem wd_1732 : Cond.classLink RL 10 RX12 ∈ lw_tbl := mt_6 (List.mem_of_getElem? (i := 19) rfl)
theorem wd_1733 : Cond.methodLink RL 12 yX12_init ∈ lw_tbl := mt_6 (List.mem_of_getElem? (i := 21) rfl)
theorem wd_1734 : Cond.instanceMethod yX12_init ∈ lw_tbl := mt_6 (List.mem_of_getElem? (i := 22) rfl)
theorem wd_1735 : Cond.laysStatic "java/lang/String" "COMPACT_STRINGS" "Z" ∈ lw_tbl := mt_2 (List.mem_of_getElem? (i := 230) rfl)
theorem wd_1736 : Cond.initialized "java/lang/String" ∈ lw_tbl := mt_1 (List.mem_of_getElem? (i := 14) rfl)
theorem wd_1737 : Cond.laysStatic "jdk/internal/util/Preconditions" "SIOOBE_FORMATTER" "Ljava/util/function/BiFunction;" ∈ lw_tbl := mt_2 (List.mem_of_getElem? (i := 238) rfl)
theorem wd_1738 : Cond.initialized "jdk/internal/util/Preconditions" ∈ lw_tbl := mt_1 (List.mem_of_getElem? (i := 16) rfl)
