theorem fl_X8_30 : Cond.fieldLink RX8 30 "CloneVolumes$State" "roots" "[I" ∈ lw_gd := zm (List.mem_of_getElem? (i := 593) (by decide +kernel)) rfl
theorem fl_X8_40 : Cond.fieldLink RX8 40 "CloneVolumes$State" "blocks" "I" ∈ lw_gd := zm (List.mem_of_getElem? (i := 553) (by decide +kernel)) rfl
theorem fl_X11_60 : Cond.fieldLink RX11 60 "CloneVolumes" "refused" "[I" ∈ lw_gd := zm (List.mem_of_getElem? (i := 708) (by decide +kernel)) rfl
theorem cl_X12_441 : Cond.constantLong RX12 441 7 ∈ lw_gd := zm (List.mem_of_getElem? (i := 2250) (by decide +kernel)) rfl
theorem ml_X12_309 : Cond.methodLink RX12 309 yX12_isIn ∈ lw_gd := zm (List.mem_of_getElem? (i := 1934) (by decide +kernel)) rfl
theorem st_X12_isIn : Cond.static yX12_isIn ∈ lw_gd := zm (List.mem_of_getElem? (i := 1935) (by decide +kernel)) rfl
theorem in_X12 : Cond.initialized RX12 ∈ lw_gd := zm (List.mem_of_getElem? (i := 214) (by decide +kernel)) rfl
theorem co_X12_isIn : Cond.code yX12_isIn cX12_isIn 6 (some .boolean) ∈ lw_gd := zm (List.mem_of_getElem? (i := 1936) (by decide +kernel)) rfl
theorem fl_X12_406 : Cond.fieldLink RX12 406 "CloneVolumesModel" "isTold" "Z" ∈ lw_gd := zm (List.mem_of_getElem? (i := 1585) (by decide +kernel)) rfl
theorem cl_X12_590 : Cond.constantLong RX12 590 5 ∈ lw_gd := zm (List.mem_of_getElem? (i := 2271) (by decide +kernel)) rfl
theorem fl_X12_17 : Cond.fieldLink RX12 17 "CloneVolumesModel" "refused" "[I" ∈ lw_gd := zm (List.mem_of_getElem? (i := 1547) (by decide +kernel)) rfl
set_option maxRecDepth 20000 in
theorem inX11 : ∀ w ∈ u_ws RX11 TX11 13, w ∈ lw_gd := fun w h => zm ((goodIn_r (big := lw_tbl) (u_ws RX11 TX11 13) [713, 715, 717, 719, 721, 723, 725, 727, 729, 731, 733, 735, 737] (by decide +kernel) (by decide +kernel)) w h).1 (List.all_eq_true.mp (by decide +kernel : (u_ws RX11 TX11 13).all goodWord = true) w h)
set_option maxRecDepth 20000 in
theorem inX12 : ∀ w ∈ u_ws RX12 TX12 116, w ∈ lw_gd := fun w h => zm ((goodIn_r (big := lw_tbl) (u_ws RX12 TX12 116) [1654, 1656, 1658, 1660, 1662, 1664, 1666, 1668, 1670, 1672, 1674, 1676, 1678, 1680, 1682, 1684, 1686, 1688, 1690, 1692, 1694, 1696, 1698, 1700, 1702, 1704, 1706, 1708, 1710, 1712, 1714, 1716, 1718, 1720, 1722, 1724, 1726, 1728, 1730, 1732, 1734, 1736, 1738, 1740, 1742, 1744, 1746, 1748, 1750, 1752, 1754, 1756, 1758, 1760, 1762, 1764, 1766, 1768, 1770, 1772, 1774, 1776, 1778, 1780, 1782, 1784, 1786, 1788, 1790, 1792, 1794, 1796, 1798, 1800, 1802, 1804, 1806, 1808, 1810, 1812, 1814, 1816, 1818, 1820, 1822, 1824, 1826, 1828, 1830, 1832, 1834, 1836, 1838, 1840, 1842, 1844, 1846, 1848, 1850, 1852, 1854, 1856, 1858, 1860, 1862, 1864, 1866, 1868, 1870, 1872, 1874, 1876, 1878, 1880, 1882, 1884] (by decide +kernel) (by decide +kernel)) w h).1 (List.all_eq_true.mp (by decide +kernel : (u_ws RX12 TX12 116).all goodWord = true) w h)
set_option maxRecDepth 20000 in
theorem inX8 : ∀ w ∈ u_ws RX8 TX8 11, w ∈ lw_gd := fun w h => zm ((goodIn_r (big := lw_tbl) (u_ws RX8 TX8 11) [601, 603, 605, 607, 609, 611, 613, 615, 617, 619, 621] (by decide +kernel) (by decide +kernel)) w h).1 (List.all_eq_true.mp (by decide +kernel : (u_ws RX8 TX8 11).all goodWord = true) w h)
