set_option maxRecDepth 20000 in
theorem inX0 : ∀ w ∈ u_ws RX0 TX0 2, w ∈ lw_gd := fun w h => zm ((goodIn_r (big := lw_tbl) (u_ws RX0 TX0 2) [461, 463] (by decide +kernel) (by decide +kernel)) w h).1 (List.all_eq_true.mp (by decide +kernel : (u_ws RX0 TX0 2).all goodWord = true) w h)
set_option maxRecDepth 20000 in
theorem inX1 : ∀ w ∈ u_ws RX1 TX1 9, w ∈ lw_gd := fun w h => zm ((goodIn_r (big := lw_tbl) (u_ws RX1 TX1 9) [681, 683, 685, 687, 689, 691, 693, 695, 697] (by decide +kernel) (by decide +kernel)) w h).1 (List.all_eq_true.mp (by decide +kernel : (u_ws RX1 TX1 9).all goodWord = true) w h)
set_option maxRecDepth 20000 in
theorem inX2 : ∀ w ∈ u_ws RX2 TX2 6, w ∈ lw_gd := fun w h => zm ((goodIn_r (big := lw_tbl) (u_ws RX2 TX2 6) [354, 356, 358, 360, 362, 364] (by decide +kernel) (by decide +kernel)) w h).1 (List.all_eq_true.mp (by decide +kernel : (u_ws RX2 TX2 6).all goodWord = true) w h)
set_option maxRecDepth 20000 in
theorem inX3 : ∀ w ∈ u_ws RX3 TX3 10, w ∈ lw_gd := fun w h => zm ((goodIn_r (big := lw_tbl) (u_ws RX3 TX3 10) [647, 649, 651, 653, 655, 657, 659, 661, 663, 665] (by decide +kernel) (by decide +kernel)) w h).1 (List.all_eq_true.mp (by decide +kernel : (u_ws RX3 TX3 10).all goodWord = true) w h)
set_option maxRecDepth 20000 in
theorem inX4 : ∀ w ∈ u_ws RX4 TX4 6, w ∈ lw_gd := fun w h => zm ((goodIn_r (big := lw_tbl) (u_ws RX4 TX4 6) [408, 410, 412, 414, 416, 418] (by decide +kernel) (by decide +kernel)) w h).1 (List.all_eq_true.mp (by decide +kernel : (u_ws RX4 TX4 6).all goodWord = true) w h)
set_option maxRecDepth 20000 in
theorem inX5 : ∀ w ∈ u_ws RX5 TX5 14, w ∈ lw_gd := fun w h => zm ((goodIn_r (big := lw_tbl) (u_ws RX5 TX5 14) [508, 510, 512, 514, 516, 518, 520, 522, 524, 526, 528, 530, 532, 534] (by decide +kernel) (by decide +kernel)) w h).1 (List.all_eq_true.mp (by decide +kernel : (u_ws RX5 TX5 14).all goodWord = true) w h)
set_option maxRecDepth 20000 in
theorem inX6 : ∀ w ∈ u_ws RX6 TX6 12, w ∈ lw_gd := fun w h => zm ((goodIn_r (big := lw_tbl) (u_ws RX6 TX6 12) [312, 314, 316, 318, 320, 322, 324, 326, 328, 330, 332, 334] (by decide +kernel) (by decide +kernel)) w h).1 (List.all_eq_true.mp (by decide +kernel : (u_ws RX6 TX6 12).all goodWord = true) w h)
set_option maxRecDepth 20000 in
theorem inX7 : ∀ w ∈ u_ws RX7 TX7 6, w ∈ lw_gd := fun w h => zm ((goodIn_r (big := lw_tbl) (u_ws RX7 TX7 6) [381, 383, 385, 387, 389, 391] (by decide +kernel) (by decide +kernel)) w h).1 (List.all_eq_true.mp (by decide +kernel : (u_ws RX7 TX7 6).all goodWord = true) w h)
set_option maxRecDepth 20000 in
theorem inX8 : ∀ w ∈ u_ws RX8 TX8 11, w ∈ lw_gd := fun w h => zm ((goodIn_r (big := lw_tbl) (u_ws RX8 TX8 11) [601, 603, 605, 607, 609, 611, 613, 615, 617, 619, 621] (by decide +kernel) (by decide +kernel)) w h).1 (List.all_eq_true.mp (by decide +kernel : (u_ws RX8 TX8 11).all goodWord = true) w h)
set_option maxRecDepth 20000 in
theorem inX9 : ∀ w ∈ u_ws RX9 TX9 2, w ∈ lw_gd := fun w h => zm ((goodIn_r (big := lw_tbl) (u_ws RX9 TX9 2) [240, 242] (by decide +kernel) (by decide +kernel)) w h).1 (List.all_eq_true.mp (by decide +kernel : (u_ws RX9 TX9 2).all goodWord = true) w h)
set_option maxRecDepth 20000 in
theorem inX10 : ∀ w ∈ u_ws RX10 TX10 4, w ∈ lw_gd := fun w h => zm ((goodIn_r (big := lw_tbl) (u_ws RX10 TX10 4) [433, 435, 437, 439] (by decide +kernel) (by decide +kernel)) w h).1 (List.all_eq_true.mp (by decide +kernel : (u_ws RX10 TX10 4).all goodWord = true) w h)
set_option maxRecDepth 20000 in
theorem inX11 : ∀ w ∈ u_ws RX11 TX11 13, w ∈ lw_gd := fun w h => zm ((goodIn_r (big := lw_tbl) (u_ws RX11 TX11 13) [713, 715, 717, 719, 721, 723, 725, 727, 729, 731, 733, 735, 737] (by decide +kernel) (by decide +kernel)) w h).1 (List.all_eq_true.mp (by decide +kernel : (u_ws RX11 TX11 13).all goodWord = true) w h)
set_option maxRecDepth 20000 in
theorem inX12 : ∀ w ∈ u_ws RX12 TX12 116, w ∈ lw_gd := fun w h => zm ((goodIn_r (big := lw_tbl) (u_ws RX12 TX12 116) [1654, 1656, 1658, 1660, 1662, 1664, 1666, 1668, 1670, 1672, 1674, 1676, 1678, 1680, 1682, 1684, 1686, 1688, 1690, 1692, 1694, 1696, 1698, 1700, 1702, 1704, 1706, 1708, 1710, 1712, 1714, 1716, 1718, 1720, 1722, 1724, 1726, 1728, 1730, 1732, 1734, 1736, 1738, 1740, 1742, 1744, 1746, 1748, 1750, 1752, 1754, 1756, 1758, 1760, 1762, 1764, 1766, 1768, 1770, 1772, 1774, 1776, 1778, 1780, 1782, 1784, 1786, 1788, 1790, 1792, 1794, 1796, 1798, 1800, 1802, 1804, 1806, 1808, 1810, 1812, 1814, 1816, 1818, 1820, 1822, 1824, 1826, 1828, 1830, 1832, 1834, 1836, 1838, 1840, 1842, 1844, 1846, 1848, 1850, 1852, 1854, 1856, 1858, 1860, 1862, 1864, 1866, 1868, 1870, 1872, 1874, 1876, 1878, 1880, 1882, 1884] (by decide +kernel) (by decide +kernel)) w h).1 (List.all_eq_true.mp (by decide +kernel : (u_ws RX12 TX12 116).all goodWord = true) w h)
