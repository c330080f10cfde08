/-! the data keep what the small machine asks of them -/
theorem dt_k0 : dt_cls 0 RX0 TX0 10 := dt_ckc_ok (ps := [743, 745, 747, 749, 751, 753, 755, 757, 759, 761]) (pi := 723) (pn := 157) (by decide +kernel) nmX0
theorem dt_k1 : dt_cls 1 RX1 TX1 4 := dt_ckc_ok (ps := [1081, 1083, 1085, 1087]) (pi := 1071) (pn := 160) (by decide +kernel) nmX1
theorem dt_k2 : dt_cls 2 RX2 TX2 8 := dt_ckc_ok (ps := [216, 218, 220, 222, 224, 226, 228, 230]) (pi := 174) (pn := 144) (by decide +kernel) nmX2
theorem dt_k3 : dt_cls 3 RX3 TX3 3 := dt_ckc_ok (ps := [191, 193, 195]) (pi := 180) (pn := 145) (by decide +kernel) nmX3
theorem dt_k4 : dt_cls 4 RX4 TX4 2 := dt_ckc_ok (ps := [356, 358]) (pi := 348) (pn := 149) (by decide +kernel) nmX4
theorem dt_k5 : dt_cls 5 RX5 TX5 11 := dt_ckc_ok (ps := [323, 325, 327, 329, 331, 333, 335, 337, 339, 341, 343]) (pi := 304) (pn := 148) (by decide +kernel) nmX5
theorem dt_k6 : dt_cls 6 RX7 TX7 9 := dt_ckc_ok (ps := [283, 285, 287, 289, 291, 293, 295, 297, 299]) (pi := 256) (pn := 147) (by decide +kernel) nmX7
theorem dt_k7 : dt_cls 7 RX8 TX8 4 := dt_ckc_ok (ps := [246, 248, 250, 252]) (pi := 234) (pn := 146) (by decide +kernel) nmX8
theorem dt_k8 : dt_cls 8 RX9 TX9 15 := dt_ckc_ok (ps := [628, 630, 632, 634, 636, 638, 640, 642, 644, 646, 648, 650, 652, 654, 656]) (pi := 600) (pn := 156) (by decide +kernel) nmX9
theorem dt_k9 : dt_cls 9 RX10 TX10 7 := dt_ckc_ok (ps := [380, 382, 384, 386, 388, 390, 392]) (pi := 362) (pn := 150) (by decide +kernel) nmX10
theorem dt_k10 : dt_cls 10 RX11 TX11 14 := dt_ckc_ok (ps := [458, 460, 462, 464, 466, 468, 470, 472, 474, 476, 478, 480, 482, 484]) (pi := 166) (pn := 143) (by decide +kernel) nmX11
theorem dt_k11 : dt_cls 11 RX12 TX12 69 := dt_ckc_ok (ps := [1683, 1685, 1687, 1689, 1691, 1693, 1695, 1697, 1699, 1701, 1703, 1705, 1707, 1709, 1711, 1713, 1715, 1717, 1719, 1721, 1723, 1725, 1727, 1729, 1731, 1733, 1735, 1737, 1739, 1741, 1743, 1745, 1747, 1749, 1751, 1753, 1755, 1757, 1759, 1761, 1763, 1765, 1767, 1769, 1771, 1773, 1775, 1777, 1779, 1781, 1783, 1785, 1787, 1789, 1791, 1793, 1795, 1797, 1799, 1801, 1803, 1805, 1807, 1809, 1811, 1813, 1815, 1817, 1819]) (pi := 1523) (pn := 154) (by decide +kernel) nmX12
theorem dt_cls_all : ∀ ci C T N, vwCl[ci]? = some (C, T, N) → dt_cls ci C T N := by
  intro ci C T N h
  match ci, h with
  | 0, h => cases h; exact dt_k0
  | 1, h => cases h; exact dt_k1
  | 2, h => cases h; exact dt_k2
  | 3, h => cases h; exact dt_k3
  | 4, h => cases h; exact dt_k4
  | 5, h => cases h; exact dt_k5
  | 6, h => cases h; exact dt_k6
  | 7, h => cases h; exact dt_k7
  | 8, h => cases h; exact dt_k8
  | 9, h => cases h; exact dt_k9
  | 10, h => cases h; exact dt_k10
  | 11, h => cases h; exact dt_k11
  | n + 12, h => cases h
theorem dt_o1 : Cond.instanceMethod Lib.objectInit ∈ dt_G := dt_inG (i := 171) (by decide +kernel) rfl
theorem dt_o2 : Cond.code Lib.objectInit ⟨#[0xb1]⟩ 1 none ∈ dt_G := dt_inG (i := 172) (by decide +kernel) rfl
theorem dt_o3 : dt_nat := ⟨dt_inG (i := 2015) (by decide +kernel) rfl, dt_inG (i := 2014) (by decide +kernel) rfl, dt_inG (i := 159) (by decide +kernel) rfl, dt_inG (i := 543) (by decide +kernel) rfl, dt_inG (i := 542) (by decide +kernel) rfl, dt_inG (i := 155) (by decide +kernel) rfl⟩
