/-! THE LAW'S LOOP, its end -/
section
variable {G : jzG} {pc rc rs : Nat} {Q : jzO → jzH → Prop} {sh X : List (Nat × Nat)} {I J K M' : Nat → Int → Int} {F F' : Nat → Int → Option Nat} {b i c r : Int} {u v : Option jzV}
theorem lc_25 (hI : INV b sh I F) (hb : 0 ≤ b ∧ b ≤ 800000000) (hi : 0 ≤ i) (h6 : i + 5 < G.2.2.2.1) (hn : G.2.2.2.1 < 2 ^ 31) (k : lNx G Q b i rc rs) : jW G mL_law_ 42 Q 1614 (lL i none none) [] (sh, I, F) (rc + 4) (rs + 430) := by
  have hsh := hI.1.1
  obtain ⟨c, r, M', mc, ms, ⟨hmc, hms, hcl⟩, hmd⟩ := pr_run (G := G) hI hb (p := scr G (i + 1)) (t := jnz (scr G (i + 2))) (scr_in _ _) (jnz_01 _)
  refine j_aload_n (M := mL_law_) dL_law__1614 rfl ?_
  refine l_arg dL_law__1615 dL_law__1616 dL_law__1618 dL_law__1619 dL_law__1620 (by omega) (by omega) hn ?_
  refine l_arg dL_law__1621 dL_law__1622 dL_law__1624 dL_law__1625 dL_law__1626 (by omega) (by omega) hn ?_
  refine j_nz (M := mL_law_) dL_law__1627 dL_law__1630 dL_law__1631 dL_law__1634 (scr_in _ _) ?_
  refine j_aload_n (M := mL_law_) dL_law__1635 rfl ?_
  refine j_callT (M := mL_law_) (d := 41) (n := 4) (As := [jR (some 0), jI (scr G (i + 1)), jI (jnz (scr G (i + 2))), jR (some 184)]) (S := []) (mc' := mc) (ms' := ms) (rc' := rc) (rs' := rs) dL_law__1636 ctL_215 rfl (Nat.le_of_ble_eq_true rfl) (by omega) (by omega) (jS_mono (wr_run hsh hcl) ?_)
  rintro o h ⟨X, J, F', rfl, rfl, hP, hC, hA, h9, hv⟩
  refine j_istore (M := mL_law_) (pc := 1639) (L := lL i none none) dL_law__1639 (by decide) ?_
  refine j_aload_n (M := mL_law_) (L := lL i (some (jI c)) none) dL_law__1641 rfl ?_
  refine l_arg dL_law__1642 dL_law__1643 dL_law__1645 dL_law__1646 dL_law__1647 (by omega) (by omega) hn ?_
  refine l_arg dL_law__1648 dL_law__1649 dL_law__1651 dL_law__1652 dL_law__1653 (by omega) (by omega) hn ?_
  refine j_nz (M := mL_law_) dL_law__1654 dL_law__1657 dL_law__1658 dL_law__1661 (scr_in _ _) ?_
  refine j_callV2 (M := mL_law_) (d' := 40) (n := 2) (As := [jI (scr G (i + 1)), jI (jnz (scr G (i + 2)))]) (S := []) (mc' := 0) (ms' := 0) (rc' := rc) (rs' := rs) dL_law__1662 cvL_218 (by decide) (by decide) (hP.1 170 _ rfl) rfl (Nat.le_of_ble_eq_true rfl) (by omega) (by omega) (jS_mono (hmd X J F' hP hA) ?_)
  rintro o h ⟨K, r2, rfl, rfl, hr, hK⟩
  refine l_tail (pc := 1665) (off := 1060) ⟨dL_law__1665, dL_law__1667, dL_law__1668, dL_law__1671, dL_law__1673, dL_law__1678, dL_law__1680, dL_law__1683, dL_law__1684, dL_law__1685, dL_law__1686, dL_law__1688, dL_law__1689, dL_law__1690, dL_law__1695⟩ (by decide) hP.1 hK.1 (fun z => ?_) (k _ _ _ (INV_next hI.2.2.2 hP hC h9 hK))
  rw [hK.2.2.2 184 (by decide), hv z, hr z]
theorem lc_26 (hI : INV b sh I F) (hb : 0 ≤ b ∧ b ≤ 800000000) (hi : 0 ≤ i) (h6 : i + 5 < G.2.2.2.1) (hn : G.2.2.2.1 < 2 ^ 31) (k : lNx G Q b i rc rs) : jW G mL_law_ 42 Q 1698 (lL i none none) [] (sh, I, F) (rc + 4) (rs + 430) := by
  have hsh := hI.1.1
  have h5 := Sh_185 hsh
  obtain ⟨c, r, M', mc, ms, ⟨hmc, hms, hcl⟩, hmd⟩ := pr_spark (G := G) hI hb 
  refine j_aload_n (M := mL_law_) dL_law__1698 rfl ?_
  refine j_callV2 (M := mL_law_) (d' := 40) (n := 0) (As := []) (S := []) (mc' := mc) (ms' := ms) (rc' := rc) (rs' := rs) dL_law__1699 cvL_219 (by decide) (by decide) (hsh 0 _ rfl) rfl (Nat.le_of_ble_eq_true rfl) (by omega) (by omega) (jS_mono hcl ?_)
  rintro o h ⟨X, J, F', rfl, hC, hq⟩
  rcases hq with ⟨c0, rfl⟩ | ⟨c0, E, rfl, hT⟩
  rotate_left
  · exact absurd hT (by simp)
  refine j_wrap (M := mL_law_) (pc := 1702) (L := lL i none none) (S := []) ?_
  refine j_aload_n (M := mL_law_) (L := lL i none none) dL_law__1702 rfl ?_
  refine j_callV2 (M := mL_law_) (d' := 40) (n := 0) (As := []) (S := [jI (jwr r)]) (mc' := 0) (ms' := 0) (rc' := rc) (rs' := rs) dL_law__1703 cvL_222 (by decide) (by decide) (hC.1.1 170 _ rfl) rfl (Nat.le_of_ble_eq_true rfl) (by omega) (by omega) (jS_mono (hmd X J F' hC.1 (fun a a0 a1 => hC.2.2.1 a a0 (by omega))) ?_)
  rintro o h ⟨K, r2, rfl, rfl, hr, hK⟩
  refine j_wrap (M := mL_law_) (pc := 1706) (L := lL i none none) (S := [jI (jwr r)]) ?_
  rw [hr c0]
  exact j_icmp_eq (M := mL_law_) (tgt := 2755) dL_law__1706 (by decide) (jwr_in _) (jwr_in _) (fun _ => k _ _ _ (INV_next hI.2.2.2 hC.1 hC.2.1 hC.2.2.2 hK)) (fun z => absurd rfl z)
theorem lc_27 (hI : INV b sh I F) (hb : 0 ≤ b ∧ b ≤ 800000000) (hi : 0 ≤ i) (h6 : i + 5 < G.2.2.2.1) (hn : G.2.2.2.1 < 2 ^ 31) (k : lNx G Q b i rc rs) : jW G mL_law_ 42 Q 1711 (lL i none none) [] (sh, I, F) (rc + 4) (rs + 430) := by
  have hsh := hI.1.1
  have h5 := Sh_185 hsh
  obtain ⟨c, r, M', mc, ms, ⟨hmc, hms, hcl⟩, hmd⟩ := pr_reserve (G := G) hI hb 
  refine j_aload_n (M := mL_law_) dL_law__1711 rfl ?_
  refine j_callV2 (M := mL_law_) (d' := 40) (n := 0) (As := []) (S := []) (mc' := mc) (ms' := ms) (rc' := rc) (rs' := rs) dL_law__1712 cvL_223 (by decide) (by decide) (hsh 0 _ rfl) rfl (Nat.le_of_ble_eq_true rfl) (by omega) (by omega) (jS_mono hcl ?_)
  rintro o h ⟨X, J, F', rfl, hC, hq⟩
  rcases hq with ⟨c0, rfl⟩ | ⟨c0, E, rfl, hT⟩
  rotate_left
  · exact absurd hT (by simp)
  refine j_wrap (M := mL_law_) (pc := 1715) (L := lL i none none) (S := []) ?_
  refine j_aload_n (M := mL_law_) (L := lL i none none) dL_law__1715 rfl ?_
  refine j_callV2 (M := mL_law_) (d' := 40) (n := 0) (As := []) (S := [jI (jwr r)]) (mc' := 0) (ms' := 0) (rc' := rc) (rs' := rs) dL_law__1716 cvL_226 (by decide) (by decide) (hC.1.1 170 _ rfl) rfl (Nat.le_of_ble_eq_true rfl) (by omega) (by omega) (jS_mono (hmd X J F' hC.1 (fun a a0 a1 => hC.2.2.1 a a0 (by omega))) ?_)
  rintro o h ⟨K, r2, rfl, rfl, hr, hK⟩
  refine j_wrap (M := mL_law_) (pc := 1719) (L := lL i none none) (S := [jI (jwr r)]) ?_
  rw [hr c0]
  exact j_icmp_eq (M := mL_law_) (tgt := 2755) dL_law__1719 (by decide) (jwr_in _) (jwr_in _) (fun _ => k _ _ _ (INV_next hI.2.2.2 hC.1 hC.2.1 hC.2.2.2 hK)) (fun z => absurd rfl z)
theorem lc_28 (hI : INV b sh I F) (hb : 0 ≤ b ∧ b ≤ 800000000) (hi : 0 ≤ i) (h6 : i + 5 < G.2.2.2.1) (hn : G.2.2.2.1 < 2 ^ 31) (k : lNx G Q b i rc rs) : jW G mL_law_ 42 Q 1724 (lL i none none) [] (sh, I, F) (rc + 4) (rs + 430) := by
  have hsh := hI.1.1
  have h5 := Sh_185 hsh
  obtain ⟨c, r, M', mc, ms, ⟨hmc, hms, hcl⟩, hmd⟩ := pr_feelings (G := G) hI hb 
  refine j_aload_n (M := mL_law_) dL_law__1724 rfl ?_
  refine j_callV2 (M := mL_law_) (d' := 40) (n := 0) (As := []) (S := []) (mc' := mc) (ms' := ms) (rc' := rc) (rs' := rs) dL_law__1725 cvL_227 (by decide) (by decide) (hsh 0 _ rfl) rfl (Nat.le_of_ble_eq_true rfl) (by omega) (by omega) (jS_mono hcl ?_)
  rintro o h ⟨X, J, F', rfl, hC, hq⟩
  rcases hq with ⟨c0, rfl⟩ | ⟨c0, E, rfl, hT⟩
  rotate_left
  · exact absurd hT (by simp)
  refine j_wrap (M := mL_law_) (pc := 1728) (L := lL i none none) (S := []) ?_
  refine j_aload_n (M := mL_law_) (L := lL i none none) dL_law__1728 rfl ?_
  refine j_callV2 (M := mL_law_) (d' := 40) (n := 0) (As := []) (S := [jI (jwr r)]) (mc' := 0) (ms' := 0) (rc' := rc) (rs' := rs) dL_law__1729 cvL_230 (by decide) (by decide) (hC.1.1 170 _ rfl) rfl (Nat.le_of_ble_eq_true rfl) (by omega) (by omega) (jS_mono (hmd X J F' hC.1 (fun a a0 a1 => hC.2.2.1 a a0 (by omega))) ?_)
  rintro o h ⟨K, r2, rfl, rfl, hr, hK⟩
  refine j_wrap (M := mL_law_) (pc := 1732) (L := lL i none none) (S := [jI (jwr r)]) ?_
  rw [hr c0]
  exact j_icmp_eq (M := mL_law_) (tgt := 2755) dL_law__1732 (by decide) (jwr_in _) (jwr_in _) (fun _ => k _ _ _ (INV_next hI.2.2.2 hC.1 hC.2.1 hC.2.2.2 hK)) (fun z => absurd rfl z)
theorem lc_29 (hI : INV b sh I F) (hb : 0 ≤ b ∧ b ≤ 800000000) (hi : 0 ≤ i) (h6 : i + 5 < G.2.2.2.1) (hn : G.2.2.2.1 < 2 ^ 31) (k : lNx G Q b i rc rs) : jW G mL_law_ 42 Q 1737 (lL i none none) [] (sh, I, F) (rc + 4) (rs + 430) := by
  have hsh := hI.1.1
  obtain ⟨c, r, M', mc, ms, ⟨hmc, hms, hcl⟩, hmd⟩ := pr_saint (G := G) hI hb (x := scr G (i + 1)) (k := scr G (i + 2)) (t := jnz (scr G (i + 3))) (scr_in _ _) (scr_in _ _) (jnz_01 _)
  refine j_aload_n (M := mL_law_) dL_law__1737 rfl ?_
  refine l_arg dL_law__1738 dL_law__1739 dL_law__1741 dL_law__1742 dL_law__1743 (by omega) (by omega) hn ?_
  refine l_arg dL_law__1744 dL_law__1745 dL_law__1747 dL_law__1748 dL_law__1749 (by omega) (by omega) hn ?_
  refine l_arg dL_law__1750 dL_law__1751 dL_law__1753 dL_law__1754 dL_law__1755 (by omega) (by omega) hn ?_
  refine j_nz (M := mL_law_) dL_law__1756 dL_law__1759 dL_law__1760 dL_law__1763 (scr_in _ _) ?_
  refine j_aload_n (M := mL_law_) dL_law__1764 rfl ?_
  refine j_callT (M := mL_law_) (d := 41) (n := 5) (As := [jR (some 0), jI (scr G (i + 1)), jI (scr G (i + 2)), jI (jnz (scr G (i + 3))), jR (some 184)]) (S := []) (mc' := mc) (ms' := ms) (rc' := rc) (rs' := rs) dL_law__1765 ctL_231 rfl (Nat.le_of_ble_eq_true rfl) (by omega) (by omega) (jS_mono (wr_saint hsh hcl) ?_)
  rintro o h ⟨X, J, F', rfl, rfl, hP, hC, hA, h9, hv⟩
  refine j_istore (M := mL_law_) (pc := 1768) (L := lL i none none) dL_law__1768 (by decide) ?_
  refine j_aload_n (M := mL_law_) (L := lL i (some (jI c)) none) dL_law__1770 rfl ?_
  refine l_arg dL_law__1771 dL_law__1772 dL_law__1774 dL_law__1775 dL_law__1776 (by omega) (by omega) hn ?_
  refine l_arg dL_law__1777 dL_law__1778 dL_law__1780 dL_law__1781 dL_law__1782 (by omega) (by omega) hn ?_
  refine l_arg dL_law__1783 dL_law__1784 dL_law__1786 dL_law__1787 dL_law__1788 (by omega) (by omega) hn ?_
  refine j_nz (M := mL_law_) dL_law__1789 dL_law__1792 dL_law__1793 dL_law__1796 (scr_in _ _) ?_
  refine j_callV2 (M := mL_law_) (d' := 40) (n := 3) (As := [jI (scr G (i + 1)), jI (scr G (i + 2)), jI (jnz (scr G (i + 3)))]) (S := []) (mc' := 0) (ms' := 0) (rc' := rc) (rs' := rs) dL_law__1797 cvL_234 (by decide) (by decide) (hP.1 170 _ rfl) rfl (Nat.le_of_ble_eq_true rfl) (by omega) (by omega) (jS_mono (hmd X J F' hP hA) ?_)
  rintro o h ⟨K, r2, rfl, rfl, hr, hK⟩
  refine l_tail (pc := 1800) (off := 925) ⟨dL_law__1800, dL_law__1802, dL_law__1803, dL_law__1806, dL_law__1808, dL_law__1813, dL_law__1815, dL_law__1818, dL_law__1819, dL_law__1820, dL_law__1821, dL_law__1823, dL_law__1824, dL_law__1825, dL_law__1830⟩ (by decide) hP.1 hK.1 (fun z => ?_) (k _ _ _ (INV_next hI.2.2.2 hP hC h9 hK))
  rw [hK.2.2.2 184 (by decide), hv z, hr z]
theorem lc_30 (hI : INV b sh I F) (hb : 0 ≤ b ∧ b ≤ 800000000) (hi : 0 ≤ i) (h6 : i + 5 < G.2.2.2.1) (hn : G.2.2.2.1 < 2 ^ 31) (k : lNx G Q b i rc rs) : jW G mL_law_ 42 Q 1833 (lL i none none) [] (sh, I, F) (rc + 4) (rs + 430) := by
  have hsh := hI.1.1
  obtain ⟨c, r, M', mc, ms, ⟨hmc, hms, hcl⟩, hmd⟩ := pr_share (G := G) hI hb (p := scr G (i + 1)) (q := scr G (i + 2)) (scr_in _ _) (scr_in _ _)
  refine j_aload_n (M := mL_law_) dL_law__1833 rfl ?_
  refine l_arg dL_law__1834 dL_law__1835 dL_law__1837 dL_law__1838 dL_law__1839 (by omega) (by omega) hn ?_
  refine l_arg dL_law__1840 dL_law__1841 dL_law__1843 dL_law__1844 dL_law__1845 (by omega) (by omega) hn ?_
  refine j_aload_n (M := mL_law_) dL_law__1846 rfl ?_
  refine j_callT (M := mL_law_) (d := 41) (n := 4) (As := [jR (some 0), jI (scr G (i + 1)), jI (scr G (i + 2)), jR (some 184)]) (S := []) (mc' := mc) (ms' := ms) (rc' := rc) (rs' := rs) dL_law__1847 ctL_235 rfl (Nat.le_of_ble_eq_true rfl) (by omega) (by omega) (jS_mono (wr_share hsh hcl) ?_)
  rintro o h ⟨X, J, F', rfl, rfl, hP, hC, hA, h9, hv⟩
  refine j_istore (M := mL_law_) (pc := 1850) (L := lL i none none) dL_law__1850 (by decide) ?_
  refine j_aload_n (M := mL_law_) (L := lL i (some (jI c)) none) dL_law__1852 rfl ?_
  refine l_arg dL_law__1853 dL_law__1854 dL_law__1856 dL_law__1857 dL_law__1858 (by omega) (by omega) hn ?_
  refine l_arg dL_law__1859 dL_law__1860 dL_law__1862 dL_law__1863 dL_law__1864 (by omega) (by omega) hn ?_
  refine j_callV2 (M := mL_law_) (d' := 40) (n := 2) (As := [jI (scr G (i + 1)), jI (scr G (i + 2))]) (S := []) (mc' := 0) (ms' := 0) (rc' := rc) (rs' := rs) dL_law__1865 cvL_237 (by decide) (by decide) (hP.1 170 _ rfl) rfl (Nat.le_of_ble_eq_true rfl) (by omega) (by omega) (jS_mono (hmd X J F' hP hA) ?_)
  rintro o h ⟨K, r2, rfl, rfl, hr, hK⟩
  refine l_tailz (pc := 1868) (off := 850) ⟨dL_law__1868, dL_law__1870, dL_law__1871, dL_law__1874, dL_law__1876, dL_law__1881, dL_law__1883, dL_law__1886, dL_law__1887, dL_law__1888, dL_law__1889, dL_law__1891, dL_law__1894, dL_law__1895, dL_law__1898, dL_law__1899, dL_law__1900, dL_law__1905⟩ (by decide) hP.1 hK.1 (fun z => ?_) (k _ _ _ (INV_next hI.2.2.2 hP hC h9 hK))
  rw [hK.2.2.2 184 (by decide), hv z, hr z]
theorem lc_31 (hI : INV b sh I F) (hb : 0 ≤ b ∧ b ≤ 800000000) (hi : 0 ≤ i) (h6 : i + 5 < G.2.2.2.1) (hn : G.2.2.2.1 < 2 ^ 31) (k : lNx G Q b i rc rs) : jW G mL_law_ 42 Q 1908 (lL i none none) [] (sh, I, F) (rc + 4) (rs + 430) := by
  have hsh := hI.1.1
  obtain ⟨c, r, M', mc, ms, ⟨hmc, hms, hcl⟩, hmd⟩ := pr_shares (G := G) hI hb (p := scr G (i + 1)) (q := scr G (i + 2)) (scr_in _ _) (scr_in _ _)
  refine j_aload_n (M := mL_law_) dL_law__1908 rfl ?_
  refine l_arg dL_law__1909 dL_law__1910 dL_law__1912 dL_law__1913 dL_law__1914 (by omega) (by omega) hn ?_
  refine l_arg dL_law__1915 dL_law__1916 dL_law__1918 dL_law__1919 dL_law__1920 (by omega) (by omega) hn ?_
  refine j_aload_n (M := mL_law_) dL_law__1921 rfl ?_
  refine j_callT (M := mL_law_) (d := 41) (n := 4) (As := [jR (some 0), jI (scr G (i + 1)), jI (scr G (i + 2)), jR (some 184)]) (S := []) (mc' := mc) (ms' := ms) (rc' := rc) (rs' := rs) dL_law__1922 ctL_238 rfl (Nat.le_of_ble_eq_true rfl) (by omega) (by omega) (jS_mono (wr_shares hsh hcl) ?_)
  rintro o h ⟨X, J, F', rfl, rfl, hP, hC, hA, h9, hv⟩
  refine j_istore (M := mL_law_) (pc := 1925) (L := lL i none none) dL_law__1925 (by decide) ?_
  refine j_aload_n (M := mL_law_) (L := lL i (some (jI c)) none) dL_law__1927 rfl ?_
  refine l_arg dL_law__1928 dL_law__1929 dL_law__1931 dL_law__1932 dL_law__1933 (by omega) (by omega) hn ?_
  refine l_arg dL_law__1934 dL_law__1935 dL_law__1937 dL_law__1938 dL_law__1939 (by omega) (by omega) hn ?_
  refine j_callV2 (M := mL_law_) (d' := 40) (n := 2) (As := [jI (scr G (i + 1)), jI (scr G (i + 2))]) (S := []) (mc' := 0) (ms' := 0) (rc' := rc) (rs' := rs) dL_law__1940 cvL_240 (by decide) (by decide) (hP.1 170 _ rfl) rfl (Nat.le_of_ble_eq_true rfl) (by omega) (by omega) (jS_mono (hmd X J F' hP hA) ?_)
  rintro o h ⟨K, r2, rfl, rfl, hr, hK⟩
  refine l_tail (pc := 1943) (off := 782) ⟨dL_law__1943, dL_law__1945, dL_law__1946, dL_law__1949, dL_law__1951, dL_law__1956, dL_law__1958, dL_law__1961, dL_law__1962, dL_law__1963, dL_law__1964, dL_law__1966, dL_law__1967, dL_law__1968, dL_law__1973⟩ (by decide) hP.1 hK.1 (fun z => ?_) (k _ _ _ (INV_next hI.2.2.2 hP hC h9 hK))
  rw [hK.2.2.2 184 (by decide), hv z, hr z]
theorem lc_32 (hI : INV b sh I F) (hb : 0 ≤ b ∧ b ≤ 800000000) (hi : 0 ≤ i) (h6 : i + 5 < G.2.2.2.1) (hn : G.2.2.2.1 < 2 ^ 31) (k : lNx G Q b i rc rs) : jW G mL_law_ 42 Q 1976 (lL i none none) [] (sh, I, F) (rc + 4) (rs + 430) := by
  have hsh := hI.1.1
  obtain ⟨c, r, M', mc, ms, ⟨hmc, hms, hcl⟩, hmd⟩ := pr_could (G := G) hI hb (p := scr G (i + 1)) (scr_in _ _)
  refine j_aload_n (M := mL_law_) dL_law__1976 rfl ?_
  refine l_arg dL_law__1977 dL_law__1978 dL_law__1980 dL_law__1981 dL_law__1982 (by omega) (by omega) hn ?_
  refine j_aload_n (M := mL_law_) dL_law__1983 rfl ?_
  refine j_callT (M := mL_law_) (d := 41) (n := 3) (As := [jR (some 0), jI (scr G (i + 1)), jR (some 184)]) (S := []) (mc' := mc) (ms' := ms) (rc' := rc) (rs' := rs) dL_law__1984 ctL_241 rfl (Nat.le_of_ble_eq_true rfl) (by omega) (by omega) (jS_mono (wr_could hsh hcl) ?_)
  rintro o h ⟨X, J, F', rfl, rfl, hP, hC, hA, h9, hv⟩
  refine j_istore (M := mL_law_) (pc := 1987) (L := lL i none none) dL_law__1987 (by decide) ?_
  refine j_aload_n (M := mL_law_) (L := lL i (some (jI c)) none) dL_law__1989 rfl ?_
  refine l_arg dL_law__1990 dL_law__1991 dL_law__1993 dL_law__1994 dL_law__1995 (by omega) (by omega) hn ?_
  refine j_callV2 (M := mL_law_) (d' := 40) (n := 1) (As := [jI (scr G (i + 1))]) (S := []) (mc' := 0) (ms' := 0) (rc' := rc) (rs' := rs) dL_law__1996 cvL_243 (by decide) (by decide) (hP.1 170 _ rfl) rfl (Nat.le_of_ble_eq_true rfl) (by omega) (by omega) (jS_mono (hmd X J F' hP hA) ?_)
  rintro o h ⟨K, r2, rfl, rfl, hr, hK⟩
  refine l_tail (pc := 1999) (off := 726) ⟨dL_law__1999, dL_law__2001, dL_law__2002, dL_law__2005, dL_law__2007, dL_law__2012, dL_law__2014, dL_law__2017, dL_law__2018, dL_law__2019, dL_law__2020, dL_law__2022, dL_law__2023, dL_law__2024, dL_law__2029⟩ (by decide) hP.1 hK.1 (fun z => ?_) (k _ _ _ (INV_next hI.2.2.2 hP hC h9 hK))
  rw [hK.2.2.2 184 (by decide), hv z, hr z]
theorem lc_33 (hI : INV b sh I F) (hb : 0 ≤ b ∧ b ≤ 800000000) (hi : 0 ≤ i) (h6 : i + 5 < G.2.2.2.1) (hn : G.2.2.2.1 < 2 ^ 31) (k : lNx G Q b i rc rs) : jW G mL_law_ 42 Q 2032 (lL i none none) [] (sh, I, F) (rc + 4) (rs + 430) := by
  have hsh := hI.1.1
  have h5 := Sh_185 hsh
  obtain ⟨c, r, M', mc, ms, ⟨hmc, hms, hcl⟩, hmd⟩ := pr_fewest (G := G) hI hb 
  refine j_aload_n (M := mL_law_) dL_law__2032 rfl ?_
  refine j_callV2 (M := mL_law_) (d' := 40) (n := 0) (As := []) (S := []) (mc' := mc) (ms' := ms) (rc' := rc) (rs' := rs) dL_law__2033 cvL_244 (by decide) (by decide) (hsh 0 _ rfl) rfl (Nat.le_of_ble_eq_true rfl) (by omega) (by omega) (jS_mono hcl ?_)
  rintro o h ⟨X, J, F', rfl, hC, hq⟩
  rcases hq with ⟨c0, rfl⟩ | ⟨c0, E, rfl, hT⟩
  rotate_left
  · exact absurd hT (by simp)
  refine j_wrap (M := mL_law_) (pc := 2036) (L := lL i none none) (S := []) ?_
  refine j_aload_n (M := mL_law_) (L := lL i none none) dL_law__2036 rfl ?_
  refine j_callV2 (M := mL_law_) (d' := 40) (n := 0) (As := []) (S := [jI (jwr r)]) (mc' := 0) (ms' := 0) (rc' := rc) (rs' := rs) dL_law__2037 cvL_247 (by decide) (by decide) (hC.1.1 170 _ rfl) rfl (Nat.le_of_ble_eq_true rfl) (by omega) (by omega) (jS_mono (hmd X J F' hC.1 (fun a a0 a1 => hC.2.2.1 a a0 (by omega))) ?_)
  rintro o h ⟨K, r2, rfl, rfl, hr, hK⟩
  refine j_wrap (M := mL_law_) (pc := 2040) (L := lL i none none) (S := [jI (jwr r)]) ?_
  rw [hr c0]
  exact j_icmp_eq (M := mL_law_) (tgt := 2755) dL_law__2040 (by decide) (jwr_in _) (jwr_in _) (fun _ => k _ _ _ (INV_next hI.2.2.2 hC.1 hC.2.1 hC.2.2.2 hK)) (fun z => absurd rfl z)
theorem lc_34 (hI : INV b sh I F) (hb : 0 ≤ b ∧ b ≤ 800000000) (hi : 0 ≤ i) (h6 : i + 5 < G.2.2.2.1) (hn : G.2.2.2.1 < 2 ^ 31) (k : lNx G Q b i rc rs) : jW G mL_law_ 42 Q 2045 (lL i none none) [] (sh, I, F) (rc + 4) (rs + 430) := by
  have hsh := hI.1.1
  have h5 := Sh_185 hsh
  obtain ⟨c, r, M', mc, ms, ⟨hmc, hms, hcl⟩, hmd⟩ := pr_quiet (G := G) hI hb (t := jnz (scr G (i + 1))) (jnz_01 _)
  refine j_aload_n (M := mL_law_) dL_law__2045 rfl ?_
  refine l_arg dL_law__2046 dL_law__2047 dL_law__2049 dL_law__2050 dL_law__2051 (by omega) (by omega) hn ?_
  refine j_nz (M := mL_law_) dL_law__2052 dL_law__2055 dL_law__2056 dL_law__2059 (scr_in _ _) ?_
  refine j_callV2 (M := mL_law_) (d' := 40) (n := 1) (As := [jI (jnz (scr G (i + 1)))]) (S := []) (mc' := mc) (ms' := ms) (rc' := rc) (rs' := rs) dL_law__2060 cvL_248 (by decide) (by decide) (hsh 0 _ rfl) rfl (Nat.le_of_ble_eq_true rfl) (by omega) (by omega) (jS_mono hcl ?_)
  rintro o h ⟨X, J, F', rfl, hC, hq⟩
  rcases hq with ⟨c0, rfl⟩ | ⟨c0, E, rfl, hT⟩
  rotate_left
  · exact absurd hT (by simp)
  refine j_wrap (M := mL_law_) (pc := 2063) (L := lL i none none) (S := []) ?_
  refine j_aload_n (M := mL_law_) (L := lL i none none) dL_law__2063 rfl ?_
  refine l_arg dL_law__2064 dL_law__2065 dL_law__2067 dL_law__2068 dL_law__2069 (by omega) (by omega) hn ?_
  refine j_nz (M := mL_law_) dL_law__2070 dL_law__2073 dL_law__2074 dL_law__2077 (scr_in _ _) ?_
  refine j_callV2 (M := mL_law_) (d' := 40) (n := 1) (As := [jI (jnz (scr G (i + 1)))]) (S := [jI (jwr r)]) (mc' := 0) (ms' := 0) (rc' := rc) (rs' := rs) dL_law__2078 cvL_251 (by decide) (by decide) (hC.1.1 170 _ rfl) rfl (Nat.le_of_ble_eq_true rfl) (by omega) (by omega) (jS_mono (hmd X J F' hC.1 (fun a a0 a1 => hC.2.2.1 a a0 (by omega))) ?_)
  rintro o h ⟨K, r2, rfl, rfl, hr, hK⟩
  refine j_wrap (M := mL_law_) (pc := 2081) (L := lL i none none) (S := [jI (jwr r)]) ?_
  rw [hr c0]
  exact j_icmp_eq (M := mL_law_) (tgt := 2755) dL_law__2081 (by decide) (jwr_in _) (jwr_in _) (fun _ => k _ _ _ (INV_next hI.2.2.2 hC.1 hC.2.1 hC.2.2.2 hK)) (fun z => absurd rfl z)
theorem lc_35 (hI : INV b sh I F) (hb : 0 ≤ b ∧ b ≤ 800000000) (hi : 0 ≤ i) (h6 : i + 5 < G.2.2.2.1) (hn : G.2.2.2.1 < 2 ^ 31) (k : lNx G Q b i rc rs) : jW G mL_law_ 42 Q 2086 (lL i none none) [] (sh, I, F) (rc + 4) (rs + 430) := by
  have hsh := hI.1.1
  obtain ⟨c, r, M', mc, ms, ⟨hmc, hms, hcl⟩, hmd⟩ := pr_peak (G := G) hI hb (p := scr G (i + 1)) (n := scr G (i + 2)) (t := jnz (scr G (i + 3))) (scr_in _ _) (scr_in _ _) (jnz_01 _)
  refine j_aload_n (M := mL_law_) dL_law__2086 rfl ?_
  refine l_arg dL_law__2087 dL_law__2088 dL_law__2090 dL_law__2091 dL_law__2092 (by omega) (by omega) hn ?_
  refine l_arg dL_law__2093 dL_law__2094 dL_law__2096 dL_law__2097 dL_law__2098 (by omega) (by omega) hn ?_
  refine l_arg dL_law__2099 dL_law__2100 dL_law__2102 dL_law__2103 dL_law__2104 (by omega) (by omega) hn ?_
  refine j_nz (M := mL_law_) dL_law__2105 dL_law__2108 dL_law__2109 dL_law__2112 (scr_in _ _) ?_
  refine j_aload_n (M := mL_law_) dL_law__2113 rfl ?_
  refine j_callT (M := mL_law_) (d := 41) (n := 5) (As := [jR (some 0), jI (scr G (i + 1)), jI (scr G (i + 2)), jI (jnz (scr G (i + 3))), jR (some 184)]) (S := []) (mc' := mc) (ms' := ms) (rc' := rc) (rs' := rs) dL_law__2114 ctL_252 rfl (Nat.le_of_ble_eq_true rfl) (by omega) (by omega) (jS_mono (wr_peak hsh hcl) ?_)
  rintro o h ⟨X, J, F', rfl, rfl, hP, hC, hA, h9, hv⟩
  refine j_istore (M := mL_law_) (pc := 2117) (L := lL i none none) dL_law__2117 (by decide) ?_
  refine j_aload_n (M := mL_law_) (L := lL i (some (jI c)) none) dL_law__2119 rfl ?_
  refine l_arg dL_law__2120 dL_law__2121 dL_law__2123 dL_law__2124 dL_law__2125 (by omega) (by omega) hn ?_
  refine l_arg dL_law__2126 dL_law__2127 dL_law__2129 dL_law__2130 dL_law__2131 (by omega) (by omega) hn ?_
  refine l_arg dL_law__2132 dL_law__2133 dL_law__2135 dL_law__2136 dL_law__2137 (by omega) (by omega) hn ?_
  refine j_nz (M := mL_law_) dL_law__2138 dL_law__2141 dL_law__2142 dL_law__2145 (scr_in _ _) ?_
  refine j_callV2 (M := mL_law_) (d' := 40) (n := 3) (As := [jI (scr G (i + 1)), jI (scr G (i + 2)), jI (jnz (scr G (i + 3)))]) (S := []) (mc' := 0) (ms' := 0) (rc' := rc) (rs' := rs) dL_law__2146 cvL_254 (by decide) (by decide) (hP.1 170 _ rfl) rfl (Nat.le_of_ble_eq_true rfl) (by omega) (by omega) (jS_mono (hmd X J F' hP hA) ?_)
  rintro o h ⟨K, r2, rfl, rfl, hr, hK⟩
  refine l_tail (pc := 2149) (off := 576) ⟨dL_law__2149, dL_law__2151, dL_law__2152, dL_law__2155, dL_law__2157, dL_law__2162, dL_law__2164, dL_law__2167, dL_law__2168, dL_law__2169, dL_law__2170, dL_law__2172, dL_law__2173, dL_law__2174, dL_law__2179⟩ (by decide) hP.1 hK.1 (fun z => ?_) (k _ _ _ (INV_next hI.2.2.2 hP hC h9 hK))
  rw [hK.2.2.2 184 (by decide), hv z, hr z]
theorem lc_36 (hI : INV b sh I F) (hb : 0 ≤ b ∧ b ≤ 800000000) (hi : 0 ≤ i) (h6 : i + 5 < G.2.2.2.1) (hn : G.2.2.2.1 < 2 ^ 31) (k : lNx G Q b i rc rs) : jW G mL_law_ 42 Q 2182 (lL i none none) [] (sh, I, F) (rc + 4) (rs + 430) := by
  have hsh := hI.1.1
  obtain ⟨c, r, M', mc, ms, ⟨hmc, hms, hcl⟩, hmd⟩ := pr_needed (G := G) hI hb (n := scr G (i + 1)) (scr_in _ _)
  refine j_aload_n (M := mL_law_) dL_law__2182 rfl ?_
  refine l_arg dL_law__2183 dL_law__2184 dL_law__2186 dL_law__2187 dL_law__2188 (by omega) (by omega) hn ?_
  refine j_aload_n (M := mL_law_) dL_law__2189 rfl ?_
  refine j_callT (M := mL_law_) (d := 41) (n := 3) (As := [jR (some 0), jI (scr G (i + 1)), jR (some 184)]) (S := []) (mc' := mc) (ms' := ms) (rc' := rc) (rs' := rs) dL_law__2190 ctL_255 rfl (Nat.le_of_ble_eq_true rfl) (by omega) (by omega) (jS_mono (wr_needed hsh hcl) ?_)
  rintro o h ⟨X, J, F', rfl, rfl, hP, hC, hA, h9, hv⟩
  refine j_istore (M := mL_law_) (pc := 2193) (L := lL i none none) dL_law__2193 (by decide) ?_
  refine j_aload_n (M := mL_law_) (L := lL i (some (jI c)) none) dL_law__2195 rfl ?_
  refine l_arg dL_law__2196 dL_law__2197 dL_law__2199 dL_law__2200 dL_law__2201 (by omega) (by omega) hn ?_
  refine j_callV2 (M := mL_law_) (d' := 40) (n := 1) (As := [jI (scr G (i + 1))]) (S := []) (mc' := 0) (ms' := 0) (rc' := rc) (rs' := rs) dL_law__2202 cvL_257 (by decide) (by decide) (hP.1 170 _ rfl) rfl (Nat.le_of_ble_eq_true rfl) (by omega) (by omega) (jS_mono (hmd X J F' hP hA) ?_)
  rintro o h ⟨K, r2, rfl, rfl, hr, hK⟩
  refine l_tail (pc := 2205) (off := 520) ⟨dL_law__2205, dL_law__2207, dL_law__2208, dL_law__2211, dL_law__2213, dL_law__2218, dL_law__2220, dL_law__2223, dL_law__2224, dL_law__2225, dL_law__2226, dL_law__2228, dL_law__2229, dL_law__2230, dL_law__2235⟩ (by decide) hP.1 hK.1 (fun z => ?_) (k _ _ _ (INV_next hI.2.2.2 hP hC h9 hK))
  rw [hK.2.2.2 184 (by decide), hv z, hr z]
theorem lc_37 (hI : INV b sh I F) (hb : 0 ≤ b ∧ b ≤ 800000000) (hi : 0 ≤ i) (h6 : i + 5 < G.2.2.2.1) (hn : G.2.2.2.1 < 2 ^ 31) (k : lNx G Q b i rc rs) : jW G mL_law_ 42 Q 2238 (lL i none none) [] (sh, I, F) (rc + 4) (rs + 430) := by
  have hsh := hI.1.1
  have h5 := Sh_185 hsh
  obtain ⟨c, r, M', mc, ms, ⟨hmc, hms, hcl⟩, hmd⟩ := pr_parted (G := G) hI hb (t := jnz (scr G (i + 1))) (jnz_01 _)
  refine j_aload_n (M := mL_law_) dL_law__2238 rfl ?_
  refine l_arg dL_law__2239 dL_law__2240 dL_law__2242 dL_law__2243 dL_law__2244 (by omega) (by omega) hn ?_
  refine j_nz (M := mL_law_) dL_law__2245 dL_law__2248 dL_law__2249 dL_law__2252 (scr_in _ _) ?_
  refine j_callV2 (M := mL_law_) (d' := 40) (n := 1) (As := [jI (jnz (scr G (i + 1)))]) (S := []) (mc' := mc) (ms' := ms) (rc' := rc) (rs' := rs) dL_law__2253 cvL_258 (by decide) (by decide) (hsh 0 _ rfl) rfl (Nat.le_of_ble_eq_true rfl) (by omega) (by omega) (jS_mono hcl ?_)
  rintro o h ⟨X, J, F', rfl, hC, hq⟩
  rcases hq with ⟨c0, rfl⟩ | ⟨c0, E, rfl, hT⟩
  rotate_left
  · exact absurd hT (by simp)
  refine j_wrap (M := mL_law_) (pc := 2256) (L := lL i none none) (S := []) ?_
  refine j_aload_n (M := mL_law_) (L := lL i none none) dL_law__2256 rfl ?_
  refine l_arg dL_law__2257 dL_law__2258 dL_law__2260 dL_law__2261 dL_law__2262 (by omega) (by omega) hn ?_
  refine j_nz (M := mL_law_) dL_law__2263 dL_law__2266 dL_law__2267 dL_law__2270 (scr_in _ _) ?_
  refine j_callV2 (M := mL_law_) (d' := 40) (n := 1) (As := [jI (jnz (scr G (i + 1)))]) (S := [jI (jwr r)]) (mc' := 0) (ms' := 0) (rc' := rc) (rs' := rs) dL_law__2271 cvL_261 (by decide) (by decide) (hC.1.1 170 _ rfl) rfl (Nat.le_of_ble_eq_true rfl) (by omega) (by omega) (jS_mono (hmd X J F' hC.1 (fun a a0 a1 => hC.2.2.1 a a0 (by omega))) ?_)
  rintro o h ⟨K, r2, rfl, rfl, hr, hK⟩
  refine j_wrap (M := mL_law_) (pc := 2274) (L := lL i none none) (S := [jI (jwr r)]) ?_
  rw [hr c0]
  exact j_icmp_eq (M := mL_law_) (tgt := 2755) dL_law__2274 (by decide) (jwr_in _) (jwr_in _) (fun _ => k _ _ _ (INV_next hI.2.2.2 hC.1 hC.2.1 hC.2.2.2 hK)) (fun z => absurd rfl z)
theorem lc_38 (hI : INV b sh I F) (hb : 0 ≤ b ∧ b ≤ 800000000) (hi : 0 ≤ i) (h6 : i + 5 < G.2.2.2.1) (hn : G.2.2.2.1 < 2 ^ 31) (k : lNx G Q b i rc rs) : jW G mL_law_ 42 Q 2279 (lL i none none) [] (sh, I, F) (rc + 4) (rs + 430) := by
  have hsh := hI.1.1
  obtain ⟨c, r, M', mc, ms, ⟨hmc, hms, hcl⟩, hmd⟩ := pr_rank (G := G) hI hb (p := scr G (i + 1)) (scr_in _ _)
  refine j_aload_n (M := mL_law_) dL_law__2279 rfl ?_
  refine l_arg dL_law__2280 dL_law__2281 dL_law__2283 dL_law__2284 dL_law__2285 (by omega) (by omega) hn ?_
  refine j_aload_n (M := mL_law_) dL_law__2286 rfl ?_
  refine j_callT (M := mL_law_) (d := 41) (n := 3) (As := [jR (some 0), jI (scr G (i + 1)), jR (some 184)]) (S := []) (mc' := mc) (ms' := ms) (rc' := rc) (rs' := rs) dL_law__2287 ctL_262 rfl (Nat.le_of_ble_eq_true rfl) (by omega) (by omega) (jS_mono (wr_rank hsh hcl) ?_)
  rintro o h ⟨X, J, F', rfl, rfl, hP, hC, hA, h9, hv⟩
  refine j_istore (M := mL_law_) (pc := 2290) (L := lL i none none) dL_law__2290 (by decide) ?_
  refine j_aload_n (M := mL_law_) (L := lL i (some (jI c)) none) dL_law__2292 rfl ?_
  refine l_arg dL_law__2293 dL_law__2294 dL_law__2296 dL_law__2297 dL_law__2298 (by omega) (by omega) hn ?_
  refine j_callV2 (M := mL_law_) (d' := 40) (n := 1) (As := [jI (scr G (i + 1))]) (S := []) (mc' := 0) (ms' := 0) (rc' := rc) (rs' := rs) dL_law__2299 cvL_264 (by decide) (by decide) (hP.1 170 _ rfl) rfl (Nat.le_of_ble_eq_true rfl) (by omega) (by omega) (jS_mono (hmd X J F' hP hA) ?_)
  rintro o h ⟨K, r2, rfl, rfl, hr, hK⟩
  refine l_tail (pc := 2302) (off := 423) ⟨dL_law__2302, dL_law__2304, dL_law__2305, dL_law__2308, dL_law__2310, dL_law__2315, dL_law__2317, dL_law__2320, dL_law__2321, dL_law__2322, dL_law__2323, dL_law__2325, dL_law__2326, dL_law__2327, dL_law__2332⟩ (by decide) hP.1 hK.1 (fun z => ?_) (k _ _ _ (INV_next hI.2.2.2 hP hC h9 hK))
  rw [hK.2.2.2 184 (by decide), hv z, hr z]
theorem lc_39 (hI : INV b sh I F) (hb : 0 ≤ b ∧ b ≤ 800000000) (hi : 0 ≤ i) (h6 : i + 5 < G.2.2.2.1) (hn : G.2.2.2.1 < 2 ^ 31) (k : lNx G Q b i rc rs) : jW G mL_law_ 42 Q 2335 (lL i none none) [] (sh, I, F) (rc + 4) (rs + 430) := by
  have hsh := hI.1.1
  have h5 := Sh_185 hsh
  obtain ⟨c, r, M', mc, ms, ⟨hmc, hms, hcl⟩, hmd⟩ := pr_strike (G := G) hI hb 
  refine j_aload_n (M := mL_law_) dL_law__2335 rfl ?_
  refine j_callV2 (M := mL_law_) (d' := 40) (n := 0) (As := []) (S := []) (mc' := mc) (ms' := ms) (rc' := rc) (rs' := rs) dL_law__2336 cvL_265 (by decide) (by decide) (hsh 0 _ rfl) rfl (Nat.le_of_ble_eq_true rfl) (by omega) (by omega) (jS_mono hcl ?_)
  rintro o h ⟨X, J, F', rfl, hC, hq⟩
  rcases hq with ⟨c0, rfl⟩ | ⟨c0, E, rfl, hT⟩
  rotate_left
  · exact absurd hT (by simp)
  refine j_wrap (M := mL_law_) (pc := 2339) (L := lL i none none) (S := []) ?_
  refine j_aload_n (M := mL_law_) (L := lL i none none) dL_law__2339 rfl ?_
  refine j_callV2 (M := mL_law_) (d' := 40) (n := 0) (As := []) (S := [jI (jwr r)]) (mc' := 0) (ms' := 0) (rc' := rc) (rs' := rs) dL_law__2340 cvL_268 (by decide) (by decide) (hC.1.1 170 _ rfl) rfl (Nat.le_of_ble_eq_true rfl) (by omega) (by omega) (jS_mono (hmd X J F' hC.1 (fun a a0 a1 => hC.2.2.1 a a0 (by omega))) ?_)
  rintro o h ⟨K, r2, rfl, rfl, hr, hK⟩
  refine j_wrap (M := mL_law_) (pc := 2343) (L := lL i none none) (S := [jI (jwr r)]) ?_
  rw [hr c0]
  exact j_icmp_eq (M := mL_law_) (tgt := 2755) dL_law__2343 (by decide) (jwr_in _) (jwr_in _) (fun _ => k _ _ _ (INV_next hI.2.2.2 hC.1 hC.2.1 hC.2.2.2 hK)) (fun z => absurd rfl z)
theorem lc_40 (hI : INV b sh I F) (hb : 0 ≤ b ∧ b ≤ 800000000) (hi : 0 ≤ i) (h6 : i + 5 < G.2.2.2.1) (hn : G.2.2.2.1 < 2 ^ 31) (k : lNx G Q b i rc rs) : jW G mL_law_ 42 Q 2348 (lL i none none) [] (sh, I, F) (rc + 4) (rs + 430) := by
  have hsh := hI.1.1
  obtain ⟨c, r, M', mc, ms, ⟨hmc, hms, hcl⟩, hmd⟩ := pr_trial (G := G) hI hb (n := scr G (i + 1)) (t := jnz (scr G (i + 2))) (scr_in _ _) (jnz_01 _)
  refine j_aload_n (M := mL_law_) dL_law__2348 rfl ?_
  refine l_arg dL_law__2349 dL_law__2350 dL_law__2352 dL_law__2353 dL_law__2354 (by omega) (by omega) hn ?_
  refine l_arg dL_law__2355 dL_law__2356 dL_law__2358 dL_law__2359 dL_law__2360 (by omega) (by omega) hn ?_
  refine j_nz (M := mL_law_) dL_law__2361 dL_law__2364 dL_law__2365 dL_law__2368 (scr_in _ _) ?_
  refine j_aload_n (M := mL_law_) dL_law__2369 rfl ?_
  refine j_callT (M := mL_law_) (d := 41) (n := 4) (As := [jR (some 0), jI (scr G (i + 1)), jI (jnz (scr G (i + 2))), jR (some 184)]) (S := []) (mc' := mc) (ms' := ms) (rc' := rc) (rs' := rs) dL_law__2370 ctL_269 rfl (Nat.le_of_ble_eq_true rfl) (by omega) (by omega) (jS_mono (wr_trial hsh hcl) ?_)
  rintro o h ⟨X, J, F', rfl, rfl, hP, hC, hA, h9, hv⟩
  refine j_istore (M := mL_law_) (pc := 2373) (L := lL i none none) dL_law__2373 (by decide) ?_
  refine j_aload_n (M := mL_law_) (L := lL i (some (jI c)) none) dL_law__2375 rfl ?_
  refine l_arg dL_law__2376 dL_law__2377 dL_law__2379 dL_law__2380 dL_law__2381 (by omega) (by omega) hn ?_
  refine l_arg dL_law__2382 dL_law__2383 dL_law__2385 dL_law__2386 dL_law__2387 (by omega) (by omega) hn ?_
  refine j_nz (M := mL_law_) dL_law__2388 dL_law__2391 dL_law__2392 dL_law__2395 (scr_in _ _) ?_
  refine j_callV2 (M := mL_law_) (d' := 40) (n := 2) (As := [jI (scr G (i + 1)), jI (jnz (scr G (i + 2)))]) (S := []) (mc' := 0) (ms' := 0) (rc' := rc) (rs' := rs) dL_law__2396 cvL_271 (by decide) (by decide) (hP.1 170 _ rfl) rfl (Nat.le_of_ble_eq_true rfl) (by omega) (by omega) (jS_mono (hmd X J F' hP hA) ?_)
  rintro o h ⟨K, r2, rfl, rfl, hr, hK⟩
  refine l_tail (pc := 2399) (off := 326) ⟨dL_law__2399, dL_law__2401, dL_law__2402, dL_law__2405, dL_law__2407, dL_law__2412, dL_law__2414, dL_law__2417, dL_law__2418, dL_law__2419, dL_law__2420, dL_law__2422, dL_law__2423, dL_law__2424, dL_law__2429⟩ (by decide) hP.1 hK.1 (fun z => ?_) (k _ _ _ (INV_next hI.2.2.2 hP hC h9 hK))
  rw [hK.2.2.2 184 (by decide), hv z, hr z]
theorem lc_41 (hI : INV b sh I F) (hb : 0 ≤ b ∧ b ≤ 800000000) (hi : 0 ≤ i) (h6 : i + 5 < G.2.2.2.1) (hn : G.2.2.2.1 < 2 ^ 31) (k : lNx G Q b i rc rs) : jW G mL_law_ 42 Q 2432 (lL i none none) [] (sh, I, F) (rc + 4) (rs + 430) := by
  have hsh := hI.1.1
  obtain ⟨c, r, M', mc, ms, ⟨hmc, hms, hcl⟩, hmd⟩ := pr_span (G := G) hI hb (n := scr G (i + 1)) (t := jnz (scr G (i + 2))) (scr_in _ _) (jnz_01 _)
  refine j_aload_n (M := mL_law_) dL_law__2432 rfl ?_
  refine l_arg dL_law__2433 dL_law__2434 dL_law__2436 dL_law__2437 dL_law__2438 (by omega) (by omega) hn ?_
  refine l_arg dL_law__2439 dL_law__2440 dL_law__2442 dL_law__2443 dL_law__2444 (by omega) (by omega) hn ?_
  refine j_nz (M := mL_law_) dL_law__2445 dL_law__2448 dL_law__2449 dL_law__2452 (scr_in _ _) ?_
  refine j_aload_n (M := mL_law_) dL_law__2453 rfl ?_
  refine j_callT (M := mL_law_) (d := 41) (n := 4) (As := [jR (some 0), jI (scr G (i + 1)), jI (jnz (scr G (i + 2))), jR (some 184)]) (S := []) (mc' := mc) (ms' := ms) (rc' := rc) (rs' := rs) dL_law__2454 ctL_272 rfl (Nat.le_of_ble_eq_true rfl) (by omega) (by omega) (jS_mono (wr_span hsh hcl) ?_)
  rintro o h ⟨X, J, F', rfl, rfl, hP, hC, hA, h9, hv⟩
  refine j_istore (M := mL_law_) (pc := 2457) (L := lL i none none) dL_law__2457 (by decide) ?_
  refine j_aload_n (M := mL_law_) (L := lL i (some (jI c)) none) dL_law__2459 rfl ?_
  refine l_arg dL_law__2460 dL_law__2461 dL_law__2463 dL_law__2464 dL_law__2465 (by omega) (by omega) hn ?_
  refine l_arg dL_law__2466 dL_law__2467 dL_law__2469 dL_law__2470 dL_law__2471 (by omega) (by omega) hn ?_
  refine j_nz (M := mL_law_) dL_law__2472 dL_law__2475 dL_law__2476 dL_law__2479 (scr_in _ _) ?_
  refine j_callV2 (M := mL_law_) (d' := 40) (n := 2) (As := [jI (scr G (i + 1)), jI (jnz (scr G (i + 2)))]) (S := []) (mc' := 0) (ms' := 0) (rc' := rc) (rs' := rs) dL_law__2480 cvL_274 (by decide) (by decide) (hP.1 170 _ rfl) rfl (Nat.le_of_ble_eq_true rfl) (by omega) (by omega) (jS_mono (hmd X J F' hP hA) ?_)
  rintro o h ⟨K, r2, rfl, rfl, hr, hK⟩
  refine l_tail (pc := 2483) (off := 242) ⟨dL_law__2483, dL_law__2485, dL_law__2486, dL_law__2489, dL_law__2491, dL_law__2496, dL_law__2498, dL_law__2501, dL_law__2502, dL_law__2503, dL_law__2504, dL_law__2506, dL_law__2507, dL_law__2508, dL_law__2513⟩ (by decide) hP.1 hK.1 (fun z => ?_) (k _ _ _ (INV_next hI.2.2.2 hP hC h9 hK))
  rw [hK.2.2.2 184 (by decide), hv z, hr z]
theorem lc_42 (hI : INV b sh I F) (hb : 0 ≤ b ∧ b ≤ 800000000) (hi : 0 ≤ i) (h6 : i + 5 < G.2.2.2.1) (hn : G.2.2.2.1 < 2 ^ 31) (k : lNx G Q b i rc rs) : jW G mL_law_ 42 Q 2516 (lL i none none) [] (sh, I, F) (rc + 4) (rs + 430) := by
  have hsh := hI.1.1
  obtain ⟨c, r, M', mc, ms, ⟨hmc, hms, hcl⟩, hmd⟩ := pr_led (G := G) hI hb (p := scr G (i + 1)) (t := jnz (scr G (i + 2))) (scr_in _ _) (jnz_01 _)
  refine j_aload_n (M := mL_law_) dL_law__2516 rfl ?_
  refine l_arg dL_law__2517 dL_law__2518 dL_law__2520 dL_law__2521 dL_law__2522 (by omega) (by omega) hn ?_
  refine l_arg dL_law__2523 dL_law__2524 dL_law__2526 dL_law__2527 dL_law__2528 (by omega) (by omega) hn ?_
  refine j_nz (M := mL_law_) dL_law__2529 dL_law__2532 dL_law__2533 dL_law__2536 (scr_in _ _) ?_
  refine j_aload_n (M := mL_law_) dL_law__2537 rfl ?_
  refine j_callT (M := mL_law_) (d := 41) (n := 4) (As := [jR (some 0), jI (scr G (i + 1)), jI (jnz (scr G (i + 2))), jR (some 184)]) (S := []) (mc' := mc) (ms' := ms) (rc' := rc) (rs' := rs) dL_law__2538 ctL_275 rfl (Nat.le_of_ble_eq_true rfl) (by omega) (by omega) (jS_mono (wr_led hsh hcl) ?_)
  rintro o h ⟨X, J, F', rfl, rfl, hP, hC, hA, h9, hv⟩
  refine j_istore (M := mL_law_) (pc := 2541) (L := lL i none none) dL_law__2541 (by decide) ?_
  refine j_aload_n (M := mL_law_) (L := lL i (some (jI c)) none) dL_law__2543 rfl ?_
  refine l_arg dL_law__2544 dL_law__2545 dL_law__2547 dL_law__2548 dL_law__2549 (by omega) (by omega) hn ?_
  refine l_arg dL_law__2550 dL_law__2551 dL_law__2553 dL_law__2554 dL_law__2555 (by omega) (by omega) hn ?_
  refine j_nz (M := mL_law_) dL_law__2556 dL_law__2559 dL_law__2560 dL_law__2563 (scr_in _ _) ?_
  refine j_callV2 (M := mL_law_) (d' := 40) (n := 2) (As := [jI (scr G (i + 1)), jI (jnz (scr G (i + 2)))]) (S := []) (mc' := 0) (ms' := 0) (rc' := rc) (rs' := rs) dL_law__2564 cvL_277 (by decide) (by decide) (hP.1 170 _ rfl) rfl (Nat.le_of_ble_eq_true rfl) (by omega) (by omega) (jS_mono (hmd X J F' hP hA) ?_)
  rintro o h ⟨K, r2, rfl, rfl, hr, hK⟩
  refine l_tail (pc := 2567) (off := 158) ⟨dL_law__2567, dL_law__2569, dL_law__2570, dL_law__2573, dL_law__2575, dL_law__2580, dL_law__2582, dL_law__2585, dL_law__2586, dL_law__2587, dL_law__2588, dL_law__2590, dL_law__2591, dL_law__2592, dL_law__2597⟩ (by decide) hP.1 hK.1 (fun z => ?_) (k _ _ _ (INV_next hI.2.2.2 hP hC h9 hK))
  rw [hK.2.2.2 184 (by decide), hv z, hr z]
theorem lc_43 (hI : INV b sh I F) (hb : 0 ≤ b ∧ b ≤ 800000000) (hi : 0 ≤ i) (h6 : i + 5 < G.2.2.2.1) (hn : G.2.2.2.1 < 2 ^ 31) (k : lNx G Q b i rc rs) : jW G mL_law_ 42 Q 2600 (lL i none none) [] (sh, I, F) (rc + 4) (rs + 430) := by
  have hsh := hI.1.1
  obtain ⟨c, r, M', mc, ms, ⟨hmc, hms, hcl⟩, hmd⟩ := pr_log (G := G) hI hb (a := scr G (i + 1)) (c := scr G (i + 2)) (scr_in _ _) (scr_in _ _)
  refine j_aload_n (M := mL_law_) dL_law__2600 rfl ?_
  refine l_arg dL_law__2601 dL_law__2602 dL_law__2604 dL_law__2605 dL_law__2606 (by omega) (by omega) hn ?_
  refine l_arg dL_law__2607 dL_law__2608 dL_law__2610 dL_law__2611 dL_law__2612 (by omega) (by omega) hn ?_
  refine j_aload_n (M := mL_law_) dL_law__2613 rfl ?_
  refine j_callT (M := mL_law_) (d := 41) (n := 4) (As := [jR (some 0), jI (scr G (i + 1)), jI (scr G (i + 2)), jR (some 184)]) (S := []) (mc' := mc) (ms' := ms) (rc' := rc) (rs' := rs) dL_law__2614 ctL_278 rfl (Nat.le_of_ble_eq_true rfl) (by omega) (by omega) (jS_mono (wr_log hsh hcl) ?_)
  rintro o h ⟨X, J, F', rfl, rfl, hP, hC, hA, h9, hv⟩
  refine j_istore (M := mL_law_) (pc := 2617) (L := lL i none none) dL_law__2617 (by decide) ?_
  refine j_aload_n (M := mL_law_) (L := lL i (some (jI c)) none) dL_law__2619 rfl ?_
  refine l_arg dL_law__2620 dL_law__2621 dL_law__2623 dL_law__2624 dL_law__2625 (by omega) (by omega) hn ?_
  refine l_arg dL_law__2626 dL_law__2627 dL_law__2629 dL_law__2630 dL_law__2631 (by omega) (by omega) hn ?_
  refine j_callV2 (M := mL_law_) (d' := 40) (n := 2) (As := [jI (scr G (i + 1)), jI (scr G (i + 2))]) (S := []) (mc' := 0) (ms' := 0) (rc' := rc) (rs' := rs) dL_law__2632 cvL_280 (by decide) (by decide) (hP.1 170 _ rfl) rfl (Nat.le_of_ble_eq_true rfl) (by omega) (by omega) (jS_mono (hmd X J F' hP hA) ?_)
  rintro o h ⟨K, r2, rfl, rfl, hr, hK⟩
  refine l_tail (pc := 2635) (off := 90) ⟨dL_law__2635, dL_law__2637, dL_law__2638, dL_law__2641, dL_law__2643, dL_law__2648, dL_law__2650, dL_law__2653, dL_law__2654, dL_law__2655, dL_law__2656, dL_law__2658, dL_law__2659, dL_law__2660, dL_law__2665⟩ (by decide) hP.1 hK.1 (fun z => ?_) (k _ _ _ (INV_next hI.2.2.2 hP hC h9 hK))
  rw [hK.2.2.2 184 (by decide), hv z, hr z]
theorem lc_44 (hI : INV b sh I F) (hb : 0 ≤ b ∧ b ≤ 800000000) (hi : 0 ≤ i) (h6 : i + 5 < G.2.2.2.1) (hn : G.2.2.2.1 < 2 ^ 31) (k : lNx G Q b i rc rs) : jW G mL_law_ 42 Q 2668 (lL i none none) [] (sh, I, F) (rc + 4) (rs + 430) := by
  have hsh := hI.1.1
  have h5 := Sh_185 hsh
  obtain ⟨c, r, M', mc, ms, ⟨hmc, hms, hcl⟩, hmd⟩ := pr_seed (G := G) hI hb (n := scr G (i + 1)) (scr_in _ _)
  refine j_aload_n (M := mL_law_) dL_law__2668 rfl ?_
  refine l_arg dL_law__2669 dL_law__2670 dL_law__2672 dL_law__2673 dL_law__2674 (by omega) (by omega) hn ?_
  refine j_callV2 (M := mL_law_) (d' := 40) (n := 1) (As := [jI (scr G (i + 1))]) (S := []) (mc' := mc) (ms' := ms) (rc' := rc) (rs' := rs) dL_law__2675 cvL_281 (by decide) (by decide) (hsh 0 _ rfl) rfl (Nat.le_of_ble_eq_true rfl) (by omega) (by omega) (jS_mono hcl ?_)
  rintro o h ⟨X, J, F', rfl, hC, hq⟩
  rcases hq with ⟨c0, rfl⟩ | ⟨c0, E, rfl, hT⟩
  rotate_left
  · exact absurd hT (by simp)
  refine j_wrap (M := mL_law_) (pc := 2678) (L := lL i none none) (S := []) ?_
  refine j_aload_n (M := mL_law_) (L := lL i none none) dL_law__2678 rfl ?_
  refine l_arg dL_law__2679 dL_law__2680 dL_law__2682 dL_law__2683 dL_law__2684 (by omega) (by omega) hn ?_
  refine j_callV2 (M := mL_law_) (d' := 40) (n := 1) (As := [jI (scr G (i + 1))]) (S := [jI (jwr r)]) (mc' := 0) (ms' := 0) (rc' := rc) (rs' := rs) dL_law__2685 cvL_284 (by decide) (by decide) (hC.1.1 170 _ rfl) rfl (Nat.le_of_ble_eq_true rfl) (by omega) (by omega) (jS_mono (hmd X J F' hC.1 (fun a a0 a1 => hC.2.2.1 a a0 (by omega))) ?_)
  rintro o h ⟨K, r2, rfl, rfl, hr, hK⟩
  refine j_wrap (M := mL_law_) (pc := 2688) (L := lL i none none) (S := [jI (jwr r)]) ?_
  rw [hr c0]
  exact j_icmp_eq (M := mL_law_) (tgt := 2755) dL_law__2688 (by decide) (jwr_in _) (jwr_in _) (fun _ => k _ _ _ (INV_next hI.2.2.2 hC.1 hC.2.1 hC.2.2.2 hK)) (fun z => absurd rfl z)
theorem lc_45 (hI : INV b sh I F) (hb : 0 ≤ b ∧ b ≤ 800000000) (hi : 0 ≤ i) (h6 : i + 5 < G.2.2.2.1) (hn : G.2.2.2.1 < 2 ^ 31) (k : lNx G Q b i rc rs) : jW G mL_law_ 42 Q 2693 (lL i none none) [] (sh, I, F) (rc + 4) (rs + 430) := by
  have hsh := hI.1.1
  have h5 := Sh_185 hsh
  obtain ⟨c, r, M', mc, ms, ⟨hmc, hms, hcl⟩, hmd⟩ := pr_undo (G := G) hI hb 
  refine j_aload_n (M := mL_law_) dL_law__2693 rfl ?_
  refine j_callV2 (M := mL_law_) (d' := 40) (n := 0) (As := []) (S := []) (mc' := mc) (ms' := ms) (rc' := rc) (rs' := rs) dL_law__2694 cvL_285 (by decide) (by decide) (hsh 0 _ rfl) rfl (Nat.le_of_ble_eq_true rfl) (by omega) (by omega) (jS_mono hcl ?_)
  rintro o h ⟨X, J, F', rfl, hC, hq⟩
  rcases hq with ⟨c0, rfl⟩ | ⟨c0, E, rfl, hT⟩
  rotate_left
  · exact absurd hT (by simp)
  refine j_wrap (M := mL_law_) (pc := 2697) (L := lL i none none) (S := []) ?_
  refine j_aload_n (M := mL_law_) (L := lL i none none) dL_law__2697 rfl ?_
  refine j_callV2 (M := mL_law_) (d' := 40) (n := 0) (As := []) (S := [jI (jwr r)]) (mc' := 0) (ms' := 0) (rc' := rc) (rs' := rs) dL_law__2698 cvL_288 (by decide) (by decide) (hC.1.1 170 _ rfl) rfl (Nat.le_of_ble_eq_true rfl) (by omega) (by omega) (jS_mono (hmd X J F' hC.1 (fun a a0 a1 => hC.2.2.1 a a0 (by omega))) ?_)
  rintro o h ⟨K, r2, rfl, rfl, hr, hK⟩
  refine j_wrap (M := mL_law_) (pc := 2701) (L := lL i none none) (S := [jI (jwr r)]) ?_
  rw [hr c0]
  exact j_icmp_eq (M := mL_law_) (tgt := 2755) dL_law__2701 (by decide) (jwr_in _) (jwr_in _) (fun _ => k _ _ _ (INV_next hI.2.2.2 hC.1 hC.2.1 hC.2.2.2 hK)) (fun z => absurd rfl z)
theorem lc_46 (hI : INV b sh I F) (hb : 0 ≤ b ∧ b ≤ 800000000) (hi : 0 ≤ i) (h6 : i + 5 < G.2.2.2.1) (hn : G.2.2.2.1 < 2 ^ 31) (k : lNx G Q b i rc rs) : jW G mL_law_ 42 Q 2706 (lL i none none) [] (sh, I, F) (rc + 4) (rs + 430) := by
  have hsh := hI.1.1
  have h5 := Sh_185 hsh
  obtain ⟨M', hcl, hmd⟩ := pr_image (G := G) hI hb
  refine j_aload_n (M := mL_law_) dL_law__2706 rfl ?_
  refine j_callV2 (M := mL_law_) (d' := 40) (n := 0) (As := []) (S := []) (mc' := 0) (ms' := 0) (rc' := rc) (rs' := rs) dL_law__2707 cvL_289 (by decide) (by decide) (hsh 0 _ rfl) rfl (Nat.le_of_ble_eq_true rfl) (by omega) (by omega) (jS_mono hcl ?_)
  rintro o h ⟨J, F', rfl, rfl, hC⟩
  refine j_aload_n (M := mL_law_) (pc := 2710) (L := lL i none none) dL_law__2710 rfl ?_
  refine j_callV2 (M := mL_law_) (d' := 40) (n := 0) (As := []) (S := []) (mc' := 0) (ms' := 0) (rc' := rc) (rs' := rs) dL_law__2711 cvL_292 (by decide) (by decide) (hC.1.1 170 _ rfl) rfl (Nat.le_of_ble_eq_true rfl) (by omega) (by omega) (jS_mono (hmd J F' hC.1 (fun a a0 a1 => hC.2.2.1 a a0 (by omega))) ?_)
  rintro o h ⟨K, rfl, rfl, hK⟩
  exact j_goto (M := mL_law_) (pc := 2714) (tgt := 2755) (L := lL i none none) (S := []) dL_law__2714 (by decide) (k _ _ _ (INV_next hI.2.2.2 hC.1 hC.2.1 hC.2.2.2 hK))
theorem lc_47 (hI : INV b sh I F) (hb : 0 ≤ b ∧ b ≤ 800000000) (hi : 0 ≤ i) (h6 : i + 5 < G.2.2.2.1) (hn : G.2.2.2.1 < 2 ^ 31) (k : lNx G Q b i rc rs) : jW G mL_law_ 42 Q 2717 (lL i none none) [] (sh, I, F) (rc + 4) (rs + 430) := by
  have hsh := hI.1.1
  have h5 := Sh_185 hsh
  obtain ⟨c, r, M', mc, ms, ⟨hmc, hms, hcl⟩, hmd⟩ := pr_back (G := G) hI hb 
  refine j_aload_n (M := mL_law_) dL_law__2717 rfl ?_
  refine j_callV2 (M := mL_law_) (d' := 40) (n := 0) (As := []) (S := []) (mc' := mc) (ms' := ms) (rc' := rc) (rs' := rs) dL_law__2718 cvL_293 (by decide) (by decide) (hsh 0 _ rfl) rfl (Nat.le_of_ble_eq_true rfl) (by omega) (by omega) (jS_mono hcl ?_)
  rintro o h ⟨X, J, F', rfl, hC, hq⟩
  rcases hq with ⟨c0, rfl⟩ | ⟨c0, E, rfl, hT⟩
  rotate_left
  · exact absurd hT (by simp)
  refine j_wrap (M := mL_law_) (pc := 2721) (L := lL i none none) (S := []) ?_
  refine j_aload_n (M := mL_law_) (L := lL i none none) dL_law__2721 rfl ?_
  refine j_callV2 (M := mL_law_) (d' := 40) (n := 0) (As := []) (S := [jI (jwr r)]) (mc' := 0) (ms' := 0) (rc' := rc) (rs' := rs) dL_law__2722 cvL_296 (by decide) (by decide) (hC.1.1 170 _ rfl) rfl (Nat.le_of_ble_eq_true rfl) (by omega) (by omega) (jS_mono (hmd X J F' hC.1 (fun a a0 a1 => hC.2.2.1 a a0 (by omega))) ?_)
  rintro o h ⟨K, r2, rfl, rfl, hr, hK⟩
  refine j_wrap (M := mL_law_) (pc := 2725) (L := lL i none none) (S := [jI (jwr r)]) ?_
  rw [hr c0]
  exact j_icmp_eq (M := mL_law_) (tgt := 2755) dL_law__2725 (by decide) (jwr_in _) (jwr_in _) (fun _ => k _ _ _ (INV_next hI.2.2.2 hC.1 hC.2.1 hC.2.2.2 hK)) (fun z => absurd rfl z)
theorem lc_48 (hI : INV b sh I F) (hb : 0 ≤ b ∧ b ≤ 800000000) (hi : 0 ≤ i) (h6 : i + 5 < G.2.2.2.1) (hn : G.2.2.2.1 < 2 ^ 31) (k : lNx G Q b i rc rs) : jW G mL_law_ 42 Q 2730 (lL i none none) [] (sh, I, F) (rc + 4) (rs + 430) := by
  have hsh := hI.1.1
  have h5 := Sh_185 hsh
  obtain ⟨c, r, M', mc, ms, ⟨hmc, hms, hcl⟩, hmd⟩ := pr_count (G := G) hI hb (k := scr G (i + 1)) (scr_in _ _)
  refine j_aload_n (M := mL_law_) dL_law__2730 rfl ?_
  refine l_arg dL_law__2731 dL_law__2732 dL_law__2734 dL_law__2735 dL_law__2736 (by omega) (by omega) hn ?_
  refine j_callV2 (M := mL_law_) (d' := 40) (n := 1) (As := [jI (scr G (i + 1))]) (S := []) (mc' := mc) (ms' := ms) (rc' := rc) (rs' := rs) dL_law__2737 cvL_297 (by decide) (by decide) (hsh 0 _ rfl) rfl (Nat.le_of_ble_eq_true rfl) (by omega) (by omega) (jS_mono hcl ?_)
  rintro o h ⟨X, J, F', rfl, hC, hq⟩
  rcases hq with ⟨c0, rfl⟩ | ⟨c0, E, rfl, hT⟩
  rotate_left
  · exact absurd hT (by simp)
  refine j_wrap (M := mL_law_) (pc := 2740) (L := lL i none none) (S := []) ?_
  refine j_aload_n (M := mL_law_) (L := lL i none none) dL_law__2740 rfl ?_
  refine l_arg dL_law__2741 dL_law__2742 dL_law__2744 dL_law__2745 dL_law__2746 (by omega) (by omega) hn ?_
  refine j_callV2 (M := mL_law_) (d' := 40) (n := 1) (As := [jI (scr G (i + 1))]) (S := [jI (jwr r)]) (mc' := 0) (ms' := 0) (rc' := rc) (rs' := rs) dL_law__2747 cvL_300 (by decide) (by decide) (hC.1.1 170 _ rfl) rfl (Nat.le_of_ble_eq_true rfl) (by omega) (by omega) (jS_mono (hmd X J F' hC.1 (fun a a0 a1 => hC.2.2.1 a a0 (by omega))) ?_)
  rintro o h ⟨K, r2, rfl, rfl, hr, hK⟩
  refine j_wrap (M := mL_law_) (pc := 2750) (L := lL i none none) (S := [jI (jwr r)]) ?_
  rw [hr c0]
  exact j_icmp_eq (M := mL_law_) (tgt := 2755) dL_law__2750 (by decide) (jwr_in _) (jwr_in _) (fun _ => k _ _ _ (INV_next hI.2.2.2 hC.1 hC.2.1 hC.2.2.2 hK)) (fun z => absurd rfl z)
/-- the law's loop: it comes to its end with 1 -/
theorem l_loop (hn : G.2.2.2.1 < 2 ^ 31) : ∀ (n : Nat) (i b : Int) (sh : List (Nat × Nat)) (I : Nat → Int → Int) (F : Nat → Int → Option Nat) (rc rs : Nat), 0 ≤ i → (G.2.2.2.1 : Int) - i < 6 * n + 6 → INV b sh I F → 0 ≤ b → b + 140000 * n ≤ 800000000 → 4 * n ≤ rc → 430 * n ≤ rs → i ≤ G.2.2.2.1 → jW G mL_law_ 42 (fun o _ => o = .inl (some (jI 1))) 23 (lL i none none) [] (sh, I, F) rc rs := by
  intro n
  induction n with
  | zero =>
    intro i b sh I F rc rs hi hN hI hb hb2 hrc hrs hi2
    refine j_iload (M := mL_law_) dL_law__23 rfl ?_
    refine j_aload_n (M := mL_law_) dL_law__25 rfl ?_
    refine j_slen (M := mL_law_) dL_law__26 ?_
    refine j_bipush (M := mL_law_) dL_law__27 rfl ?_
    refine j_isub (M := mL_law_) dL_law__29 ?_
    refine j_icmp_gt (M := mL_law_) (tgt := 2761) dL_law__30 (by decide) (by omega) (by omega) (fun _ => ?_) (fun z => by omega)
    refine j_iconst (M := mL_law_) dL_law__2761 ?_
    exact j_zret (M := mL_law_) dL_law__2762 rfl (by omega) rfl
  | succ n ih =>
    intro i b sh I F rc rs hi hN hI hb hb2 hrc hrs hi2
    refine j_iload (M := mL_law_) dL_law__23 rfl ?_
    refine j_aload_n (M := mL_law_) dL_law__25 rfl ?_
    refine j_slen (M := mL_law_) dL_law__26 ?_
    refine j_bipush (M := mL_law_) dL_law__27 rfl ?_
    refine j_isub (M := mL_law_) dL_law__29 ?_
    refine j_icmp_gt (M := mL_law_) (tgt := 2761) dL_law__30 (by decide) (by omega) (by omega) (fun _ => ?_) (fun z => ?_)
    · refine j_iconst (M := mL_law_) dL_law__2761 ?_
      exact j_zret (M := mL_law_) dL_law__2762 rfl (by omega) rfl
    have h6 : i + 5 < G.2.2.2.1 := by omega
    have nx : lNx G (fun o _ => o = .inl (some (jI 1))) b i (rc - 4) (rs - 430) := by
      intro sh' I' F' h'
      refine j_iinc (M := mL_law_) dL_law__2755 rfl (by decide) ?_
      refine j_goto (M := mL_law_) (tgt := 23) dL_law__2758 (by decide) ?_
      exact ih (i + 6) (b + 140000) sh' I' F' _ _ (by omega) (by omega) h' (by omega) (by omega) (by omega) (by omega) (by omega)
    have hb3 : 0 ≤ b ∧ b ≤ 800000000 := by omega
    rw [show rc = (rc - 4) + 4 by omega, show rs = (rs - 430) + 430 by omega]
    refine j_aload_n (M := mL_law_) dL_law__33 rfl ?_
    refine j_iload (M := mL_law_) dL_law__34 rfl ?_
    refine j_sld (M := mL_law_) dL_law__36 (by omega) (by omega) hn ?_
    refine j_bipush (M := mL_law_) dL_law__37 rfl ?_
    refine j_iand (M := mL_law_) dL_law__39 ?_
    have hm := jAnd_le (m := 63) (by decide) (G.2.2.2.2 i.toNat).toInt
    obtain ⟨v, hv⟩ : ∃ v, jAnd (G.2.2.2.2 i.toNat).toInt 63 = v := ⟨_, rfl⟩
    rw [hv] at hm ⊢
    by_cases e0 : v = 0
    · rw [e0]; exact j_tswIn (M := mL_law_) (tgt := 252) dL_law__40 (by decide) (by decide) (by decide) rfl rfl (lc_0 hI hb3 hi h6 hn nx)
    by_cases e1 : v = 1
    · rw [e1]; exact j_tswIn (M := mL_law_) (tgt := 325) dL_law__40 (by decide) (by decide) (by decide) rfl rfl (lc_1 hI hb3 hi h6 hn nx)
    by_cases e2 : v = 2
    · rw [e2]; exact j_tswIn (M := mL_law_) (tgt := 350) dL_law__40 (by decide) (by decide) (by decide) rfl rfl (lc_2 hI hb3 hi h6 hn nx)
    by_cases e3 : v = 3
    · rw [e3]; exact j_tswIn (M := mL_law_) (tgt := 394) dL_law__40 (by decide) (by decide) (by decide) rfl rfl (lc_3 hI hb3 hi h6 hn nx)
    by_cases e4 : v = 4
    · rw [e4]; exact j_tswIn (M := mL_law_) (tgt := 438) dL_law__40 (by decide) (by decide) (by decide) rfl rfl (lc_4 hI hb3 hi h6 hn nx)
    by_cases e5 : v = 5
    · rw [e5]; exact j_tswIn (M := mL_law_) (tgt := 451) dL_law__40 (by decide) (by decide) (by decide) rfl rfl (lc_5 hI hb3 hi h6 hn nx)
    by_cases e6 : v = 6
    · rw [e6]; exact j_tswIn (M := mL_law_) (tgt := 519) dL_law__40 (by decide) (by decide) (by decide) rfl rfl (lc_6 hI hb3 hi h6 hn nx)
    by_cases e7 : v = 7
    · rw [e7]; exact j_tswIn (M := mL_law_) (tgt := 587) dL_law__40 (by decide) (by decide) (by decide) rfl rfl (lc_7 hI hb3 hi h6 hn nx)
    by_cases e8 : v = 8
    · rw [e8]; exact j_tswIn (M := mL_law_) (tgt := 655) dL_law__40 (by decide) (by decide) (by decide) rfl rfl (lc_8 hI hb3 hi h6 hn nx)
    by_cases e9 : v = 9
    · rw [e9]; exact j_tswIn (M := mL_law_) (tgt := 723) dL_law__40 (by decide) (by decide) (by decide) rfl rfl (lc_9 hI hb3 hi h6 hn nx)
    by_cases e10 : v = 10
    · rw [e10]; exact j_tswIn (M := mL_law_) (tgt := 791) dL_law__40 (by decide) (by decide) (by decide) rfl rfl (lc_10 hI hb3 hi h6 hn nx)
    by_cases e11 : v = 11
    · rw [e11]; exact j_tswIn (M := mL_law_) (tgt := 859) dL_law__40 (by decide) (by decide) (by decide) rfl rfl (lc_11 hI hb3 hi h6 hn nx)
    by_cases e12 : v = 12
    · rw [e12]; exact j_tswIn (M := mL_law_) (tgt := 939) dL_law__40 (by decide) (by decide) (by decide) rfl rfl (lc_12 hI hb3 hi h6 hn nx)
    by_cases e13 : v = 13
    · rw [e13]; exact j_tswIn (M := mL_law_) (tgt := 1019) dL_law__40 (by decide) (by decide) (by decide) rfl rfl (lc_13 hI hb3 hi h6 hn nx)
    by_cases e14 : v = 14
    · rw [e14]; exact j_tswIn (M := mL_law_) (tgt := 1032) dL_law__40 (by decide) (by decide) (by decide) rfl rfl (lc_14 hI hb3 hi h6 hn nx)
    by_cases e15 : v = 15
    · rw [e15]; exact j_tswIn (M := mL_law_) (tgt := 1088) dL_law__40 (by decide) (by decide) (by decide) rfl rfl (lc_15 hI hb3 hi h6 hn nx)
    by_cases e16 : v = 16
    · rw [e16]; exact j_tswIn (M := mL_law_) (tgt := 1156) dL_law__40 (by decide) (by decide) (by decide) rfl rfl (lc_16 hI hb3 hi h6 hn nx)
    by_cases e17 : v = 17
    · rw [e17]; exact j_tswIn (M := mL_law_) (tgt := 1169) dL_law__40 (by decide) (by decide) (by decide) rfl rfl (lc_17 hI hb3 hi h6 hn nx)
    by_cases e18 : v = 18
    · rw [e18]; exact j_tswIn (M := mL_law_) (tgt := 1225) dL_law__40 (by decide) (by decide) (by decide) rfl rfl (lc_18 hI hb3 hi h6 hn nx)
    by_cases e19 : v = 19
    · rw [e19]; exact j_tswIn (M := mL_law_) (tgt := 1293) dL_law__40 (by decide) (by decide) (by decide) rfl rfl (lc_19 hI hb3 hi h6 hn nx)
    by_cases e20 : v = 20
    · rw [e20]; exact j_tswIn (M := mL_law_) (tgt := 1356) dL_law__40 (by decide) (by decide) (by decide) rfl rfl (lc_20 hI hb3 hi h6 hn nx)
    by_cases e21 : v = 21
    · rw [e21]; exact j_tswIn (M := mL_law_) (tgt := 1397) dL_law__40 (by decide) (by decide) (by decide) rfl rfl (lc_21 hI hb3 hi h6 hn nx)
    by_cases e22 : v = 22
    · rw [e22]; exact j_tswIn (M := mL_law_) (tgt := 1477) dL_law__40 (by decide) (by decide) (by decide) rfl rfl (lc_22 hI hb3 hi h6 hn nx)
    by_cases e23 : v = 23
    · rw [e23]; exact j_tswIn (M := mL_law_) (tgt := 1545) dL_law__40 (by decide) (by decide) (by decide) rfl rfl (lc_23 hI hb3 hi h6 hn nx)
    by_cases e24 : v = 24
    · rw [e24]; exact j_tswIn (M := mL_law_) (tgt := 1558) dL_law__40 (by decide) (by decide) (by decide) rfl rfl (lc_24 hI hb3 hi h6 hn nx)
    by_cases e25 : v = 25
    · rw [e25]; exact j_tswIn (M := mL_law_) (tgt := 1614) dL_law__40 (by decide) (by decide) (by decide) rfl rfl (lc_25 hI hb3 hi h6 hn nx)
    by_cases e26 : v = 26
    · rw [e26]; exact j_tswIn (M := mL_law_) (tgt := 1698) dL_law__40 (by decide) (by decide) (by decide) rfl rfl (lc_26 hI hb3 hi h6 hn nx)
    by_cases e27 : v = 27
    · rw [e27]; exact j_tswIn (M := mL_law_) (tgt := 1711) dL_law__40 (by decide) (by decide) (by decide) rfl rfl (lc_27 hI hb3 hi h6 hn nx)
    by_cases e28 : v = 28
    · rw [e28]; exact j_tswIn (M := mL_law_) (tgt := 1724) dL_law__40 (by decide) (by decide) (by decide) rfl rfl (lc_28 hI hb3 hi h6 hn nx)
    by_cases e29 : v = 29
    · rw [e29]; exact j_tswIn (M := mL_law_) (tgt := 1737) dL_law__40 (by decide) (by decide) (by decide) rfl rfl (lc_29 hI hb3 hi h6 hn nx)
    by_cases e30 : v = 30
    · rw [e30]; exact j_tswIn (M := mL_law_) (tgt := 1833) dL_law__40 (by decide) (by decide) (by decide) rfl rfl (lc_30 hI hb3 hi h6 hn nx)
    by_cases e31 : v = 31
    · rw [e31]; exact j_tswIn (M := mL_law_) (tgt := 1908) dL_law__40 (by decide) (by decide) (by decide) rfl rfl (lc_31 hI hb3 hi h6 hn nx)
    by_cases e32 : v = 32
    · rw [e32]; exact j_tswIn (M := mL_law_) (tgt := 1976) dL_law__40 (by decide) (by decide) (by decide) rfl rfl (lc_32 hI hb3 hi h6 hn nx)
    by_cases e33 : v = 33
    · rw [e33]; exact j_tswIn (M := mL_law_) (tgt := 2032) dL_law__40 (by decide) (by decide) (by decide) rfl rfl (lc_33 hI hb3 hi h6 hn nx)
    by_cases e34 : v = 34
    · rw [e34]; exact j_tswIn (M := mL_law_) (tgt := 2045) dL_law__40 (by decide) (by decide) (by decide) rfl rfl (lc_34 hI hb3 hi h6 hn nx)
    by_cases e35 : v = 35
    · rw [e35]; exact j_tswIn (M := mL_law_) (tgt := 2086) dL_law__40 (by decide) (by decide) (by decide) rfl rfl (lc_35 hI hb3 hi h6 hn nx)
    by_cases e36 : v = 36
    · rw [e36]; exact j_tswIn (M := mL_law_) (tgt := 2182) dL_law__40 (by decide) (by decide) (by decide) rfl rfl (lc_36 hI hb3 hi h6 hn nx)
    by_cases e37 : v = 37
    · rw [e37]; exact j_tswIn (M := mL_law_) (tgt := 2238) dL_law__40 (by decide) (by decide) (by decide) rfl rfl (lc_37 hI hb3 hi h6 hn nx)
    by_cases e38 : v = 38
    · rw [e38]; exact j_tswIn (M := mL_law_) (tgt := 2279) dL_law__40 (by decide) (by decide) (by decide) rfl rfl (lc_38 hI hb3 hi h6 hn nx)
    by_cases e39 : v = 39
    · rw [e39]; exact j_tswIn (M := mL_law_) (tgt := 2335) dL_law__40 (by decide) (by decide) (by decide) rfl rfl (lc_39 hI hb3 hi h6 hn nx)
    by_cases e40 : v = 40
    · rw [e40]; exact j_tswIn (M := mL_law_) (tgt := 2348) dL_law__40 (by decide) (by decide) (by decide) rfl rfl (lc_40 hI hb3 hi h6 hn nx)
    by_cases e41 : v = 41
    · rw [e41]; exact j_tswIn (M := mL_law_) (tgt := 2432) dL_law__40 (by decide) (by decide) (by decide) rfl rfl (lc_41 hI hb3 hi h6 hn nx)
    by_cases e42 : v = 42
    · rw [e42]; exact j_tswIn (M := mL_law_) (tgt := 2516) dL_law__40 (by decide) (by decide) (by decide) rfl rfl (lc_42 hI hb3 hi h6 hn nx)
    by_cases e43 : v = 43
    · rw [e43]; exact j_tswIn (M := mL_law_) (tgt := 2600) dL_law__40 (by decide) (by decide) (by decide) rfl rfl (lc_43 hI hb3 hi h6 hn nx)
    by_cases e44 : v = 44
    · rw [e44]; exact j_tswIn (M := mL_law_) (tgt := 2668) dL_law__40 (by decide) (by decide) (by decide) rfl rfl (lc_44 hI hb3 hi h6 hn nx)
    by_cases e45 : v = 45
    · rw [e45]; exact j_tswIn (M := mL_law_) (tgt := 2693) dL_law__40 (by decide) (by decide) (by decide) rfl rfl (lc_45 hI hb3 hi h6 hn nx)
    by_cases e46 : v = 46
    · rw [e46]; exact j_tswIn (M := mL_law_) (tgt := 2706) dL_law__40 (by decide) (by decide) (by decide) rfl rfl (lc_46 hI hb3 hi h6 hn nx)
    by_cases e47 : v = 47
    · rw [e47]; exact j_tswIn (M := mL_law_) (tgt := 2717) dL_law__40 (by decide) (by decide) (by decide) rfl rfl (lc_47 hI hb3 hi h6 hn nx)
    by_cases e48 : v = 48
    · rw [e48]; exact j_tswIn (M := mL_law_) (tgt := 2730) dL_law__40 (by decide) (by decide) (by decide) rfl rfl (lc_48 hI hb3 hi h6 hn nx)
    refine j_tswOut (M := mL_law_) (tgt := 2755) dL_law__40 (by omega) (by omega) (by decide) ?_
    exact j_less (by omega) (by omega) (nx _ _ _ ⟨hI.1, hI.2.1, MI_up hI.2.2.1, hI.2.2.2⟩)
end
