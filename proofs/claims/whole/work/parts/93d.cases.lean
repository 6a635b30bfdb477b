/-! the law's cases (4) -/
section CASES
variable {p : Program} {l : Launch} {e : Env} {s : State} {m : MethodId} {args : Array Value} {below : List Frame} {meth : Method} {c : Code} {D : va_G} {g : GT} {A : Nat → Prop} {a : Nat → Nat} {b : Nat → Nat → Nat} {k n : Nat} {Q : State → Prop} {M : Mem} {b0 L : Nat} {xs : Nat → Int32} {C : Nat → Nat → Int} {i : Nat}
set_option maxHeartbeats 1000000 in
set_option maxRecDepth 20000 in
theorem law_28 (X : vC p s m args meth c D g A RL wsL_law cL_law 9) (hY : YX s) (hlt : l.stackTraces = false) (hX : XS s A b0 L xs) (hi : i + 6 ≤ L) (hS : StB C M) (hk : k + 8 ≤ room_1.cells ∧ n + 60 ≤ room_1.slots) (K : ∀ (C' : Nat → Nat → Int) (M' : Mem), StB C' M' → vV p l e room_1 s m args below meth c D g A a b 9 (k + 8) (n + 60) Q M' (lv5 a b b0 i) 2145 []) : vV p l e room_1 s m args below meth c D g A a b 9 k n Q M (lv5 a b b0 i) 1727 [] := by
  obtain ⟨hW, hI, hC, hB⟩ := hS
  obtain ⟨code, ans, C', hc, hb, hq, hm⟩ := pk_i1 (ag_stepPrice hW (ci_r (xs := xs) (i := i + 1))) hI hC hB
  refine V_aload_n X dL_law_1727 rfl (q := 1) rfl ?_
  refine V_cell X hX (i := i) (j := 1) (q0 := 0) (q4 := 4) rfl (by omega) rfl rfl dL_law_1728 dL_law_1729 dL_law_1731 dL_law_1732 dL_law_1733 ?_
  refine V_aload_n X dL_law_1734 rfl (q := 3) rfl ?_
  refine V_callH (As := [.ref (a 0), iv (ci xs (i + 1)), .ref (b 14 0)]) (st := []) X hY (QH code ans C C') (c_L_stepPrice l (Q := (QH code ans C C')) hlt hq) (vx_cwSW 3 X.2.2.2.1 gL_law_L_stepPrice rfl rfl rfl (by decide +kernel) ⟨Nat.le_of_ble_eq_true rfl, Nat.le_of_ble_eq_true rfl⟩) rfl (Nat.le_of_ble_eq_true rfl) ⟨by omega, by omega⟩ rfl dL_law_1735 (fun r M1 hq1 => ?_)
  obtain ⟨er, hm1⟩ := hm M1 r hq1
  rw [er]
  refine V_istore (lv1 := lv6 a b b0 i code) X [1, 2, 3, 4, 5, 0] dL_law_1738 (by decide) rfl ?_
  refine V_aload_n X dL_law_1740 rfl (q := 2) rfl ?_
  refine V_cell X hX (i := i) (j := 1) (q0 := 0) (q4 := 4) rfl (by omega) rfl rfl dL_law_1741 dL_law_1742 dL_law_1744 dL_law_1745 dL_law_1746 ?_
  refine V_callV_i X (fun r3 M3 => (r3 = if code = 0 then ans else 0) ∧ StB C' M3 ∧ M3 13 23 0 = code ∧ (code = 0 → M3 14 0 0 = ans)) gO_13 rfl (As := [iv (ci xs (i + 1))]) (st := []) (c_X11_stepPrice l (Q := (fun r3 M3 => (r3 = if code = 0 then ans else 0) ∧ StB C' M3 ∧ M3 13 23 0 = code ∧ (code = 0 → M3 14 0 0 = ans))) (hm1 (fun r3 M3 => (r3 = if code = 0 then ans else 0) ∧ StB C' M3 ∧ M3 13 23 0 = code ∧ (code = 0 → M3 14 0 0 = ans)) (fun M3 S e1 e2 => ⟨rfl, S, e1, e2⟩))) (cwV 1 X.2.2.2.1 gL_law_X11_stepPrice rfl rfl rfl (by decide +kernel) ⟨Nat.le_of_ble_eq_true rfl, Nat.le_of_ble_eq_true rfl⟩) rfl (Nat.le_of_ble_eq_true rfl) ⟨by omega, by omega⟩ rfl dL_law_1747 (fun r3 M3 hw3 => ?_)
  obtain ⟨e3, S3, c3, o3⟩ := hw3
  rw [e3]
  exact V_widen (k1 := k + 8) (n1 := n + 60) (by omega) (by omega) (V_tailB X rfl hc (ite_r hb) c3 (fun z => by rw [if_pos z]; exact o3 z) dL_law_1750 dL_law_1752 dL_law_1753 dL_law_1756 dL_law_1758 dL_law_1763 dL_law_1765 dL_law_1768 dL_law_1769 dL_law_1770 dL_law_1771 dL_law_1773 dL_law_1774 dL_law_1775 dL_law_1780 (by decide) hk (K C' M3 S3))
set_option maxHeartbeats 1000000 in
set_option maxRecDepth 20000 in
theorem law_29 (X : vC p s m args meth c D g A RL wsL_law cL_law 9) (hY : YX s) (hlt : l.stackTraces = false) (hX : XS s A b0 L xs) (hi : i + 6 ≤ L) (hS : StB C M) (hk : k + 8 ≤ room_1.cells ∧ n + 60 ≤ room_1.slots) (K : ∀ (C' : Nat → Nat → Int) (M' : Mem), StB C' M' → vV p l e room_1 s m args below meth c D g A a b 9 (k + 8) (n + 60) Q M' (lv5 a b b0 i) 2145 []) : vV p l e room_1 s m args below meth c D g A a b 9 k n Q M (lv5 a b b0 i) 1783 [] := by
  obtain ⟨hW, hI, hC, hB⟩ := hS
  obtain ⟨code, ans, C', hc, hb, hq, hm⟩ := pk_i1 (ag_sizeAfter hW (ci_r (xs := xs) (i := i + 1))) hI hC hB
  refine V_aload_n X dL_law_1783 rfl (q := 1) rfl ?_
  refine V_cell X hX (i := i) (j := 1) (q0 := 0) (q4 := 4) rfl (by omega) rfl rfl dL_law_1784 dL_law_1785 dL_law_1787 dL_law_1788 dL_law_1789 ?_
  refine V_aload_n X dL_law_1790 rfl (q := 3) rfl ?_
  refine V_callH (As := [.ref (a 0), iv (ci xs (i + 1)), .ref (b 14 0)]) (st := []) X hY (QH code ans C C') (c_L_sizeAfter l (Q := (QH code ans C C')) hlt hq) (vx_cwSW 3 X.2.2.2.1 gL_law_L_sizeAfter rfl rfl rfl (by decide +kernel) ⟨Nat.le_of_ble_eq_true rfl, Nat.le_of_ble_eq_true rfl⟩) rfl (Nat.le_of_ble_eq_true rfl) ⟨by omega, by omega⟩ rfl dL_law_1791 (fun r M1 hq1 => ?_)
  obtain ⟨er, hm1⟩ := hm M1 r hq1
  rw [er]
  refine V_istore (lv1 := lv6 a b b0 i code) X [1, 2, 3, 4, 5, 0] dL_law_1794 (by decide) rfl ?_
  refine V_aload_n X dL_law_1796 rfl (q := 2) rfl ?_
  refine V_cell X hX (i := i) (j := 1) (q0 := 0) (q4 := 4) rfl (by omega) rfl rfl dL_law_1797 dL_law_1798 dL_law_1800 dL_law_1801 dL_law_1802 ?_
  refine V_callV_i X (fun r3 M3 => (r3 = if code = 0 then ans else 0) ∧ StB C' M3 ∧ M3 13 23 0 = code ∧ (code = 0 → M3 14 0 0 = ans)) gO_13 rfl (As := [iv (ci xs (i + 1))]) (st := []) (c_X11_sizeAfter l (Q := (fun r3 M3 => (r3 = if code = 0 then ans else 0) ∧ StB C' M3 ∧ M3 13 23 0 = code ∧ (code = 0 → M3 14 0 0 = ans))) (hm1 (fun r3 M3 => (r3 = if code = 0 then ans else 0) ∧ StB C' M3 ∧ M3 13 23 0 = code ∧ (code = 0 → M3 14 0 0 = ans)) (fun M3 S e1 e2 => ⟨rfl, S, e1, e2⟩))) (cwV 1 X.2.2.2.1 gL_law_X11_sizeAfter rfl rfl rfl (by decide +kernel) ⟨Nat.le_of_ble_eq_true rfl, Nat.le_of_ble_eq_true rfl⟩) rfl (Nat.le_of_ble_eq_true rfl) ⟨by omega, by omega⟩ rfl dL_law_1803 (fun r3 M3 hw3 => ?_)
  obtain ⟨e3, S3, c3, o3⟩ := hw3
  rw [e3]
  exact V_widen (k1 := k + 8) (n1 := n + 60) (by omega) (by omega) (V_tailB X rfl hc (ite_r hb) c3 (fun z => by rw [if_pos z]; exact o3 z) dL_law_1806 dL_law_1808 dL_law_1809 dL_law_1812 dL_law_1814 dL_law_1819 dL_law_1821 dL_law_1824 dL_law_1825 dL_law_1826 dL_law_1827 dL_law_1829 dL_law_1830 dL_law_1831 dL_law_1836 (by decide) hk (K C' M3 S3))
set_option maxHeartbeats 1000000 in
set_option maxRecDepth 20000 in
theorem law_30 (X : vC p s m args meth c D g A RL wsL_law cL_law 9) (hY : YX s) (hlt : l.stackTraces = false) (hX : XS s A b0 L xs) (hi : i + 6 ≤ L) (hS : StB C M) (hk : k + 8 ≤ room_1.cells ∧ n + 60 ≤ room_1.slots) (K : ∀ (C' : Nat → Nat → Int) (M' : Mem), StB C' M' → vV p l e room_1 s m args below meth c D g A a b 9 (k + 8) (n + 60) Q M' (lv5 a b b0 i) 2145 []) : vV p l e room_1 s m args below meth c D g A a b 9 k n Q M (lv5 a b b0 i) 1839 [] := by
  obtain ⟨hW, hI, hC, hB⟩ := hS
  obtain ⟨code, ans, C', hc, hb, hq, hm⟩ := pk_i1 (ag_labelAfter hW (ci_r (xs := xs) (i := i + 1)) (ci_r (xs := xs) (i := i + 2))) hI hC hB
  refine V_aload_n X dL_law_1839 rfl (q := 1) rfl ?_
  refine V_cell X hX (i := i) (j := 1) (q0 := 0) (q4 := 4) rfl (by omega) rfl rfl dL_law_1840 dL_law_1841 dL_law_1843 dL_law_1844 dL_law_1845 ?_
  refine V_cell X hX (i := i) (j := 2) (q0 := 0) (q4 := 4) rfl (by omega) rfl rfl dL_law_1846 dL_law_1847 dL_law_1849 dL_law_1850 dL_law_1851 ?_
  refine V_aload_n X dL_law_1852 rfl (q := 3) rfl ?_
  refine V_callH (As := [.ref (a 0), iv (ci xs (i + 1)), iv (ci xs (i + 2)), .ref (b 14 0)]) (st := []) X hY (QH code ans C C') (c_L_labelAfter l (Q := (QH code ans C C')) hlt hq) (vx_cwSW 4 X.2.2.2.1 gL_law_L_labelAfter rfl rfl rfl (by decide +kernel) ⟨Nat.le_of_ble_eq_true rfl, Nat.le_of_ble_eq_true rfl⟩) rfl (Nat.le_of_ble_eq_true rfl) ⟨by omega, by omega⟩ rfl dL_law_1853 (fun r M1 hq1 => ?_)
  obtain ⟨er, hm1⟩ := hm M1 r hq1
  rw [er]
  refine V_istore (lv1 := lv6 a b b0 i code) X [1, 2, 3, 4, 5, 0] dL_law_1856 (by decide) rfl ?_
  refine V_aload_n X dL_law_1858 rfl (q := 2) rfl ?_
  refine V_cell X hX (i := i) (j := 1) (q0 := 0) (q4 := 4) rfl (by omega) rfl rfl dL_law_1859 dL_law_1860 dL_law_1862 dL_law_1863 dL_law_1864 ?_
  refine V_cell X hX (i := i) (j := 2) (q0 := 0) (q4 := 4) rfl (by omega) rfl rfl dL_law_1865 dL_law_1866 dL_law_1868 dL_law_1869 dL_law_1870 ?_
  refine V_callV_i X (fun r3 M3 => (r3 = if code = 0 then ans else 0) ∧ StB C' M3 ∧ M3 13 23 0 = code ∧ (code = 0 → M3 14 0 0 = ans)) gO_13 rfl (As := [iv (ci xs (i + 1)), iv (ci xs (i + 2))]) (st := []) (c_X11_labelAfter l (Q := (fun r3 M3 => (r3 = if code = 0 then ans else 0) ∧ StB C' M3 ∧ M3 13 23 0 = code ∧ (code = 0 → M3 14 0 0 = ans))) (hm1 (fun r3 M3 => (r3 = if code = 0 then ans else 0) ∧ StB C' M3 ∧ M3 13 23 0 = code ∧ (code = 0 → M3 14 0 0 = ans)) (fun M3 S e1 e2 => ⟨rfl, S, e1, e2⟩))) (cwV 2 X.2.2.2.1 gL_law_X11_labelAfter rfl rfl rfl (by decide +kernel) ⟨Nat.le_of_ble_eq_true rfl, Nat.le_of_ble_eq_true rfl⟩) rfl (Nat.le_of_ble_eq_true rfl) ⟨by omega, by omega⟩ rfl dL_law_1871 (fun r3 M3 hw3 => ?_)
  obtain ⟨e3, S3, c3, o3⟩ := hw3
  rw [e3]
  exact V_widen (k1 := k + 8) (n1 := n + 60) (by omega) (by omega) (V_tailB X rfl hc (ite_r hb) c3 (fun z => by rw [if_pos z]; exact o3 z) dL_law_1874 dL_law_1876 dL_law_1877 dL_law_1880 dL_law_1882 dL_law_1887 dL_law_1889 dL_law_1892 dL_law_1893 dL_law_1894 dL_law_1895 dL_law_1897 dL_law_1898 dL_law_1899 dL_law_1904 (by decide) hk (K C' M3 S3))
set_option maxHeartbeats 1000000 in
set_option maxRecDepth 20000 in
theorem law_31 (X : vC p s m args meth c D g A RL wsL_law cL_law 9) (hY : YX s) (hlt : l.stackTraces = false) (hX : XS s A b0 L xs) (hi : i + 6 ≤ L) (hS : StB C M) (hk : k + 8 ≤ room_1.cells ∧ n + 60 ≤ room_1.slots) (K : ∀ (C' : Nat → Nat → Int) (M' : Mem), StB C' M' → vV p l e room_1 s m args below meth c D g A a b 9 (k + 8) (n + 60) Q M' (lv5 a b b0 i) 2145 []) : vV p l e room_1 s m args below meth c D g A a b 9 k n Q M (lv5 a b b0 i) 1907 [] := by
  obtain ⟨hW, hI, hC, hB⟩ := hS
  obtain ⟨code, ans, C', hc, hb, hq, hm⟩ := pk_i1 (ag_depthAfter hW (ci_r (xs := xs) (i := i + 1)) (ci_r (xs := xs) (i := i + 2))) hI hC hB
  refine V_aload_n X dL_law_1907 rfl (q := 1) rfl ?_
  refine V_cell X hX (i := i) (j := 1) (q0 := 0) (q4 := 4) rfl (by omega) rfl rfl dL_law_1908 dL_law_1909 dL_law_1911 dL_law_1912 dL_law_1913 ?_
  refine V_cell X hX (i := i) (j := 2) (q0 := 0) (q4 := 4) rfl (by omega) rfl rfl dL_law_1914 dL_law_1915 dL_law_1917 dL_law_1918 dL_law_1919 ?_
  refine V_aload_n X dL_law_1920 rfl (q := 3) rfl ?_
  refine V_callH (As := [.ref (a 0), iv (ci xs (i + 1)), iv (ci xs (i + 2)), .ref (b 14 0)]) (st := []) X hY (QH code ans C C') (c_L_depthAfter l (Q := (QH code ans C C')) hlt hq) (vx_cwSW 4 X.2.2.2.1 gL_law_L_depthAfter rfl rfl rfl (by decide +kernel) ⟨Nat.le_of_ble_eq_true rfl, Nat.le_of_ble_eq_true rfl⟩) rfl (Nat.le_of_ble_eq_true rfl) ⟨by omega, by omega⟩ rfl dL_law_1921 (fun r M1 hq1 => ?_)
  obtain ⟨er, hm1⟩ := hm M1 r hq1
  rw [er]
  refine V_istore (lv1 := lv6 a b b0 i code) X [1, 2, 3, 4, 5, 0] dL_law_1924 (by decide) rfl ?_
  refine V_aload_n X dL_law_1926 rfl (q := 2) rfl ?_
  refine V_cell X hX (i := i) (j := 1) (q0 := 0) (q4 := 4) rfl (by omega) rfl rfl dL_law_1927 dL_law_1928 dL_law_1930 dL_law_1931 dL_law_1932 ?_
  refine V_cell X hX (i := i) (j := 2) (q0 := 0) (q4 := 4) rfl (by omega) rfl rfl dL_law_1933 dL_law_1934 dL_law_1936 dL_law_1937 dL_law_1938 ?_
  refine V_callV_i X (fun r3 M3 => (r3 = if code = 0 then ans else 0) ∧ StB C' M3 ∧ M3 13 23 0 = code ∧ (code = 0 → M3 14 0 0 = ans)) gO_13 rfl (As := [iv (ci xs (i + 1)), iv (ci xs (i + 2))]) (st := []) (c_X11_depthAfter l (Q := (fun r3 M3 => (r3 = if code = 0 then ans else 0) ∧ StB C' M3 ∧ M3 13 23 0 = code ∧ (code = 0 → M3 14 0 0 = ans))) (hm1 (fun r3 M3 => (r3 = if code = 0 then ans else 0) ∧ StB C' M3 ∧ M3 13 23 0 = code ∧ (code = 0 → M3 14 0 0 = ans)) (fun M3 S e1 e2 => ⟨rfl, S, e1, e2⟩))) (cwV 2 X.2.2.2.1 gL_law_X11_depthAfter rfl rfl rfl (by decide +kernel) ⟨Nat.le_of_ble_eq_true rfl, Nat.le_of_ble_eq_true rfl⟩) rfl (Nat.le_of_ble_eq_true rfl) ⟨by omega, by omega⟩ rfl dL_law_1939 (fun r3 M3 hw3 => ?_)
  obtain ⟨e3, S3, c3, o3⟩ := hw3
  rw [e3]
  exact V_widen (k1 := k + 8) (n1 := n + 60) (by omega) (by omega) (V_tailB X rfl hc (ite_r hb) c3 (fun z => by rw [if_pos z]; exact o3 z) dL_law_1942 dL_law_1944 dL_law_1945 dL_law_1948 dL_law_1950 dL_law_1955 dL_law_1957 dL_law_1960 dL_law_1961 dL_law_1962 dL_law_1963 dL_law_1965 dL_law_1966 dL_law_1967 dL_law_1972 (by decide) hk (K C' M3 S3))
set_option maxHeartbeats 1000000 in
set_option maxRecDepth 20000 in
theorem law_32 (X : vC p s m args meth c D g A RL wsL_law cL_law 9) (hY : YX s) (hlt : l.stackTraces = false) (hX : XS s A b0 L xs) (hi : i + 6 ≤ L) (hS : StB C M) (hk : k + 8 ≤ room_1.cells ∧ n + 60 ≤ room_1.slots) (K : ∀ (C' : Nat → Nat → Int) (M' : Mem), StB C' M' → vV p l e room_1 s m args below meth c D g A a b 9 (k + 8) (n + 60) Q M' (lv5 a b b0 i) 2145 []) : vV p l e room_1 s m args below meth c D g A a b 9 k n Q M (lv5 a b b0 i) 1975 [] := by
  obtain ⟨hW, hI, hC, hB⟩ := hS
  obtain ⟨code, ans, C', hc, hb, hq, hm⟩ := pk_z1 (ag_areEqual hW (ci_r (xs := xs) (i := i + 1)) (ci_r (xs := xs) (i := i + 2))) hI hC hB
  refine V_aload_n X dL_law_1975 rfl (q := 1) rfl ?_
  refine V_cell X hX (i := i) (j := 1) (q0 := 0) (q4 := 4) rfl (by omega) rfl rfl dL_law_1976 dL_law_1977 dL_law_1979 dL_law_1980 dL_law_1981 ?_
  refine V_cell X hX (i := i) (j := 2) (q0 := 0) (q4 := 4) rfl (by omega) rfl rfl dL_law_1982 dL_law_1983 dL_law_1985 dL_law_1986 dL_law_1987 ?_
  refine V_aload_n X dL_law_1988 rfl (q := 3) rfl ?_
  refine V_callH (As := [.ref (a 0), iv (ci xs (i + 1)), iv (ci xs (i + 2)), .ref (b 14 0)]) (st := []) X hY (QH code ans C C') (c_L_areEqual l (Q := (QH code ans C C')) hlt hq) (vx_cwSW 4 X.2.2.2.1 gL_law_L_areEqual rfl rfl rfl (by decide +kernel) ⟨Nat.le_of_ble_eq_true rfl, Nat.le_of_ble_eq_true rfl⟩) rfl (Nat.le_of_ble_eq_true rfl) ⟨by omega, by omega⟩ rfl dL_law_1989 (fun r M1 hq1 => ?_)
  obtain ⟨er, hm1⟩ := hm M1 r hq1
  rw [er]
  refine V_istore (lv1 := lv6 a b b0 i code) X [1, 2, 3, 4, 5, 0] dL_law_1992 (by decide) rfl ?_
  refine V_aload_n X dL_law_1994 rfl (q := 2) rfl ?_
  refine V_cell X hX (i := i) (j := 1) (q0 := 0) (q4 := 4) rfl (by omega) rfl rfl dL_law_1995 dL_law_1996 dL_law_1998 dL_law_1999 dL_law_2000 ?_
  refine V_cell X hX (i := i) (j := 2) (q0 := 0) (q4 := 4) rfl (by omega) rfl rfl dL_law_2001 dL_law_2002 dL_law_2004 dL_law_2005 dL_law_2006 ?_
  refine V_callV_i X (fun r3 M3 => (r3 = if code = 0 then ans else 0) ∧ StB C' M3 ∧ M3 13 23 0 = code ∧ (code = 0 → M3 14 0 0 = ans)) gO_13 rfl (As := [iv (ci xs (i + 1)), iv (ci xs (i + 2))]) (st := []) (c_X11_areEqual l (Q := (fun r3 M3 => (r3 = if code = 0 then ans else 0) ∧ StB C' M3 ∧ M3 13 23 0 = code ∧ (code = 0 → M3 14 0 0 = ans))) (hm1 (fun r3 M3 => (r3 = if code = 0 then ans else 0) ∧ StB C' M3 ∧ M3 13 23 0 = code ∧ (code = 0 → M3 14 0 0 = ans)) (fun M3 S e1 e2 => ⟨rfl, S, e1, e2⟩))) (cwV 2 X.2.2.2.1 gL_law_X11_areEqual rfl rfl rfl (by decide +kernel) ⟨Nat.le_of_ble_eq_true rfl, Nat.le_of_ble_eq_true rfl⟩) rfl (Nat.le_of_ble_eq_true rfl) ⟨by omega, by omega⟩ rfl dL_law_2007 (fun r3 M3 hw3 => ?_)
  obtain ⟨e3, S3, c3, o3⟩ := hw3
  rw [e3]
  exact V_widen (k1 := k + 8) (n1 := n + 60) (by omega) (by omega) (V_tailZ X rfl hc (ite_z hb) c3 (fun z => by rw [if_pos z]; exact o3 z) dL_law_2010 dL_law_2012 dL_law_2013 dL_law_2016 dL_law_2018 dL_law_2023 dL_law_2025 dL_law_2028 dL_law_2029 dL_law_2030 dL_law_2031 dL_law_2033 dL_law_2036 dL_law_2037 dL_law_2040 dL_law_2041 dL_law_2042 dL_law_2047 (by decide) hk (K C' M3 S3))
set_option maxHeartbeats 1000000 in
set_option maxRecDepth 20000 in
theorem law_33 (X : vC p s m args meth c D g A RL wsL_law cL_law 9) (hY : YX s) (hlt : l.stackTraces = false) (hX : XS s A b0 L xs) (hi : i + 6 ≤ L) (hS : StB C M) (hk : k + 8 ≤ room_1.cells ∧ n + 60 ≤ room_1.slots) (K : ∀ (C' : Nat → Nat → Int) (M' : Mem), StB C' M' → vV p l e room_1 s m args below meth c D g A a b 9 (k + 8) (n + 60) Q M' (lv5 a b b0 i) 2145 []) : vV p l e room_1 s m args below meth c D g A a b 9 k n Q M (lv5 a b b0 i) 2050 [] := by
  obtain ⟨hW, hI, hC, hB⟩ := hS
  obtain ⟨ans, C', ir, hq, hm⟩ := pk_d0 (ag_differentSubtrees hW) hI hC hB
  refine V_aload_n X dL_law_2050 rfl (q := 1) rfl ?_
  refine V_callV_i X (fun r M1 => r = ans ∧ HPq C C' M1) gO_0 rfl (As := []) (st := []) (c_X10_differentSubtrees l (Q := (fun r M1 => r = ans ∧ HPq C C' M1)) hq) (cwV 0 X.2.2.2.1 gL_law_X10_differentSubtrees rfl rfl rfl (by decide +kernel) ⟨Nat.le_of_ble_eq_true rfl, Nat.le_of_ble_eq_true rfl⟩) rfl (Nat.le_of_ble_eq_true rfl) ⟨by omega, by omega⟩ rfl dL_law_2051 (fun r M1 hw => ?_)
  obtain ⟨e1, hw1⟩ := hw
  rw [e1]
  refine V_aload_n X dL_law_2054 rfl (q := 2) rfl ?_
  refine V_callV_i X (fun r M3 => r = ans ∧ StB C' M3) gO_13 rfl (As := []) (st := [iv ans]) (c_X11_differentSubtrees l (Q := (fun r M3 => r = ans ∧ StB C' M3)) (hm M1 hw1)) (cwV 0 X.2.2.2.1 gL_law_X11_differentSubtrees rfl rfl rfl (by decide +kernel) ⟨Nat.le_of_ble_eq_true rfl, Nat.le_of_ble_eq_true rfl⟩) rfl (Nat.le_of_ble_eq_true rfl) ⟨by omega, by omega⟩ rfl dL_law_2055 (fun r3 M3 hw3 => ?_)
  obtain ⟨e3, S3⟩ := hw3
  rw [e3]
  exact V_widen (k1 := k + 8) (n1 := n + 60) (by omega) (by omega) (V_icmp_eq (tgt := 2145) X ir ir dL_law_2058 (by decide) (fun _ => K C' M3 S3) (fun z => absurd rfl z))
set_option maxHeartbeats 1000000 in
set_option maxRecDepth 20000 in
theorem law_34 (X : vC p s m args meth c D g A RL wsL_law cL_law 9) (hY : YX s) (hlt : l.stackTraces = false) (hX : XS s A b0 L xs) (hi : i + 6 ≤ L) (hS : StB C M) (hk : k + 8 ≤ room_1.cells ∧ n + 60 ≤ room_1.slots) (K : ∀ (C' : Nat → Nat → Int) (M' : Mem), StB C' M' → vV p l e room_1 s m args below meth c D g A a b 9 (k + 8) (n + 60) Q M' (lv5 a b b0 i) 2145 []) : vV p l e room_1 s m args below meth c D g A a b 9 k n Q M (lv5 a b b0 i) 2063 [] := by
  obtain ⟨hW, hI, hC, hB⟩ := hS
  obtain ⟨ans, C', ir, hq, hm⟩ := pk_d0 (ag_moves hW) hI hC hB
  refine V_aload_n X dL_law_2063 rfl (q := 1) rfl ?_
  refine V_callV_i X (fun r M1 => r = ans ∧ HPq C C' M1) gO_0 rfl (As := []) (st := []) (c_X10_moves l (Q := (fun r M1 => r = ans ∧ HPq C C' M1)) hq) (cwV 0 X.2.2.2.1 gL_law_X10_moves rfl rfl rfl (by decide +kernel) ⟨Nat.le_of_ble_eq_true rfl, Nat.le_of_ble_eq_true rfl⟩) rfl (Nat.le_of_ble_eq_true rfl) ⟨by omega, by omega⟩ rfl dL_law_2064 (fun r M1 hw => ?_)
  obtain ⟨e1, hw1⟩ := hw
  rw [e1]
  refine V_aload_n X dL_law_2067 rfl (q := 2) rfl ?_
  refine V_callV_i X (fun r M3 => r = ans ∧ StB C' M3) gO_13 rfl (As := []) (st := [iv ans]) (c_X11_moves l (Q := (fun r M3 => r = ans ∧ StB C' M3)) (hm M1 hw1)) (cwV 0 X.2.2.2.1 gL_law_X11_moves rfl rfl rfl (by decide +kernel) ⟨Nat.le_of_ble_eq_true rfl, Nat.le_of_ble_eq_true rfl⟩) rfl (Nat.le_of_ble_eq_true rfl) ⟨by omega, by omega⟩ rfl dL_law_2068 (fun r3 M3 hw3 => ?_)
  obtain ⟨e3, S3⟩ := hw3
  rw [e3]
  exact V_widen (k1 := k + 8) (n1 := n + 60) (by omega) (by omega) (V_icmp_eq (tgt := 2145) X ir ir dL_law_2071 (by decide) (fun _ => K C' M3 S3) (fun z => absurd rfl z))
set_option maxHeartbeats 1000000 in
set_option maxRecDepth 20000 in
theorem law_35 (X : vC p s m args meth c D g A RL wsL_law cL_law 9) (hY : YX s) (hlt : l.stackTraces = false) (hX : XS s A b0 L xs) (hi : i + 6 ≤ L) (hS : StB C M) (hk : k + 8 ≤ room_1.cells ∧ n + 60 ≤ room_1.slots) (K : ∀ (C' : Nat → Nat → Int) (M' : Mem), StB C' M' → vV p l e room_1 s m args below meth c D g A a b 9 (k + 8) (n + 60) Q M' (lv5 a b b0 i) 2145 []) : vV p l e room_1 s m args below meth c D g A a b 9 k n Q M (lv5 a b b0 i) 2076 [] := by
  obtain ⟨hW, hI, hC, hB⟩ := hS
  obtain ⟨code, ans, C', hc, hb, hq, hm⟩ := pk_i1 (ag_movesTo hW (ci_r (xs := xs) (i := i + 1))) hI hC hB
  refine V_aload_n X dL_law_2076 rfl (q := 1) rfl ?_
  refine V_cell X hX (i := i) (j := 1) (q0 := 0) (q4 := 4) rfl (by omega) rfl rfl dL_law_2077 dL_law_2078 dL_law_2080 dL_law_2081 dL_law_2082 ?_
  refine V_aload_n X dL_law_2083 rfl (q := 3) rfl ?_
  refine V_callH (As := [.ref (a 0), iv (ci xs (i + 1)), .ref (b 14 0)]) (st := []) X hY (QH code ans C C') (c_L_movesTo l (Q := (QH code ans C C')) hlt hq) (vx_cwSW 3 X.2.2.2.1 gL_law_L_movesTo rfl rfl rfl (by decide +kernel) ⟨Nat.le_of_ble_eq_true rfl, Nat.le_of_ble_eq_true rfl⟩) rfl (Nat.le_of_ble_eq_true rfl) ⟨by omega, by omega⟩ rfl dL_law_2084 (fun r M1 hq1 => ?_)
  obtain ⟨er, hm1⟩ := hm M1 r hq1
  rw [er]
  refine V_istore (lv1 := lv6 a b b0 i code) X [1, 2, 3, 4, 5, 0] dL_law_2087 (by decide) rfl ?_
  refine V_aload_n X dL_law_2089 rfl (q := 2) rfl ?_
  refine V_cell X hX (i := i) (j := 1) (q0 := 0) (q4 := 4) rfl (by omega) rfl rfl dL_law_2090 dL_law_2091 dL_law_2093 dL_law_2094 dL_law_2095 ?_
  refine V_callV_i X (fun r3 M3 => (r3 = if code = 0 then ans else 0) ∧ StB C' M3 ∧ M3 13 23 0 = code ∧ (code = 0 → M3 14 0 0 = ans)) gO_13 rfl (As := [iv (ci xs (i + 1))]) (st := []) (c_X11_movesTo l (Q := (fun r3 M3 => (r3 = if code = 0 then ans else 0) ∧ StB C' M3 ∧ M3 13 23 0 = code ∧ (code = 0 → M3 14 0 0 = ans))) (hm1 (fun r3 M3 => (r3 = if code = 0 then ans else 0) ∧ StB C' M3 ∧ M3 13 23 0 = code ∧ (code = 0 → M3 14 0 0 = ans)) (fun M3 S e1 e2 => ⟨rfl, S, e1, e2⟩))) (cwV 1 X.2.2.2.1 gL_law_X11_movesTo rfl rfl rfl (by decide +kernel) ⟨Nat.le_of_ble_eq_true rfl, Nat.le_of_ble_eq_true rfl⟩) rfl (Nat.le_of_ble_eq_true rfl) ⟨by omega, by omega⟩ rfl dL_law_2096 (fun r3 M3 hw3 => ?_)
  obtain ⟨e3, S3, c3, o3⟩ := hw3
  rw [e3]
  exact V_widen (k1 := k + 8) (n1 := n + 60) (by omega) (by omega) (V_tailB X rfl hc (ite_r hb) c3 (fun z => by rw [if_pos z]; exact o3 z) dL_law_2099 dL_law_2101 dL_law_2102 dL_law_2105 dL_law_2107 dL_law_2112 dL_law_2114 dL_law_2117 dL_law_2118 dL_law_2119 dL_law_2120 dL_law_2122 dL_law_2123 dL_law_2124 dL_law_2129 (by decide) hk (K C' M3 S3))
set_option maxHeartbeats 1000000 in
set_option maxRecDepth 20000 in
theorem law_36 (X : vC p s m args meth c D g A RL wsL_law cL_law 9) (hY : YX s) (hlt : l.stackTraces = false) (hX : XS s A b0 L xs) (hi : i + 6 ≤ L) (hS : StB C M) (hk : k + 8 ≤ room_1.cells ∧ n + 60 ≤ room_1.slots) (K : ∀ (C' : Nat → Nat → Int) (M' : Mem), StB C' M' → vV p l e room_1 s m args below meth c D g A a b 9 (k + 8) (n + 60) Q M' (lv5 a b b0 i) 2145 []) : vV p l e room_1 s m args below meth c D g A a b 9 k n Q M (lv5 a b b0 i) 2132 [] := by
  obtain ⟨hW, hI, hC, hB⟩ := hS
  obtain ⟨ans, C', ir, hq, hm⟩ := pk_d0 (ag_distanceWithMoves hW) hI hC hB
  refine V_aload_n X dL_law_2132 rfl (q := 1) rfl ?_
  refine V_callV_i X (fun r M1 => r = ans ∧ HPq C C' M1) gO_0 rfl (As := []) (st := []) (c_X10_distanceWithMoves l (Q := (fun r M1 => r = ans ∧ HPq C C' M1)) hq) (cwV 0 X.2.2.2.1 gL_law_X10_distanceWithMoves rfl rfl rfl (by decide +kernel) ⟨Nat.le_of_ble_eq_true rfl, Nat.le_of_ble_eq_true rfl⟩) rfl (Nat.le_of_ble_eq_true rfl) ⟨by omega, by omega⟩ rfl dL_law_2133 (fun r M1 hw => ?_)
  obtain ⟨e1, hw1⟩ := hw
  rw [e1]
  refine V_aload_n X dL_law_2136 rfl (q := 2) rfl ?_
  refine V_callV_i X (fun r M3 => r = ans ∧ StB C' M3) gO_13 rfl (As := []) (st := [iv ans]) (c_X11_distanceWithMoves l (Q := (fun r M3 => r = ans ∧ StB C' M3)) (hm M1 hw1)) (cwV 0 X.2.2.2.1 gL_law_X11_distanceWithMoves rfl rfl rfl (by decide +kernel) ⟨Nat.le_of_ble_eq_true rfl, Nat.le_of_ble_eq_true rfl⟩) rfl (Nat.le_of_ble_eq_true rfl) ⟨by omega, by omega⟩ rfl dL_law_2137 (fun r3 M3 hw3 => ?_)
  obtain ⟨e3, S3⟩ := hw3
  rw [e3]
  exact V_widen (k1 := k + 8) (n1 := n + 60) (by omega) (by omega) (V_icmp_eq (tgt := 2145) X ir ir dL_law_2140 (by decide) (fun _ => K C' M3 S3) (fun z => absurd rfl z))
end CASES
