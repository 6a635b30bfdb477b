/-! the law's cases (3) -/
section CASES
variable {p : Program} {l : Launch} {e : Env} {s : State} {m : MethodId} {args : Array Value} {below : List Frame} {meth : Method} {c : Code} {D : va_G} {g : GT} {A : Nat → Prop} {a : Nat → Nat} {b : Nat → Nat → Nat} {k n : Nat} {Q : State → Prop} {M : Mem} {b0 L : Nat} {xs : Nat → Int32} {C : Nat → Nat → Int} {i : Nat}
set_option maxHeartbeats 1000000 in
set_option maxRecDepth 20000 in
theorem law_14 (X : vC p s m args meth c D g A RL wsL_law cL_law 9) (hY : YX s) (hlt : l.stackTraces = false) (hX : XS s A b0 L xs) (hi : i + 6 ≤ L) (hS : StB C M) (hk : k + 8 ≤ room_1.cells ∧ n + 60 ≤ room_1.slots) (K : ∀ (C' : Nat → Nat → Int) (M' : Mem), StB C' M' → vV p l e room_1 s m args below meth c D g A a b 9 (k + 8) (n + 60) Q M' (lv5 a b b0 i) 2145 []) : vV p l e room_1 s m args below meth c D g A a b 9 k n Q M (lv5 a b b0 i) 1099 [] := by
  obtain ⟨hW, hI, hC, hB⟩ := hS
  obtain ⟨code, ans, C', hc, hb, hq, hm⟩ := pk_i1 (ag_inPostorder hW (ci_r (xs := xs) (i := i + 1)) (ci_r (xs := xs) (i := i + 2))) hI hC hB
  refine V_aload_n X dL_law_1099 rfl (q := 1) rfl ?_
  refine V_cell X hX (i := i) (j := 1) (q0 := 0) (q4 := 4) rfl (by omega) rfl rfl dL_law_1100 dL_law_1101 dL_law_1103 dL_law_1104 dL_law_1105 ?_
  refine V_cell X hX (i := i) (j := 2) (q0 := 0) (q4 := 4) rfl (by omega) rfl rfl dL_law_1106 dL_law_1107 dL_law_1109 dL_law_1110 dL_law_1111 ?_
  refine V_aload_n X dL_law_1112 rfl (q := 3) rfl ?_
  refine V_callH (As := [.ref (a 0), iv (ci xs (i + 1)), iv (ci xs (i + 2)), .ref (b 14 0)]) (st := []) X hY (QH code ans C C') (c_L_inPostorder l (Q := (QH code ans C C')) hlt hq) (vx_cwSW 4 X.2.2.2.1 gL_law_L_inPostorder rfl rfl rfl (by decide +kernel) ⟨Nat.le_of_ble_eq_true rfl, Nat.le_of_ble_eq_true rfl⟩) rfl (Nat.le_of_ble_eq_true rfl) ⟨by omega, by omega⟩ rfl dL_law_1113 (fun r M1 hq1 => ?_)
  obtain ⟨er, hm1⟩ := hm M1 r hq1
  rw [er]
  refine V_istore (lv1 := lv6 a b b0 i code) X [1, 2, 3, 4, 5, 0] dL_law_1116 (by decide) rfl ?_
  refine V_aload_n X dL_law_1118 rfl (q := 2) rfl ?_
  refine V_cell X hX (i := i) (j := 1) (q0 := 0) (q4 := 4) rfl (by omega) rfl rfl dL_law_1119 dL_law_1120 dL_law_1122 dL_law_1123 dL_law_1124 ?_
  refine V_cell X hX (i := i) (j := 2) (q0 := 0) (q4 := 4) rfl (by omega) rfl rfl dL_law_1125 dL_law_1126 dL_law_1128 dL_law_1129 dL_law_1130 ?_
  refine V_callV_i X (fun r3 M3 => (r3 = if code = 0 then ans else 0) ∧ StB C' M3 ∧ M3 13 23 0 = code ∧ (code = 0 → M3 14 0 0 = ans)) gO_13 rfl (As := [iv (ci xs (i + 1)), iv (ci xs (i + 2))]) (st := []) (c_X11_inPostorder l (Q := (fun r3 M3 => (r3 = if code = 0 then ans else 0) ∧ StB C' M3 ∧ M3 13 23 0 = code ∧ (code = 0 → M3 14 0 0 = ans))) (hm1 (fun r3 M3 => (r3 = if code = 0 then ans else 0) ∧ StB C' M3 ∧ M3 13 23 0 = code ∧ (code = 0 → M3 14 0 0 = ans)) (fun M3 S e1 e2 => ⟨rfl, S, e1, e2⟩))) (cwV 2 X.2.2.2.1 gL_law_X11_inPostorder rfl rfl rfl (by decide +kernel) ⟨Nat.le_of_ble_eq_true rfl, Nat.le_of_ble_eq_true rfl⟩) rfl (Nat.le_of_ble_eq_true rfl) ⟨by omega, by omega⟩ rfl dL_law_1131 (fun r3 M3 hw3 => ?_)
  obtain ⟨e3, S3, c3, o3⟩ := hw3
  rw [e3]
  exact V_widen (k1 := k + 8) (n1 := n + 60) (by omega) (by omega) (V_tailB X rfl hc (ite_r hb) c3 (fun z => by rw [if_pos z]; exact o3 z) dL_law_1134 dL_law_1136 dL_law_1137 dL_law_1140 dL_law_1142 dL_law_1147 dL_law_1149 dL_law_1152 dL_law_1153 dL_law_1154 dL_law_1155 dL_law_1157 dL_law_1158 dL_law_1159 dL_law_1164 (by decide) hk (K C' M3 S3))
set_option maxHeartbeats 1000000 in
set_option maxRecDepth 20000 in
theorem law_15 (X : vC p s m args meth c D g A RL wsL_law cL_law 9) (hY : YX s) (hlt : l.stackTraces = false) (hX : XS s A b0 L xs) (hi : i + 6 ≤ L) (hS : StB C M) (hk : k + 8 ≤ room_1.cells ∧ n + 60 ≤ room_1.slots) (K : ∀ (C' : Nat → Nat → Int) (M' : Mem), StB C' M' → vV p l e room_1 s m args below meth c D g A a b 9 (k + 8) (n + 60) Q M' (lv5 a b b0 i) 2145 []) : vV p l e room_1 s m args below meth c D g A a b 9 k n Q M (lv5 a b b0 i) 1167 [] := by
  obtain ⟨hW, hI, hC, hB⟩ := hS
  obtain ⟨code, ans, C', hc, hb, hq, hm⟩ := pk_i1 (ag_subtreeSize hW (ci_r (xs := xs) (i := i + 1)) (ci_r (xs := xs) (i := i + 2))) hI hC hB
  refine V_aload_n X dL_law_1167 rfl (q := 1) rfl ?_
  refine V_cell X hX (i := i) (j := 1) (q0 := 0) (q4 := 4) rfl (by omega) rfl rfl dL_law_1168 dL_law_1169 dL_law_1171 dL_law_1172 dL_law_1173 ?_
  refine V_cell X hX (i := i) (j := 2) (q0 := 0) (q4 := 4) rfl (by omega) rfl rfl dL_law_1174 dL_law_1175 dL_law_1177 dL_law_1178 dL_law_1179 ?_
  refine V_aload_n X dL_law_1180 rfl (q := 3) rfl ?_
  refine V_callH (As := [.ref (a 0), iv (ci xs (i + 1)), iv (ci xs (i + 2)), .ref (b 14 0)]) (st := []) X hY (QH code ans C C') (c_L_subtreeSize l (Q := (QH code ans C C')) hlt hq) (vx_cwSW 4 X.2.2.2.1 gL_law_L_subtreeSize rfl rfl rfl (by decide +kernel) ⟨Nat.le_of_ble_eq_true rfl, Nat.le_of_ble_eq_true rfl⟩) rfl (Nat.le_of_ble_eq_true rfl) ⟨by omega, by omega⟩ rfl dL_law_1181 (fun r M1 hq1 => ?_)
  obtain ⟨er, hm1⟩ := hm M1 r hq1
  rw [er]
  refine V_istore (lv1 := lv6 a b b0 i code) X [1, 2, 3, 4, 5, 0] dL_law_1184 (by decide) rfl ?_
  refine V_aload_n X dL_law_1186 rfl (q := 2) rfl ?_
  refine V_cell X hX (i := i) (j := 1) (q0 := 0) (q4 := 4) rfl (by omega) rfl rfl dL_law_1187 dL_law_1188 dL_law_1190 dL_law_1191 dL_law_1192 ?_
  refine V_cell X hX (i := i) (j := 2) (q0 := 0) (q4 := 4) rfl (by omega) rfl rfl dL_law_1193 dL_law_1194 dL_law_1196 dL_law_1197 dL_law_1198 ?_
  refine V_callV_i X (fun r3 M3 => (r3 = if code = 0 then ans else 0) ∧ StB C' M3 ∧ M3 13 23 0 = code ∧ (code = 0 → M3 14 0 0 = ans)) gO_13 rfl (As := [iv (ci xs (i + 1)), iv (ci xs (i + 2))]) (st := []) (c_X11_subtreeSize l (Q := (fun r3 M3 => (r3 = if code = 0 then ans else 0) ∧ StB C' M3 ∧ M3 13 23 0 = code ∧ (code = 0 → M3 14 0 0 = ans))) (hm1 (fun r3 M3 => (r3 = if code = 0 then ans else 0) ∧ StB C' M3 ∧ M3 13 23 0 = code ∧ (code = 0 → M3 14 0 0 = ans)) (fun M3 S e1 e2 => ⟨rfl, S, e1, e2⟩))) (cwV 2 X.2.2.2.1 gL_law_X11_subtreeSize rfl rfl rfl (by decide +kernel) ⟨Nat.le_of_ble_eq_true rfl, Nat.le_of_ble_eq_true rfl⟩) rfl (Nat.le_of_ble_eq_true rfl) ⟨by omega, by omega⟩ rfl dL_law_1199 (fun r3 M3 hw3 => ?_)
  obtain ⟨e3, S3, c3, o3⟩ := hw3
  rw [e3]
  exact V_widen (k1 := k + 8) (n1 := n + 60) (by omega) (by omega) (V_tailB X rfl hc (ite_r hb) c3 (fun z => by rw [if_pos z]; exact o3 z) dL_law_1202 dL_law_1204 dL_law_1205 dL_law_1208 dL_law_1210 dL_law_1215 dL_law_1217 dL_law_1220 dL_law_1221 dL_law_1222 dL_law_1223 dL_law_1225 dL_law_1226 dL_law_1227 dL_law_1232 (by decide) hk (K C' M3 S3))
set_option maxHeartbeats 1000000 in
set_option maxRecDepth 20000 in
theorem law_18 (X : vC p s m args meth c D g A RL wsL_law cL_law 9) (hY : YX s) (hlt : l.stackTraces = false) (hX : XS s A b0 L xs) (hi : i + 6 ≤ L) (hS : StB C M) (hk : k + 8 ≤ room_1.cells ∧ n + 60 ≤ room_1.slots) (K : ∀ (C' : Nat → Nat → Int) (M' : Mem), StB C' M' → vV p l e room_1 s m args below meth c D g A a b 9 (k + 8) (n + 60) Q M' (lv5 a b b0 i) 2145 []) : vV p l e room_1 s m args below meth c D g A a b 9 k n Q M (lv5 a b b0 i) 1323 [] := by
  obtain ⟨hW, hI, hC, hB⟩ := hS
  obtain ⟨ans, C', ir, hq, hm⟩ := pk_d0 (ag_distanceByForests hW) hI hC hB
  refine V_aload_n X dL_law_1323 rfl (q := 1) rfl ?_
  refine V_callV_i X (fun r M1 => r = ans ∧ HPq C C' M1) gO_0 rfl (As := []) (st := []) (c_X10_distanceByForests l (Q := (fun r M1 => r = ans ∧ HPq C C' M1)) hq) (cwV 0 X.2.2.2.1 gL_law_X10_distanceByForests rfl rfl rfl (by decide +kernel) ⟨Nat.le_of_ble_eq_true rfl, Nat.le_of_ble_eq_true rfl⟩) rfl (Nat.le_of_ble_eq_true rfl) ⟨by omega, by omega⟩ rfl dL_law_1324 (fun r M1 hw => ?_)
  obtain ⟨e1, hw1⟩ := hw
  rw [e1]
  refine V_aload_n X dL_law_1327 rfl (q := 2) rfl ?_
  refine V_callV_i X (fun r M3 => r = ans ∧ StB C' M3) gO_13 rfl (As := []) (st := [iv ans]) (c_X11_distanceByForests l (Q := (fun r M3 => r = ans ∧ StB C' M3)) (hm M1 hw1)) (cwV 0 X.2.2.2.1 gL_law_X11_distanceByForests rfl rfl rfl (by decide +kernel) ⟨Nat.le_of_ble_eq_true rfl, Nat.le_of_ble_eq_true rfl⟩) rfl (Nat.le_of_ble_eq_true rfl) ⟨by omega, by omega⟩ rfl dL_law_1328 (fun r3 M3 hw3 => ?_)
  obtain ⟨e3, S3⟩ := hw3
  rw [e3]
  exact V_widen (k1 := k + 8) (n1 := n + 60) (by omega) (by omega) (V_icmp_eq (tgt := 2145) X ir ir dL_law_1331 (by decide) (fun _ => K C' M3 S3) (fun z => absurd rfl z))
set_option maxHeartbeats 1000000 in
set_option maxRecDepth 20000 in
theorem law_19 (X : vC p s m args meth c D g A RL wsL_law cL_law 9) (hY : YX s) (hlt : l.stackTraces = false) (hX : XS s A b0 L xs) (hi : i + 6 ≤ L) (hS : StB C M) (hk : k + 8 ≤ room_1.cells ∧ n + 60 ≤ room_1.slots) (K : ∀ (C' : Nat → Nat → Int) (M' : Mem), StB C' M' → vV p l e room_1 s m args below meth c D g A a b 9 (k + 8) (n + 60) Q M' (lv5 a b b0 i) 2145 []) : vV p l e room_1 s m args below meth c D g A a b 9 k n Q M (lv5 a b b0 i) 1336 [] := by
  obtain ⟨hW, hI, hC, hB⟩ := hS
  obtain ⟨code, ans, C', hc, hb, hq, hm⟩ := pk_i1 (ag_subtreeDistance hW (ci_r (xs := xs) (i := i + 1)) (ci_r (xs := xs) (i := i + 2))) hI hC hB
  refine V_aload_n X dL_law_1336 rfl (q := 1) rfl ?_
  refine V_cell X hX (i := i) (j := 1) (q0 := 0) (q4 := 4) rfl (by omega) rfl rfl dL_law_1337 dL_law_1338 dL_law_1340 dL_law_1341 dL_law_1342 ?_
  refine V_cell X hX (i := i) (j := 2) (q0 := 0) (q4 := 4) rfl (by omega) rfl rfl dL_law_1343 dL_law_1344 dL_law_1346 dL_law_1347 dL_law_1348 ?_
  refine V_aload_n X dL_law_1349 rfl (q := 3) rfl ?_
  refine V_callH (As := [.ref (a 0), iv (ci xs (i + 1)), iv (ci xs (i + 2)), .ref (b 14 0)]) (st := []) X hY (QH code ans C C') (c_L_subtreeDistance l (Q := (QH code ans C C')) hlt hq) (vx_cwSW 4 X.2.2.2.1 gL_law_L_subtreeDistance rfl rfl rfl (by decide +kernel) ⟨Nat.le_of_ble_eq_true rfl, Nat.le_of_ble_eq_true rfl⟩) rfl (Nat.le_of_ble_eq_true rfl) ⟨by omega, by omega⟩ rfl dL_law_1350 (fun r M1 hq1 => ?_)
  obtain ⟨er, hm1⟩ := hm M1 r hq1
  rw [er]
  refine V_istore (lv1 := lv6 a b b0 i code) X [1, 2, 3, 4, 5, 0] dL_law_1353 (by decide) rfl ?_
  refine V_aload_n X dL_law_1355 rfl (q := 2) rfl ?_
  refine V_cell X hX (i := i) (j := 1) (q0 := 0) (q4 := 4) rfl (by omega) rfl rfl dL_law_1356 dL_law_1357 dL_law_1359 dL_law_1360 dL_law_1361 ?_
  refine V_cell X hX (i := i) (j := 2) (q0 := 0) (q4 := 4) rfl (by omega) rfl rfl dL_law_1362 dL_law_1363 dL_law_1365 dL_law_1366 dL_law_1367 ?_
  refine V_callV_i X (fun r3 M3 => (r3 = if code = 0 then ans else 0) ∧ StB C' M3 ∧ M3 13 23 0 = code ∧ (code = 0 → M3 14 0 0 = ans)) gO_13 rfl (As := [iv (ci xs (i + 1)), iv (ci xs (i + 2))]) (st := []) (c_X11_subtreeDistance l (Q := (fun r3 M3 => (r3 = if code = 0 then ans else 0) ∧ StB C' M3 ∧ M3 13 23 0 = code ∧ (code = 0 → M3 14 0 0 = ans))) (hm1 (fun r3 M3 => (r3 = if code = 0 then ans else 0) ∧ StB C' M3 ∧ M3 13 23 0 = code ∧ (code = 0 → M3 14 0 0 = ans)) (fun M3 S e1 e2 => ⟨rfl, S, e1, e2⟩))) (cwV 2 X.2.2.2.1 gL_law_X11_subtreeDistance rfl rfl rfl (by decide +kernel) ⟨Nat.le_of_ble_eq_true rfl, Nat.le_of_ble_eq_true rfl⟩) rfl (Nat.le_of_ble_eq_true rfl) ⟨by omega, by omega⟩ rfl dL_law_1368 (fun r3 M3 hw3 => ?_)
  obtain ⟨e3, S3, c3, o3⟩ := hw3
  rw [e3]
  exact V_widen (k1 := k + 8) (n1 := n + 60) (by omega) (by omega) (V_tailB X rfl hc (ite_r hb) c3 (fun z => by rw [if_pos z]; exact o3 z) dL_law_1371 dL_law_1373 dL_law_1374 dL_law_1377 dL_law_1379 dL_law_1384 dL_law_1386 dL_law_1389 dL_law_1390 dL_law_1391 dL_law_1392 dL_law_1394 dL_law_1395 dL_law_1396 dL_law_1401 (by decide) hk (K C' M3 S3))
set_option maxHeartbeats 1000000 in
set_option maxRecDepth 20000 in
theorem law_20 (X : vC p s m args meth c D g A RL wsL_law cL_law 9) (hY : YX s) (hlt : l.stackTraces = false) (hX : XS s A b0 L xs) (hi : i + 6 ≤ L) (hS : StB C M) (hk : k + 8 ≤ room_1.cells ∧ n + 60 ≤ room_1.slots) (K : ∀ (C' : Nat → Nat → Int) (M' : Mem), StB C' M' → vV p l e room_1 s m args below meth c D g A a b 9 (k + 8) (n + 60) Q M' (lv5 a b b0 i) 2145 []) : vV p l e room_1 s m args below meth c D g A a b 9 k n Q M (lv5 a b b0 i) 1404 [] := by
  obtain ⟨hW, hI, hC, hB⟩ := hS
  obtain ⟨ans, C', ir, hq, hm⟩ := pk_d0 (ag_topDownDistance hW) hI hC hB
  refine V_aload_n X dL_law_1404 rfl (q := 1) rfl ?_
  refine V_callV_i X (fun r M1 => r = ans ∧ HPq C C' M1) gO_0 rfl (As := []) (st := []) (c_X10_topDownDistance l (Q := (fun r M1 => r = ans ∧ HPq C C' M1)) hq) (cwV 0 X.2.2.2.1 gL_law_X10_topDownDistance rfl rfl rfl (by decide +kernel) ⟨Nat.le_of_ble_eq_true rfl, Nat.le_of_ble_eq_true rfl⟩) rfl (Nat.le_of_ble_eq_true rfl) ⟨by omega, by omega⟩ rfl dL_law_1405 (fun r M1 hw => ?_)
  obtain ⟨e1, hw1⟩ := hw
  rw [e1]
  refine V_aload_n X dL_law_1408 rfl (q := 2) rfl ?_
  refine V_callV_i X (fun r M3 => r = ans ∧ StB C' M3) gO_13 rfl (As := []) (st := [iv ans]) (c_X11_topDownDistance l (Q := (fun r M3 => r = ans ∧ StB C' M3)) (hm M1 hw1)) (cwV 0 X.2.2.2.1 gL_law_X11_topDownDistance rfl rfl rfl (by decide +kernel) ⟨Nat.le_of_ble_eq_true rfl, Nat.le_of_ble_eq_true rfl⟩) rfl (Nat.le_of_ble_eq_true rfl) ⟨by omega, by omega⟩ rfl dL_law_1409 (fun r3 M3 hw3 => ?_)
  obtain ⟨e3, S3⟩ := hw3
  rw [e3]
  exact V_widen (k1 := k + 8) (n1 := n + 60) (by omega) (by omega) (V_icmp_eq (tgt := 2145) X ir ir dL_law_1412 (by decide) (fun _ => K C' M3 S3) (fun z => absurd rfl z))
set_option maxHeartbeats 1000000 in
set_option maxRecDepth 20000 in
theorem law_22 (X : vC p s m args meth c D g A RL wsL_law cL_law 9) (hY : YX s) (hlt : l.stackTraces = false) (hX : XS s A b0 L xs) (hi : i + 6 ≤ L) (hS : StB C M) (hk : k + 8 ≤ room_1.cells ∧ n + 60 ≤ room_1.slots) (K : ∀ (C' : Nat → Nat → Int) (M' : Mem), StB C' M' → vV p l e room_1 s m args below meth c D g A a b 9 (k + 8) (n + 60) Q M' (lv5 a b b0 i) 2145 []) : vV p l e room_1 s m args below meth c D g A a b 9 k n Q M (lv5 a b b0 i) 1458 [] := by
  obtain ⟨hW, hI, hC, hB⟩ := hS
  obtain ⟨ans, C', ir, hq, hm⟩ := pk_d0 (ag_pairs hW) hI hC hB
  refine V_aload_n X dL_law_1458 rfl (q := 1) rfl ?_
  refine V_callV_i X (fun r M1 => r = ans ∧ HPq C C' M1) gO_0 rfl (As := []) (st := []) (c_X10_pairs l (Q := (fun r M1 => r = ans ∧ HPq C C' M1)) hq) (cwV 0 X.2.2.2.1 gL_law_X10_pairs rfl rfl rfl (by decide +kernel) ⟨Nat.le_of_ble_eq_true rfl, Nat.le_of_ble_eq_true rfl⟩) rfl (Nat.le_of_ble_eq_true rfl) ⟨by omega, by omega⟩ rfl dL_law_1459 (fun r M1 hw => ?_)
  obtain ⟨e1, hw1⟩ := hw
  rw [e1]
  refine V_aload_n X dL_law_1462 rfl (q := 2) rfl ?_
  refine V_callV_i X (fun r M3 => r = ans ∧ StB C' M3) gO_13 rfl (As := []) (st := [iv ans]) (c_X11_pairs l (Q := (fun r M3 => r = ans ∧ StB C' M3)) (hm M1 hw1)) (cwV 0 X.2.2.2.1 gL_law_X11_pairs rfl rfl rfl (by decide +kernel) ⟨Nat.le_of_ble_eq_true rfl, Nat.le_of_ble_eq_true rfl⟩) rfl (Nat.le_of_ble_eq_true rfl) ⟨by omega, by omega⟩ rfl dL_law_1463 (fun r3 M3 hw3 => ?_)
  obtain ⟨e3, S3⟩ := hw3
  rw [e3]
  exact V_widen (k1 := k + 8) (n1 := n + 60) (by omega) (by omega) (V_icmp_eq (tgt := 2145) X ir ir dL_law_1466 (by decide) (fun _ => K C' M3 S3) (fun z => absurd rfl z))
set_option maxHeartbeats 1000000 in
set_option maxRecDepth 20000 in
theorem law_23 (X : vC p s m args meth c D g A RL wsL_law cL_law 9) (hY : YX s) (hlt : l.stackTraces = false) (hX : XS s A b0 L xs) (hi : i + 6 ≤ L) (hS : StB C M) (hk : k + 8 ≤ room_1.cells ∧ n + 60 ≤ room_1.slots) (K : ∀ (C' : Nat → Nat → Int) (M' : Mem), StB C' M' → vV p l e room_1 s m args below meth c D g A a b 9 (k + 8) (n + 60) Q M' (lv5 a b b0 i) 2145 []) : vV p l e room_1 s m args below meth c D g A a b 9 k n Q M (lv5 a b b0 i) 1471 [] := by
  obtain ⟨hW, hI, hC, hB⟩ := hS
  obtain ⟨code, ans, C', hc, hb, hq, hm⟩ := pk_i1 (ag_partnerOf hW (ci_r (xs := xs) (i := i + 1))) hI hC hB
  refine V_aload_n X dL_law_1471 rfl (q := 1) rfl ?_
  refine V_cell X hX (i := i) (j := 1) (q0 := 0) (q4 := 4) rfl (by omega) rfl rfl dL_law_1472 dL_law_1473 dL_law_1475 dL_law_1476 dL_law_1477 ?_
  refine V_aload_n X dL_law_1478 rfl (q := 3) rfl ?_
  refine V_callH (As := [.ref (a 0), iv (ci xs (i + 1)), .ref (b 14 0)]) (st := []) X hY (QH code ans C C') (c_L_partnerOf l (Q := (QH code ans C C')) hlt hq) (vx_cwSW 3 X.2.2.2.1 gL_law_L_partnerOf rfl rfl rfl (by decide +kernel) ⟨Nat.le_of_ble_eq_true rfl, Nat.le_of_ble_eq_true rfl⟩) rfl (Nat.le_of_ble_eq_true rfl) ⟨by omega, by omega⟩ rfl dL_law_1479 (fun r M1 hq1 => ?_)
  obtain ⟨er, hm1⟩ := hm M1 r hq1
  rw [er]
  refine V_istore (lv1 := lv6 a b b0 i code) X [1, 2, 3, 4, 5, 0] dL_law_1482 (by decide) rfl ?_
  refine V_aload_n X dL_law_1484 rfl (q := 2) rfl ?_
  refine V_cell X hX (i := i) (j := 1) (q0 := 0) (q4 := 4) rfl (by omega) rfl rfl dL_law_1485 dL_law_1486 dL_law_1488 dL_law_1489 dL_law_1490 ?_
  refine V_callV_i X (fun r3 M3 => (r3 = if code = 0 then ans else 0) ∧ StB C' M3 ∧ M3 13 23 0 = code ∧ (code = 0 → M3 14 0 0 = ans)) gO_13 rfl (As := [iv (ci xs (i + 1))]) (st := []) (c_X11_partnerOf l (Q := (fun r3 M3 => (r3 = if code = 0 then ans else 0) ∧ StB C' M3 ∧ M3 13 23 0 = code ∧ (code = 0 → M3 14 0 0 = ans))) (hm1 (fun r3 M3 => (r3 = if code = 0 then ans else 0) ∧ StB C' M3 ∧ M3 13 23 0 = code ∧ (code = 0 → M3 14 0 0 = ans)) (fun M3 S e1 e2 => ⟨rfl, S, e1, e2⟩))) (cwV 1 X.2.2.2.1 gL_law_X11_partnerOf rfl rfl rfl (by decide +kernel) ⟨Nat.le_of_ble_eq_true rfl, Nat.le_of_ble_eq_true rfl⟩) rfl (Nat.le_of_ble_eq_true rfl) ⟨by omega, by omega⟩ rfl dL_law_1491 (fun r3 M3 hw3 => ?_)
  obtain ⟨e3, S3, c3, o3⟩ := hw3
  rw [e3]
  exact V_widen (k1 := k + 8) (n1 := n + 60) (by omega) (by omega) (V_tailB X rfl hc (ite_r hb) c3 (fun z => by rw [if_pos z]; exact o3 z) dL_law_1494 dL_law_1496 dL_law_1497 dL_law_1500 dL_law_1502 dL_law_1507 dL_law_1509 dL_law_1512 dL_law_1513 dL_law_1514 dL_law_1515 dL_law_1517 dL_law_1518 dL_law_1519 dL_law_1524 (by decide) hk (K C' M3 S3))
set_option maxHeartbeats 1000000 in
set_option maxRecDepth 20000 in
theorem law_24 (X : vC p s m args meth c D g A RL wsL_law cL_law 9) (hY : YX s) (hlt : l.stackTraces = false) (hX : XS s A b0 L xs) (hi : i + 6 ≤ L) (hS : StB C M) (hk : k + 8 ≤ room_1.cells ∧ n + 60 ≤ room_1.slots) (K : ∀ (C' : Nat → Nat → Int) (M' : Mem), StB C' M' → vV p l e room_1 s m args below meth c D g A a b 9 (k + 8) (n + 60) Q M' (lv5 a b b0 i) 2145 []) : vV p l e room_1 s m args below meth c D g A a b 9 k n Q M (lv5 a b b0 i) 1527 [] := by
  obtain ⟨hW, hI, hC, hB⟩ := hS
  obtain ⟨code, ans, C', hc, hb, hq, hm⟩ := pk_z1 (ag_canBePaired hW (ci_r (xs := xs) (i := i + 1)) (ci_r (xs := xs) (i := i + 2))) hI hC hB
  refine V_aload_n X dL_law_1527 rfl (q := 1) rfl ?_
  refine V_cell X hX (i := i) (j := 1) (q0 := 0) (q4 := 4) rfl (by omega) rfl rfl dL_law_1528 dL_law_1529 dL_law_1531 dL_law_1532 dL_law_1533 ?_
  refine V_cell X hX (i := i) (j := 2) (q0 := 0) (q4 := 4) rfl (by omega) rfl rfl dL_law_1534 dL_law_1535 dL_law_1537 dL_law_1538 dL_law_1539 ?_
  refine V_aload_n X dL_law_1540 rfl (q := 3) rfl ?_
  refine V_callH (As := [.ref (a 0), iv (ci xs (i + 1)), iv (ci xs (i + 2)), .ref (b 14 0)]) (st := []) X hY (QH code ans C C') (c_L_canBePaired l (Q := (QH code ans C C')) hlt hq) (vx_cwSW 4 X.2.2.2.1 gL_law_L_canBePaired rfl rfl rfl (by decide +kernel) ⟨Nat.le_of_ble_eq_true rfl, Nat.le_of_ble_eq_true rfl⟩) rfl (Nat.le_of_ble_eq_true rfl) ⟨by omega, by omega⟩ rfl dL_law_1541 (fun r M1 hq1 => ?_)
  obtain ⟨er, hm1⟩ := hm M1 r hq1
  rw [er]
  refine V_istore (lv1 := lv6 a b b0 i code) X [1, 2, 3, 4, 5, 0] dL_law_1544 (by decide) rfl ?_
  refine V_aload_n X dL_law_1546 rfl (q := 2) rfl ?_
  refine V_cell X hX (i := i) (j := 1) (q0 := 0) (q4 := 4) rfl (by omega) rfl rfl dL_law_1547 dL_law_1548 dL_law_1550 dL_law_1551 dL_law_1552 ?_
  refine V_cell X hX (i := i) (j := 2) (q0 := 0) (q4 := 4) rfl (by omega) rfl rfl dL_law_1553 dL_law_1554 dL_law_1556 dL_law_1557 dL_law_1558 ?_
  refine V_callV_i X (fun r3 M3 => (r3 = if code = 0 then ans else 0) ∧ StB C' M3 ∧ M3 13 23 0 = code ∧ (code = 0 → M3 14 0 0 = ans)) gO_13 rfl (As := [iv (ci xs (i + 1)), iv (ci xs (i + 2))]) (st := []) (c_X11_canBePaired l (Q := (fun r3 M3 => (r3 = if code = 0 then ans else 0) ∧ StB C' M3 ∧ M3 13 23 0 = code ∧ (code = 0 → M3 14 0 0 = ans))) (hm1 (fun r3 M3 => (r3 = if code = 0 then ans else 0) ∧ StB C' M3 ∧ M3 13 23 0 = code ∧ (code = 0 → M3 14 0 0 = ans)) (fun M3 S e1 e2 => ⟨rfl, S, e1, e2⟩))) (cwV 2 X.2.2.2.1 gL_law_X11_canBePaired rfl rfl rfl (by decide +kernel) ⟨Nat.le_of_ble_eq_true rfl, Nat.le_of_ble_eq_true rfl⟩) rfl (Nat.le_of_ble_eq_true rfl) ⟨by omega, by omega⟩ rfl dL_law_1559 (fun r3 M3 hw3 => ?_)
  obtain ⟨e3, S3, c3, o3⟩ := hw3
  rw [e3]
  exact V_widen (k1 := k + 8) (n1 := n + 60) (by omega) (by omega) (V_tailZ X rfl hc (ite_z hb) c3 (fun z => by rw [if_pos z]; exact o3 z) dL_law_1562 dL_law_1564 dL_law_1565 dL_law_1568 dL_law_1570 dL_law_1575 dL_law_1577 dL_law_1580 dL_law_1581 dL_law_1582 dL_law_1583 dL_law_1585 dL_law_1588 dL_law_1589 dL_law_1592 dL_law_1593 dL_law_1594 dL_law_1599 (by decide) hk (K C' M3 S3))
set_option maxHeartbeats 1000000 in
set_option maxRecDepth 20000 in
theorem law_25 (X : vC p s m args meth c D g A RL wsL_law cL_law 9) (hY : YX s) (hlt : l.stackTraces = false) (hX : XS s A b0 L xs) (hi : i + 6 ≤ L) (hS : StB C M) (hk : k + 8 ≤ room_1.cells ∧ n + 60 ≤ room_1.slots) (K : ∀ (C' : Nat → Nat → Int) (M' : Mem), StB C' M' → vV p l e room_1 s m args below meth c D g A a b 9 (k + 8) (n + 60) Q M' (lv5 a b b0 i) 2145 []) : vV p l e room_1 s m args below meth c D g A a b 9 k n Q M (lv5 a b b0 i) 1602 [] := by
  obtain ⟨hW, hI, hC, hB⟩ := hS
  obtain ⟨ans, C', ir, hq, hm⟩ := pk_d0 (ag_steps hW) hI hC hB
  refine V_aload_n X dL_law_1602 rfl (q := 1) rfl ?_
  refine V_callV_i X (fun r M1 => r = ans ∧ HPq C C' M1) gO_0 rfl (As := []) (st := []) (c_X10_steps l (Q := (fun r M1 => r = ans ∧ HPq C C' M1)) hq) (cwV 0 X.2.2.2.1 gL_law_X10_steps rfl rfl rfl (by decide +kernel) ⟨Nat.le_of_ble_eq_true rfl, Nat.le_of_ble_eq_true rfl⟩) rfl (Nat.le_of_ble_eq_true rfl) ⟨by omega, by omega⟩ rfl dL_law_1603 (fun r M1 hw => ?_)
  obtain ⟨e1, hw1⟩ := hw
  rw [e1]
  refine V_aload_n X dL_law_1606 rfl (q := 2) rfl ?_
  refine V_callV_i X (fun r M3 => r = ans ∧ StB C' M3) gO_13 rfl (As := []) (st := [iv ans]) (c_X11_steps l (Q := (fun r M3 => r = ans ∧ StB C' M3)) (hm M1 hw1)) (cwV 0 X.2.2.2.1 gL_law_X11_steps rfl rfl rfl (by decide +kernel) ⟨Nat.le_of_ble_eq_true rfl, Nat.le_of_ble_eq_true rfl⟩) rfl (Nat.le_of_ble_eq_true rfl) ⟨by omega, by omega⟩ rfl dL_law_1607 (fun r3 M3 hw3 => ?_)
  obtain ⟨e3, S3⟩ := hw3
  rw [e3]
  exact V_widen (k1 := k + 8) (n1 := n + 60) (by omega) (by omega) (V_icmp_eq (tgt := 2145) X ir ir dL_law_1610 (by decide) (fun _ => K C' M3 S3) (fun z => absurd rfl z))
set_option maxHeartbeats 1000000 in
set_option maxRecDepth 20000 in
theorem law_26 (X : vC p s m args meth c D g A RL wsL_law cL_law 9) (hY : YX s) (hlt : l.stackTraces = false) (hX : XS s A b0 L xs) (hi : i + 6 ≤ L) (hS : StB C M) (hk : k + 8 ≤ room_1.cells ∧ n + 60 ≤ room_1.slots) (K : ∀ (C' : Nat → Nat → Int) (M' : Mem), StB C' M' → vV p l e room_1 s m args below meth c D g A a b 9 (k + 8) (n + 60) Q M' (lv5 a b b0 i) 2145 []) : vV p l e room_1 s m args below meth c D g A a b 9 k n Q M (lv5 a b b0 i) 1615 [] := by
  obtain ⟨hW, hI, hC, hB⟩ := hS
  obtain ⟨code, ans, C', hc, hb, hq, hm⟩ := pk_i1 (ag_stepKind hW (ci_r (xs := xs) (i := i + 1))) hI hC hB
  refine V_aload_n X dL_law_1615 rfl (q := 1) rfl ?_
  refine V_cell X hX (i := i) (j := 1) (q0 := 0) (q4 := 4) rfl (by omega) rfl rfl dL_law_1616 dL_law_1617 dL_law_1619 dL_law_1620 dL_law_1621 ?_
  refine V_aload_n X dL_law_1622 rfl (q := 3) rfl ?_
  refine V_callH (As := [.ref (a 0), iv (ci xs (i + 1)), .ref (b 14 0)]) (st := []) X hY (QH code ans C C') (c_L_stepKind l (Q := (QH code ans C C')) hlt hq) (vx_cwSW 3 X.2.2.2.1 gL_law_L_stepKind rfl rfl rfl (by decide +kernel) ⟨Nat.le_of_ble_eq_true rfl, Nat.le_of_ble_eq_true rfl⟩) rfl (Nat.le_of_ble_eq_true rfl) ⟨by omega, by omega⟩ rfl dL_law_1623 (fun r M1 hq1 => ?_)
  obtain ⟨er, hm1⟩ := hm M1 r hq1
  rw [er]
  refine V_istore (lv1 := lv6 a b b0 i code) X [1, 2, 3, 4, 5, 0] dL_law_1626 (by decide) rfl ?_
  refine V_aload_n X dL_law_1628 rfl (q := 2) rfl ?_
  refine V_cell X hX (i := i) (j := 1) (q0 := 0) (q4 := 4) rfl (by omega) rfl rfl dL_law_1629 dL_law_1630 dL_law_1632 dL_law_1633 dL_law_1634 ?_
  refine V_callV_i X (fun r3 M3 => (r3 = if code = 0 then ans else 0) ∧ StB C' M3 ∧ M3 13 23 0 = code ∧ (code = 0 → M3 14 0 0 = ans)) gO_13 rfl (As := [iv (ci xs (i + 1))]) (st := []) (c_X11_stepKind l (Q := (fun r3 M3 => (r3 = if code = 0 then ans else 0) ∧ StB C' M3 ∧ M3 13 23 0 = code ∧ (code = 0 → M3 14 0 0 = ans))) (hm1 (fun r3 M3 => (r3 = if code = 0 then ans else 0) ∧ StB C' M3 ∧ M3 13 23 0 = code ∧ (code = 0 → M3 14 0 0 = ans)) (fun M3 S e1 e2 => ⟨rfl, S, e1, e2⟩))) (cwV 1 X.2.2.2.1 gL_law_X11_stepKind rfl rfl rfl (by decide +kernel) ⟨Nat.le_of_ble_eq_true rfl, Nat.le_of_ble_eq_true rfl⟩) rfl (Nat.le_of_ble_eq_true rfl) ⟨by omega, by omega⟩ rfl dL_law_1635 (fun r3 M3 hw3 => ?_)
  obtain ⟨e3, S3, c3, o3⟩ := hw3
  rw [e3]
  exact V_widen (k1 := k + 8) (n1 := n + 60) (by omega) (by omega) (V_tailB X rfl hc (ite_r hb) c3 (fun z => by rw [if_pos z]; exact o3 z) dL_law_1638 dL_law_1640 dL_law_1641 dL_law_1644 dL_law_1646 dL_law_1651 dL_law_1653 dL_law_1656 dL_law_1657 dL_law_1658 dL_law_1659 dL_law_1661 dL_law_1662 dL_law_1663 dL_law_1668 (by decide) hk (K C' M3 S3))
set_option maxHeartbeats 1000000 in
set_option maxRecDepth 20000 in
theorem law_27 (X : vC p s m args meth c D g A RL wsL_law cL_law 9) (hY : YX s) (hlt : l.stackTraces = false) (hX : XS s A b0 L xs) (hi : i + 6 ≤ L) (hS : StB C M) (hk : k + 8 ≤ room_1.cells ∧ n + 60 ≤ room_1.slots) (K : ∀ (C' : Nat → Nat → Int) (M' : Mem), StB C' M' → vV p l e room_1 s m args below meth c D g A a b 9 (k + 8) (n + 60) Q M' (lv5 a b b0 i) 2145 []) : vV p l e room_1 s m args below meth c D g A a b 9 k n Q M (lv5 a b b0 i) 1671 [] := by
  obtain ⟨hW, hI, hC, hB⟩ := hS
  obtain ⟨code, ans, C', hc, hb, hq, hm⟩ := pk_i1 (ag_stepNode hW (ci_r (xs := xs) (i := i + 1))) hI hC hB
  refine V_aload_n X dL_law_1671 rfl (q := 1) rfl ?_
  refine V_cell X hX (i := i) (j := 1) (q0 := 0) (q4 := 4) rfl (by omega) rfl rfl dL_law_1672 dL_law_1673 dL_law_1675 dL_law_1676 dL_law_1677 ?_
  refine V_aload_n X dL_law_1678 rfl (q := 3) rfl ?_
  refine V_callH (As := [.ref (a 0), iv (ci xs (i + 1)), .ref (b 14 0)]) (st := []) X hY (QH code ans C C') (c_L_stepNode l (Q := (QH code ans C C')) hlt hq) (vx_cwSW 3 X.2.2.2.1 gL_law_L_stepNode rfl rfl rfl (by decide +kernel) ⟨Nat.le_of_ble_eq_true rfl, Nat.le_of_ble_eq_true rfl⟩) rfl (Nat.le_of_ble_eq_true rfl) ⟨by omega, by omega⟩ rfl dL_law_1679 (fun r M1 hq1 => ?_)
  obtain ⟨er, hm1⟩ := hm M1 r hq1
  rw [er]
  refine V_istore (lv1 := lv6 a b b0 i code) X [1, 2, 3, 4, 5, 0] dL_law_1682 (by decide) rfl ?_
  refine V_aload_n X dL_law_1684 rfl (q := 2) rfl ?_
  refine V_cell X hX (i := i) (j := 1) (q0 := 0) (q4 := 4) rfl (by omega) rfl rfl dL_law_1685 dL_law_1686 dL_law_1688 dL_law_1689 dL_law_1690 ?_
  refine V_callV_i X (fun r3 M3 => (r3 = if code = 0 then ans else 0) ∧ StB C' M3 ∧ M3 13 23 0 = code ∧ (code = 0 → M3 14 0 0 = ans)) gO_13 rfl (As := [iv (ci xs (i + 1))]) (st := []) (c_X11_stepNode l (Q := (fun r3 M3 => (r3 = if code = 0 then ans else 0) ∧ StB C' M3 ∧ M3 13 23 0 = code ∧ (code = 0 → M3 14 0 0 = ans))) (hm1 (fun r3 M3 => (r3 = if code = 0 then ans else 0) ∧ StB C' M3 ∧ M3 13 23 0 = code ∧ (code = 0 → M3 14 0 0 = ans)) (fun M3 S e1 e2 => ⟨rfl, S, e1, e2⟩))) (cwV 1 X.2.2.2.1 gL_law_X11_stepNode rfl rfl rfl (by decide +kernel) ⟨Nat.le_of_ble_eq_true rfl, Nat.le_of_ble_eq_true rfl⟩) rfl (Nat.le_of_ble_eq_true rfl) ⟨by omega, by omega⟩ rfl dL_law_1691 (fun r3 M3 hw3 => ?_)
  obtain ⟨e3, S3, c3, o3⟩ := hw3
  rw [e3]
  exact V_widen (k1 := k + 8) (n1 := n + 60) (by omega) (by omega) (V_tailB X rfl hc (ite_r hb) c3 (fun z => by rw [if_pos z]; exact o3 z) dL_law_1694 dL_law_1696 dL_law_1697 dL_law_1700 dL_law_1702 dL_law_1707 dL_law_1709 dL_law_1712 dL_law_1713 dL_law_1714 dL_law_1715 dL_law_1717 dL_law_1718 dL_law_1719 dL_law_1724 (by decide) hk (K C' M3 S3))
end CASES
