/-! the law's cases (1) -/
theorem ite_r {code ans : Int} (h : -2000000 ≤ ans ∧ ans ≤ 2000000) : inR (if code = 0 then ans else 0) := by
  split
  · exact ⟨by omega, by omega⟩
  · exact ⟨by omega, by omega⟩
theorem ite_z {code ans : Int} (h : 0 ≤ ans ∧ ans ≤ 1) : 0 ≤ (if code = 0 then ans else 0) ∧ (if code = 0 then ans else 0) ≤ 1 := by
  split
  · exact h
  · omega
section CASES
variable {p : Program} {l : Launch} {e : Env} {s : State} {m : MethodId} {args : Array Value} {below : List Frame} {meth : Method} {c : Code} {D : va_G} {g : GT} {A : Nat → Prop} {a : Nat → Nat} {b : Nat → Nat → Nat} {k n : Nat} {Q : State → Prop} {M : Mem} {b0 L : Nat} {xs : Nat → Int32} {C : Nat → Nat → Int} {i : Nat}
set_option maxHeartbeats 1000000 in
set_option maxRecDepth 20000 in
theorem law_7 (X : vC p s m args meth c D g A RL wsL_law cL_law 9) (hY : YX s) (hlt : l.stackTraces = false) (hX : XS s A b0 L xs) (hi : i + 6 ≤ L) (hS : StB C M) (hk : k + 8 ≤ room_1.cells ∧ n + 60 ≤ room_1.slots) (K : ∀ (C' : Nat → Nat → Int) (M' : Mem), StB C' M' → vV p l e room_1 s m args below meth c D g A a b 9 (k + 8) (n + 60) Q M' (lv5 a b b0 i) 2145 []) : vV p l e room_1 s m args below meth c D g A a b 9 k n Q M (lv5 a b b0 i) 623 [] := by
  obtain ⟨hW, hI, hC, hB⟩ := hS
  obtain ⟨code, ans, C', hc, hb, hq, hm⟩ := pk_i1 (ag_nodes hW (ci_r (xs := xs) (i := i + 1))) hI hC hB
  refine V_aload_n X dL_law_623 rfl (q := 1) rfl ?_
  refine V_cell X hX (i := i) (j := 1) (q0 := 0) (q4 := 4) rfl (by omega) rfl rfl dL_law_624 dL_law_625 dL_law_627 dL_law_628 dL_law_629 ?_
  refine V_aload_n X dL_law_630 rfl (q := 3) rfl ?_
  refine V_callH (As := [.ref (a 0), iv (ci xs (i + 1)), .ref (b 14 0)]) (st := []) X hY (QH code ans C C') (c_L_nodes l (Q := (QH code ans C C')) hlt hq) (vx_cwSW 3 X.2.2.2.1 gL_law_L_nodes rfl rfl rfl (by decide +kernel) ⟨Nat.le_of_ble_eq_true rfl, Nat.le_of_ble_eq_true rfl⟩) rfl (Nat.le_of_ble_eq_true rfl) ⟨by omega, by omega⟩ rfl dL_law_631 (fun r M1 hq1 => ?_)
  obtain ⟨er, hm1⟩ := hm M1 r hq1
  rw [er]
  refine V_istore (lv1 := lv6 a b b0 i code) X [1, 2, 3, 4, 5, 0] dL_law_634 (by decide) rfl ?_
  refine V_aload_n X dL_law_636 rfl (q := 2) rfl ?_
  refine V_cell X hX (i := i) (j := 1) (q0 := 0) (q4 := 4) rfl (by omega) rfl rfl dL_law_637 dL_law_638 dL_law_640 dL_law_641 dL_law_642 ?_
  refine V_callV_i X (fun r3 M3 => (r3 = if code = 0 then ans else 0) ∧ StB C' M3 ∧ M3 13 23 0 = code ∧ (code = 0 → M3 14 0 0 = ans)) gO_13 rfl (As := [iv (ci xs (i + 1))]) (st := []) (c_X11_nodes l (Q := (fun r3 M3 => (r3 = if code = 0 then ans else 0) ∧ StB C' M3 ∧ M3 13 23 0 = code ∧ (code = 0 → M3 14 0 0 = ans))) (hm1 (fun r3 M3 => (r3 = if code = 0 then ans else 0) ∧ StB C' M3 ∧ M3 13 23 0 = code ∧ (code = 0 → M3 14 0 0 = ans)) (fun M3 S e1 e2 => ⟨rfl, S, e1, e2⟩))) (cwV 1 X.2.2.2.1 gL_law_X11_nodes rfl rfl rfl (by decide +kernel) ⟨Nat.le_of_ble_eq_true rfl, Nat.le_of_ble_eq_true rfl⟩) rfl (Nat.le_of_ble_eq_true rfl) ⟨by omega, by omega⟩ rfl dL_law_643 (fun r3 M3 hw3 => ?_)
  obtain ⟨e3, S3, c3, o3⟩ := hw3
  rw [e3]
  exact V_widen (k1 := k + 8) (n1 := n + 60) (by omega) (by omega) (V_tailB X rfl hc (ite_r hb) c3 (fun z => by rw [if_pos z]; exact o3 z) dL_law_646 dL_law_648 dL_law_649 dL_law_652 dL_law_654 dL_law_659 dL_law_661 dL_law_664 dL_law_665 dL_law_666 dL_law_667 dL_law_669 dL_law_670 dL_law_671 dL_law_676 (by decide) hk (K C' M3 S3))
set_option maxHeartbeats 1000000 in
set_option maxRecDepth 20000 in
theorem law_0 (X : vC p s m args meth c D g A RL wsL_law cL_law 9) (hY : YX s) (hlt : l.stackTraces = false) (hX : XS s A b0 L xs) (hi : i + 6 ≤ L) (hS : StB C M) (hk : k + 8 ≤ room_1.cells ∧ n + 60 ≤ room_1.slots) (K : ∀ (C' : Nat → Nat → Int) (M' : Mem), StB C' M' → vV p l e room_1 s m args below meth c D g A a b 9 (k + 8) (n + 60) Q M' (lv5 a b b0 i) 2145 []) : vV p l e room_1 s m args below meth c D g A a b 9 k n Q M (lv5 a b b0 i) 204 [] := by
  obtain ⟨hW, hI, hC, hB⟩ := hS
  obtain ⟨code, C', hc, hq, hm⟩ := pk_v3 (ag_addRoot hW (ci_r (xs := xs) (i := i + 1)) (ci_r (xs := xs) (i := i + 2)) (ci_r (xs := xs) (i := i + 3))) hI hC hB
  refine V_aload_n X dL_law_204 rfl (q := 1) rfl ?_
  refine V_cell X hX (i := i) (j := 1) (q0 := 0) (q4 := 4) rfl (by omega) rfl rfl dL_law_205 dL_law_206 dL_law_208 dL_law_209 dL_law_210 ?_
  refine V_cell X hX (i := i) (j := 2) (q0 := 0) (q4 := 4) rfl (by omega) rfl rfl dL_law_211 dL_law_212 dL_law_214 dL_law_215 dL_law_216 ?_
  refine V_cell X hX (i := i) (j := 3) (q0 := 0) (q4 := 4) rfl (by omega) rfl rfl dL_law_217 dL_law_218 dL_law_220 dL_law_221 dL_law_222 ?_
  refine V_callH (As := [.ref (a 0), iv (ci xs (i + 1)), iv (ci xs (i + 2)), iv (ci xs (i + 3))]) (st := []) X hY (QV code C C') (c_L_addRoot l (Q := (QV code C C')) hlt hq) (vx_cwSW 4 X.2.2.2.1 gL_law_L_addRoot rfl rfl rfl (by decide +kernel) ⟨Nat.le_of_ble_eq_true rfl, Nat.le_of_ble_eq_true rfl⟩) rfl (Nat.le_of_ble_eq_true rfl) ⟨by omega, by omega⟩ rfl dL_law_223 (fun r M1 hq1 => ?_)
  obtain ⟨er, hm1⟩ := hm M1 r hq1
  rw [er]
  refine V_istore (lv1 := lv6 a b b0 i code) X [1, 2, 3, 4, 5, 0] dL_law_226 (by decide) rfl ?_
  refine V_aload_n X dL_law_228 rfl (q := 2) rfl ?_
  refine V_cell X hX (i := i) (j := 1) (q0 := 0) (q4 := 4) rfl (by omega) rfl rfl dL_law_229 dL_law_230 dL_law_232 dL_law_233 dL_law_234 ?_
  refine V_cell X hX (i := i) (j := 2) (q0 := 0) (q4 := 4) rfl (by omega) rfl rfl dL_law_235 dL_law_236 dL_law_238 dL_law_239 dL_law_240 ?_
  refine V_cell X hX (i := i) (j := 3) (q0 := 0) (q4 := 4) rfl (by omega) rfl rfl dL_law_241 dL_law_242 dL_law_244 dL_law_245 dL_law_246 ?_
  refine V_callV_v X (fun M3 => StB C' M3 ∧ M3 13 23 0 = code) gO_13 rfl (As := [iv (ci xs (i + 1)), iv (ci xs (i + 2)), iv (ci xs (i + 3))]) (st := []) (c_X11_addRoot l (Q := (fun M3 => StB C' M3 ∧ M3 13 23 0 = code)) (hm1 (fun M3 => StB C' M3 ∧ M3 13 23 0 = code) (fun M3 S e1 => ⟨S, e1⟩))) (cwV 3 X.2.2.2.1 gL_law_X11_addRoot rfl rfl rfl (by decide +kernel) ⟨Nat.le_of_ble_eq_true rfl, Nat.le_of_ble_eq_true rfl⟩) rfl (Nat.le_of_ble_eq_true rfl) ⟨by omega, by omega⟩ rfl dL_law_247 (fun M3 hw3 => ?_)
  obtain ⟨S3, c3⟩ := hw3
  exact V_widen (k1 := k + 8) (n1 := n + 60) (by omega) (by omega) (V_tailA X rfl hc c3 dL_law_250 dL_law_251 dL_law_254 dL_law_256 dL_law_261 (by decide) hk (K C' M3 S3))
set_option maxHeartbeats 1000000 in
set_option maxRecDepth 20000 in
theorem law_16 (X : vC p s m args meth c D g A RL wsL_law cL_law 9) (hY : YX s) (hlt : l.stackTraces = false) (hX : XS s A b0 L xs) (hi : i + 6 ≤ L) (hS : StB C M) (hk : k + 8 ≤ room_1.cells ∧ n + 60 ≤ room_1.slots) (K : ∀ (C' : Nat → Nat → Int) (M' : Mem), StB C' M' → vV p l e room_1 s m args below meth c D g A a b 9 (k + 8) (n + 60) Q M' (lv5 a b b0 i) 2145 []) : vV p l e room_1 s m args below meth c D g A a b 9 k n Q M (lv5 a b b0 i) 1235 [] := by
  obtain ⟨hW, hI, hC, hB⟩ := hS
  obtain ⟨code, ans, C', hc, hb, hq, hm⟩ := pk_z1 (ag_isKeyroot hW (ci_r (xs := xs) (i := i + 1)) (ci_r (xs := xs) (i := i + 2))) hI hC hB
  refine V_aload_n X dL_law_1235 rfl (q := 1) rfl ?_
  refine V_cell X hX (i := i) (j := 1) (q0 := 0) (q4 := 4) rfl (by omega) rfl rfl dL_law_1236 dL_law_1237 dL_law_1239 dL_law_1240 dL_law_1241 ?_
  refine V_cell X hX (i := i) (j := 2) (q0 := 0) (q4 := 4) rfl (by omega) rfl rfl dL_law_1242 dL_law_1243 dL_law_1245 dL_law_1246 dL_law_1247 ?_
  refine V_aload_n X dL_law_1248 rfl (q := 3) rfl ?_
  refine V_callH (As := [.ref (a 0), iv (ci xs (i + 1)), iv (ci xs (i + 2)), .ref (b 14 0)]) (st := []) X hY (QH code ans C C') (c_L_isKeyroot l (Q := (QH code ans C C')) hlt hq) (vx_cwSW 4 X.2.2.2.1 gL_law_L_isKeyroot rfl rfl rfl (by decide +kernel) ⟨Nat.le_of_ble_eq_true rfl, Nat.le_of_ble_eq_true rfl⟩) rfl (Nat.le_of_ble_eq_true rfl) ⟨by omega, by omega⟩ rfl dL_law_1249 (fun r M1 hq1 => ?_)
  obtain ⟨er, hm1⟩ := hm M1 r hq1
  rw [er]
  refine V_istore (lv1 := lv6 a b b0 i code) X [1, 2, 3, 4, 5, 0] dL_law_1252 (by decide) rfl ?_
  refine V_aload_n X dL_law_1254 rfl (q := 2) rfl ?_
  refine V_cell X hX (i := i) (j := 1) (q0 := 0) (q4 := 4) rfl (by omega) rfl rfl dL_law_1255 dL_law_1256 dL_law_1258 dL_law_1259 dL_law_1260 ?_
  refine V_cell X hX (i := i) (j := 2) (q0 := 0) (q4 := 4) rfl (by omega) rfl rfl dL_law_1261 dL_law_1262 dL_law_1264 dL_law_1265 dL_law_1266 ?_
  refine V_callV_i X (fun r3 M3 => (r3 = if code = 0 then ans else 0) ∧ StB C' M3 ∧ M3 13 23 0 = code ∧ (code = 0 → M3 14 0 0 = ans)) gO_13 rfl (As := [iv (ci xs (i + 1)), iv (ci xs (i + 2))]) (st := []) (c_X11_isKeyroot l (Q := (fun r3 M3 => (r3 = if code = 0 then ans else 0) ∧ StB C' M3 ∧ M3 13 23 0 = code ∧ (code = 0 → M3 14 0 0 = ans))) (hm1 (fun r3 M3 => (r3 = if code = 0 then ans else 0) ∧ StB C' M3 ∧ M3 13 23 0 = code ∧ (code = 0 → M3 14 0 0 = ans)) (fun M3 S e1 e2 => ⟨rfl, S, e1, e2⟩))) (cwV 2 X.2.2.2.1 gL_law_X11_isKeyroot rfl rfl rfl (by decide +kernel) ⟨Nat.le_of_ble_eq_true rfl, Nat.le_of_ble_eq_true rfl⟩) rfl (Nat.le_of_ble_eq_true rfl) ⟨by omega, by omega⟩ rfl dL_law_1267 (fun r3 M3 hw3 => ?_)
  obtain ⟨e3, S3, c3, o3⟩ := hw3
  rw [e3]
  exact V_widen (k1 := k + 8) (n1 := n + 60) (by omega) (by omega) (V_tailZ X rfl hc (ite_z hb) c3 (fun z => by rw [if_pos z]; exact o3 z) dL_law_1270 dL_law_1272 dL_law_1273 dL_law_1276 dL_law_1278 dL_law_1283 dL_law_1285 dL_law_1288 dL_law_1289 dL_law_1290 dL_law_1291 dL_law_1293 dL_law_1296 dL_law_1297 dL_law_1300 dL_law_1301 dL_law_1302 dL_law_1307 (by decide) hk (K C' M3 S3))
set_option maxHeartbeats 1000000 in
set_option maxRecDepth 20000 in
theorem law_17 (X : vC p s m args meth c D g A RL wsL_law cL_law 9) (hY : YX s) (hlt : l.stackTraces = false) (hX : XS s A b0 L xs) (hi : i + 6 ≤ L) (hS : StB C M) (hk : k + 8 ≤ room_1.cells ∧ n + 60 ≤ room_1.slots) (K : ∀ (C' : Nat → Nat → Int) (M' : Mem), StB C' M' → vV p l e room_1 s m args below meth c D g A a b 9 (k + 8) (n + 60) Q M' (lv5 a b b0 i) 2145 []) : vV p l e room_1 s m args below meth c D g A a b 9 k n Q M (lv5 a b b0 i) 1310 [] := by
  obtain ⟨hW, hI, hC, hB⟩ := hS
  obtain ⟨ans, C', ir, hq, hm⟩ := pk_d0 (ag_distance hW) hI hC hB
  refine V_aload_n X dL_law_1310 rfl (q := 1) rfl ?_
  refine V_callV_i X (fun r M1 => r = ans ∧ HPq C C' M1) gO_0 rfl (As := []) (st := []) (c_X10_distance l (Q := (fun r M1 => r = ans ∧ HPq C C' M1)) hq) (cwV 0 X.2.2.2.1 gL_law_X10_distance rfl rfl rfl (by decide +kernel) ⟨Nat.le_of_ble_eq_true rfl, Nat.le_of_ble_eq_true rfl⟩) rfl (Nat.le_of_ble_eq_true rfl) ⟨by omega, by omega⟩ rfl dL_law_1311 (fun r M1 hw => ?_)
  obtain ⟨e1, hw1⟩ := hw
  rw [e1]
  refine V_aload_n X dL_law_1314 rfl (q := 2) rfl ?_
  refine V_callV_i X (fun r M3 => r = ans ∧ StB C' M3) gO_13 rfl (As := []) (st := [iv ans]) (c_X11_distance l (Q := (fun r M3 => r = ans ∧ StB C' M3)) (hm M1 hw1)) (cwV 0 X.2.2.2.1 gL_law_X11_distance rfl rfl rfl (by decide +kernel) ⟨Nat.le_of_ble_eq_true rfl, Nat.le_of_ble_eq_true rfl⟩) rfl (Nat.le_of_ble_eq_true rfl) ⟨by omega, by omega⟩ rfl dL_law_1315 (fun r3 M3 hw3 => ?_)
  obtain ⟨e3, S3⟩ := hw3
  rw [e3]
  exact V_widen (k1 := k + 8) (n1 := n + 60) (by omega) (by omega) (V_icmp_eq (tgt := 2145) X ir ir dL_law_1318 (by decide) (fun _ => K C' M3 S3) (fun z => absurd rfl z))
end CASES
