/-! THE LAW, 2: a call of each -/
set_option maxRecDepth 100000 in
set_option maxHeartbeats 4000000 in
theorem law_judge {p : Program} {l : Launch} {e : Env} {s : State} {m : MethodId} {below : List Frame} {meth : Method} {c : Code} {b L i n : Nat} {xs : Nat → Int32} {D : va_G} {cy : Nat → ClassId} {st sk sv : Nat → Nat} {qk qm : Nat → Nat} (X : LX p s m c b L xs D cy st sk sv) (hn : 300 ≤ n) (hi : i + 5 ≤ L) (nx : LI p l e s m below meth c b D cy qk qm i 1561) : LI p l e s m below meth c b D cy qk qm i 1165 := by
  intro uK uN uY uE uA uW uS uF uG uM u_s u_held u_aside u_before u_tape u_rows u_sortOf u_sizeOf u_numbers u_holdsWhat u_holdsWhich u_holdsMany u_bodies hR H locs ls hP hD hS hl
  obtain ⟨rT, rE, rA, rW, rS, rF, rG⟩ := hR
  have X' := X
  obtain ⟨hx, hb, hml, hown, hts, hX, hbl, hL, hG⟩ := X
  have hA : ∀ q : Nat, s.heap.size ≤ q → LQ s q := fun _ h => h
  have hAB : ∀ q : Nat, LQ s q → s.heap.size ≤ q := fun _ h => h
  obtain ⟨A, Y', s', a', e1, e2, rT1⟩ := p_judge (n := n) (uK := uK) (uN := uN) (uY := uY) (uW := uW) (uM := uM) (s := u_s) (a := u_aside) (rows := u_rows) hn rT rW (xs (i + 1))
  refine lv_aload_n hx hb dL_law_1165 rfl (lv_at hl 1 rfl) ?_
  refine law_arg X' hi hS hl 1 (by decide) (by decide) dL_law_1166 dL_law_1167 dL_law_1168 dL_law_1169 dL_law_1170 ?_
  refine lvw (o := some (.int A)) (As := [.int (xs (i + 1))]) (rest := []) (stk := [.int A]) ⟨hx, hb, hml, hown, hts⟩ (mX6_judge l D cy st sk sv s.heap.size (qk 0) (qk 1) (qk 7) (qk 13) (qk 19) (qk 21) (qk 23) (qk 24) (qk 25) (qk 2) (qk 3) (qk 4) (qk 5) (qk 6) (qk 8) (qk 9) (qk 10) (qk 11) (qk 12) (qk 22) _ n uK uN.1 uN.2.1 uN.2.2.1 uN.2.2.2.1 uN.2.2.2.2.1 uN.2.2.2.2.2.1 uN.2.2.2.2.2.2.1 uN.2.2.2.2.2.2.2.1 uN.2.2.2.2.2.2.2.2.1 uN.2.2.2.2.2.2.2.2.2 uY.1 uY.2.1 uY.2.2.1 uY.2.2.2.1 uY.2.2.2.2.1 uY.2.2.2.2.2.1 uY.2.2.2.2.2.2.1 uY.2.2.2.2.2.2.2.1 uY.2.2.2.2.2.2.2.2.1 uY.2.2.2.2.2.2.2.2.2 uW.1 uW.2 (xs (i + 1)) (A, Y') e1) (cwV 1 hts gL_law_X6_judge rfl rfl rfl (by decide +kernel) ⟨Nat.le_of_ble_eq_true rfl, Nat.le_of_ble_eq_true rfl⟩) ⟨Nat.le_of_ble_eq_true rfl, Nat.le_of_ble_eq_true rfl⟩ hG hS hAB hA hP hD [0, 1, 2, 3, 4, 5, 6, 7, 8, 9, 10, 11, 12, 21, 22] (by decide) rfl rfl rfl rfl 0 6 rfl rfl rfl rfl hl.1 rfl (Nat.le_of_ble_eq_true rfl) dL_law_1171 rfl (fun H locs hP hD hS => ?_)
  have hP : va_P D vwCl (WK cy qk uK uN Y' uE uA uW uS uF uG ++ WM cy qm uM u_s u_held u_aside u_before u_tape u_rows u_sortOf u_sizeOf u_numbers u_holdsWhat u_holdsWhich u_holdsMany u_bodies) H := hP
  have hD : va_D (LQ s) (WK cy qk uK uN Y' uE uA uW uS uF uG ++ WM cy qm uM u_s u_held u_aside u_before u_tape u_rows u_sortOf u_sizeOf u_numbers u_holdsWhat u_holdsWhich u_holdsMany u_bodies) := hD
  refine lv_aload_n hx hb dL_law_1174 rfl (lv_at hl 2 rfl) ?_
  refine law_arg X' hi hS hl 1 (by decide) (by decide) dL_law_1175 dL_law_1176 dL_law_1177 dL_law_1178 dL_law_1179 ?_
  refine lvw (o := some (.int A)) (As := [.int (xs (i + 1))]) (rest := [.int A]) (stk := [.int A, .int A]) ⟨hx, hb, hml, hown, hts⟩ (mX7_judge l D cy st sk sv s.heap.size (qm 0) (qm 1) (qm 2) (qm 3) (qm 4) (qm 5) (qm 6) (qm 7) (qm 8) (qm 9) (qm 10) (qm 11) (qm 12) (qm 13) _ n uM.1 uM.2.1 uM.2.2.1 uM.2.2.2.1 uM.2.2.2.2.1 uM.2.2.2.2.2.1 uM.2.2.2.2.2.2.1 uM.2.2.2.2.2.2.2.1 uM.2.2.2.2.2.2.2.2.1 uM.2.2.2.2.2.2.2.2.2.1 uM.2.2.2.2.2.2.2.2.2.2.1 uM.2.2.2.2.2.2.2.2.2.2.2.1 uM.2.2.2.2.2.2.2.2.2.2.2.2 u_s u_aside u_rows (xs (i + 1)) (A, s', a') e2) (cwV 1 hts gL_law_X7_judge rfl rfl rfl (by decide +kernel) ⟨Nat.le_of_ble_eq_true rfl, Nat.le_of_ble_eq_true rfl⟩) ⟨Nat.le_of_ble_eq_true rfl, Nat.le_of_ble_eq_true rfl⟩ hG hS hAB hA hP hD [39, 40, 42, 45] (by decide) rfl rfl rfl rfl 0 7 rfl rfl rfl rfl hl.1 rfl (Nat.le_of_ble_eq_true rfl) dL_law_1180 rfl (fun H locs hP hD hS => ?_)
  have hP : va_P D vwCl (WK cy qk uK uN Y' uE uA uW uS uF uG ++ WM cy qm uM s' u_held a' u_before u_tape u_rows u_sortOf u_sizeOf u_numbers u_holdsWhat u_holdsWhich u_holdsMany u_bodies) H := hP
  have hD : va_D (LQ s) (WK cy qk uK uN Y' uE uA uW uS uF uG ++ WM cy qm uM s' u_held a' u_before u_tape u_rows u_sortOf u_sizeOf u_numbers u_holdsWhat u_holdsWhich u_holdsMany u_bodies) := hD
  refine lv_icmp_eq (tgt := 1561) hx hb dL_law_1183 (by decide) (fun _ => ?_) (fun c9 => absurd rfl c9)
  exact nx uK uN Y' uE uA uW uS uF uG uM s' u_held a' u_before u_tape u_rows u_sortOf u_sizeOf u_numbers u_holdsWhat u_holdsWhich u_holdsMany u_bodies ⟨rT1, rE, rA, rW, rS, rF, rG⟩ H locs ls hP hD hS hl
set_option maxRecDepth 100000 in
set_option maxHeartbeats 4000000 in
theorem law_minds {p : Program} {l : Launch} {e : Env} {s : State} {m : MethodId} {below : List Frame} {meth : Method} {c : Code} {b L i n : Nat} {xs : Nat → Int32} {D : va_G} {cy : Nat → ClassId} {st sk sv : Nat → Nat} {qk qm : Nat → Nat} (X : LX p s m c b L xs D cy st sk sv) (hn : 300 ≤ n) (hi : i + 5 ≤ L) (nx : LI p l e s m below meth c b D cy qk qm i 1561) : LI p l e s m below meth c b D cy qk qm i 1188 := by
  intro uK uN uY uE uA uW uS uF uG uM u_s u_held u_aside u_before u_tape u_rows u_sortOf u_sizeOf u_numbers u_holdsWhat u_holdsWhich u_holdsMany u_bodies hR H locs ls hP hD hS hl
  obtain ⟨rT, rE, rA, rW, rS, rF, rG⟩ := hR
  have X' := X
  obtain ⟨hx, hb, hml, hown, hts, hX, hbl, hL, hG⟩ := X
  have hA : ∀ q : Nat, s.heap.size ≤ q → LQ s q := fun _ h => h
  have hAB : ∀ q : Nat, LQ s q → s.heap.size ≤ q := fun _ h => h
  obtain ⟨A, N', s', e1, e2, rT1⟩ := p_minds (n := n) (uK := uK) (uN := uN) (uS := uS) (uM := uM) (s := u_s) (so := u_sortOf) (sz := u_sizeOf) (nu := u_numbers) hn rT rS (xs (i + 1)) (xs (i + 2)) (xs (i + 3)) (xs (i + 4))
  refine lv_aload_n hx hb dL_law_1188 rfl (lv_at hl 1 rfl) ?_
  refine law_arg X' hi hS hl 1 (by decide) (by decide) dL_law_1189 dL_law_1190 dL_law_1191 dL_law_1192 dL_law_1193 ?_
  refine law_arg X' hi hS hl 2 (by decide) (by decide) dL_law_1194 dL_law_1195 dL_law_1196 dL_law_1197 dL_law_1198 ?_
  refine law_arg X' hi hS hl 3 (by decide) (by decide) dL_law_1199 dL_law_1200 dL_law_1201 dL_law_1202 dL_law_1203 ?_
  refine law_arg X' hi hS hl 4 (by decide) (by decide) dL_law_1204 dL_law_1205 dL_law_1206 dL_law_1207 dL_law_1208 ?_
  refine lvw (o := some (.int A)) (As := [.int (xs (i + 1)), .int (xs (i + 2)), .int (xs (i + 3)), .int (xs (i + 4))]) (rest := []) (stk := [.int A]) ⟨hx, hb, hml, hown, hts⟩ (mX6_minds l D cy st sk sv s.heap.size (qk 0) (qk 1) (qk 7) (qk 13) (qk 19) (qk 21) (qk 23) (qk 24) (qk 25) (qk 2) (qk 3) (qk 4) (qk 5) (qk 6) (fun j => qk (27 + 2 * j)) (fun j => qk (28 + 2 * j)) _ n uK uN.1 uN.2.1 uN.2.2.1 uN.2.2.2.1 uN.2.2.2.2.1 uN.2.2.2.2.2.1 uN.2.2.2.2.2.2.1 uN.2.2.2.2.2.2.2.1 uN.2.2.2.2.2.2.2.2.1 uN.2.2.2.2.2.2.2.2.2 uS.1 uS.2.1 uS.2.2 (xs (i + 1)) (xs (i + 2)) (xs (i + 3)) (xs (i + 4)) (A, N') e1) (cwV 4 hts gL_law_X6_minds rfl rfl rfl (by decide +kernel) ⟨Nat.le_of_ble_eq_true rfl, Nat.le_of_ble_eq_true rfl⟩) ⟨Nat.le_of_ble_eq_true rfl, Nat.le_of_ble_eq_true rfl⟩ hG hS hAB hA hP hD [0, 1, 2, 3, 4, 5, 6, 23, 27, 28, 29, 30, 31, 32, 33, 34] (by decide) rfl rfl rfl rfl 0 6 rfl rfl rfl rfl hl.1 rfl (Nat.le_of_ble_eq_true rfl) dL_law_1209 rfl (fun H locs hP hD hS => ?_)
  have hP : va_P D vwCl (WK cy qk uK N' uY uE uA uW uS uF uG ++ WM cy qm uM u_s u_held u_aside u_before u_tape u_rows u_sortOf u_sizeOf u_numbers u_holdsWhat u_holdsWhich u_holdsMany u_bodies) H := hP
  have hD : va_D (LQ s) (WK cy qk uK N' uY uE uA uW uS uF uG ++ WM cy qm uM u_s u_held u_aside u_before u_tape u_rows u_sortOf u_sizeOf u_numbers u_holdsWhat u_holdsWhich u_holdsMany u_bodies) := hD
  refine lv_aload_n hx hb dL_law_1212 rfl (lv_at hl 2 rfl) ?_
  refine law_arg X' hi hS hl 1 (by decide) (by decide) dL_law_1213 dL_law_1214 dL_law_1215 dL_law_1216 dL_law_1217 ?_
  refine law_arg X' hi hS hl 2 (by decide) (by decide) dL_law_1218 dL_law_1219 dL_law_1220 dL_law_1221 dL_law_1222 ?_
  refine law_arg X' hi hS hl 3 (by decide) (by decide) dL_law_1223 dL_law_1224 dL_law_1225 dL_law_1226 dL_law_1227 ?_
  refine law_arg X' hi hS hl 4 (by decide) (by decide) dL_law_1228 dL_law_1229 dL_law_1230 dL_law_1231 dL_law_1232 ?_
  refine lvw (o := some (.int A)) (As := [.int (xs (i + 1)), .int (xs (i + 2)), .int (xs (i + 3)), .int (xs (i + 4))]) (rest := [.int A]) (stk := [.int A, .int A]) ⟨hx, hb, hml, hown, hts⟩ (mX7_minds l D cy st sk sv s.heap.size (qm 0) (qm 1) (qm 2) (qm 3) (qm 4) (qm 5) (qm 6) (qm 7) (qm 8) (qm 9) (qm 10) (qm 11) (qm 12) (qm 13) _ n uM.1 uM.2.1 uM.2.2.1 uM.2.2.2.1 uM.2.2.2.2.1 uM.2.2.2.2.2.1 uM.2.2.2.2.2.2.1 uM.2.2.2.2.2.2.2.1 uM.2.2.2.2.2.2.2.2.1 uM.2.2.2.2.2.2.2.2.2.1 uM.2.2.2.2.2.2.2.2.2.2.1 uM.2.2.2.2.2.2.2.2.2.2.2.1 uM.2.2.2.2.2.2.2.2.2.2.2.2 u_s u_sortOf u_sizeOf u_numbers (xs (i + 1)) (xs (i + 2)) (xs (i + 3)) (xs (i + 4)) (A, s') e2) (cwV 4 hts gL_law_X7_minds rfl rfl rfl (by decide +kernel) ⟨Nat.le_of_ble_eq_true rfl, Nat.le_of_ble_eq_true rfl⟩) ⟨Nat.le_of_ble_eq_true rfl, Nat.le_of_ble_eq_true rfl⟩ hG hS hAB hA hP hD [39, 40, 46, 47, 48] (by decide) rfl rfl rfl rfl 0 7 rfl rfl rfl rfl hl.1 rfl (Nat.le_of_ble_eq_true rfl) dL_law_1233 rfl (fun H locs hP hD hS => ?_)
  have hP : va_P D vwCl (WK cy qk uK N' uY uE uA uW uS uF uG ++ WM cy qm uM s' u_held u_aside u_before u_tape u_rows u_sortOf u_sizeOf u_numbers u_holdsWhat u_holdsWhich u_holdsMany u_bodies) H := hP
  have hD : va_D (LQ s) (WK cy qk uK N' uY uE uA uW uS uF uG ++ WM cy qm uM s' u_held u_aside u_before u_tape u_rows u_sortOf u_sizeOf u_numbers u_holdsWhat u_holdsWhich u_holdsMany u_bodies) := hD
  refine lv_icmp_eq (tgt := 1561) hx hb dL_law_1236 (by decide) (fun _ => ?_) (fun c9 => absurd rfl c9)
  exact nx uK N' uY uE uA uW uS uF uG uM s' u_held u_aside u_before u_tape u_rows u_sortOf u_sizeOf u_numbers u_holdsWhat u_holdsWhich u_holdsMany u_bodies ⟨rT1, rE, rA, rW, rS, rF, rG⟩ H locs ls hP hD hS hl
set_option maxRecDepth 100000 in
set_option maxHeartbeats 4000000 in
theorem law_sheet {p : Program} {l : Launch} {e : Env} {s : State} {m : MethodId} {below : List Frame} {meth : Method} {c : Code} {b L i n : Nat} {xs : Nat → Int32} {D : va_G} {cy : Nat → ClassId} {st sk sv : Nat → Nat} {qk qm : Nat → Nat} (X : LX p s m c b L xs D cy st sk sv) (hn : 300 ≤ n) (hi : i + 5 ≤ L) (nx : LI p l e s m below meth c b D cy qk qm i 1561) : LI p l e s m below meth c b D cy qk qm i 1241 := by
  intro uK uN uY uE uA uW uS uF uG uM u_s u_held u_aside u_before u_tape u_rows u_sortOf u_sizeOf u_numbers u_holdsWhat u_holdsWhich u_holdsMany u_bodies hR H locs ls hP hD hS hl
  obtain ⟨rT, rE, rA, rW, rS, rF, rG⟩ := hR
  have X' := X
  obtain ⟨hx, hb, hml, hown, hts, hX, hbl, hL, hG⟩ := X
  have hA : ∀ q : Nat, s.heap.size ≤ q → LQ s q := fun _ h => h
  have hAB : ∀ q : Nat, LQ s q → s.heap.size ≤ q := fun _ h => h
  obtain ⟨A, S', so', sz', nu', e1, e2, rS1⟩ := p_sheet (n := n) (uK := uK) (uS := uS) (uM := uM) (so := u_sortOf) (sz := u_sizeOf) (nu := u_numbers) hn rS (xs (i + 1)) (xs (i + 2)) (xs (i + 3))
  refine lv_aload_n hx hb dL_law_1241 rfl (lv_at hl 1 rfl) ?_
  refine law_arg X' hi hS hl 1 (by decide) (by decide) dL_law_1242 dL_law_1243 dL_law_1244 dL_law_1245 dL_law_1246 ?_
  refine law_arg X' hi hS hl 2 (by decide) (by decide) dL_law_1247 dL_law_1248 dL_law_1249 dL_law_1250 dL_law_1251 ?_
  refine law_arg X' hi hS hl 3 (by decide) (by decide) dL_law_1252 dL_law_1253 dL_law_1254 dL_law_1255 dL_law_1256 ?_
  refine lvw (o := some (.int A)) (As := [.int (xs (i + 1)), .int (xs (i + 2)), .int (xs (i + 3))]) (rest := []) (stk := [.int A]) ⟨hx, hb, hml, hown, hts⟩ (mX6_sheet l D cy st sk sv s.heap.size (qk 0) (qk 1) (qk 7) (qk 13) (qk 19) (qk 21) (qk 23) (qk 24) (qk 25) (fun j => qk (27 + 2 * j)) (fun j => qk (28 + 2 * j)) _ n uK uS.1 uS.2.1 uS.2.2 (xs (i + 1)) (xs (i + 2)) (xs (i + 3)) (A, S') e1) (cwV 3 hts gL_law_X6_sheet rfl rfl rfl (by decide +kernel) ⟨Nat.le_of_ble_eq_true rfl, Nat.le_of_ble_eq_true rfl⟩) ⟨Nat.le_of_ble_eq_true rfl, Nat.le_of_ble_eq_true rfl⟩ hG hS hAB hA hP hD [0, 23, 27, 28, 29, 30, 31, 32, 33, 34] (by decide) rfl rfl rfl rfl 0 6 rfl rfl rfl rfl hl.1 rfl (Nat.le_of_ble_eq_true rfl) dL_law_1257 rfl (fun H locs hP hD hS => ?_)
  have hP : va_P D vwCl (WK cy qk uK uN uY uE uA uW S' uF uG ++ WM cy qm uM u_s u_held u_aside u_before u_tape u_rows u_sortOf u_sizeOf u_numbers u_holdsWhat u_holdsWhich u_holdsMany u_bodies) H := hP
  have hD : va_D (LQ s) (WK cy qk uK uN uY uE uA uW S' uF uG ++ WM cy qm uM u_s u_held u_aside u_before u_tape u_rows u_sortOf u_sizeOf u_numbers u_holdsWhat u_holdsWhich u_holdsMany u_bodies) := hD
  refine lv_aload_n hx hb dL_law_1260 rfl (lv_at hl 2 rfl) ?_
  refine law_arg X' hi hS hl 1 (by decide) (by decide) dL_law_1261 dL_law_1262 dL_law_1263 dL_law_1264 dL_law_1265 ?_
  refine law_arg X' hi hS hl 2 (by decide) (by decide) dL_law_1266 dL_law_1267 dL_law_1268 dL_law_1269 dL_law_1270 ?_
  refine law_arg X' hi hS hl 3 (by decide) (by decide) dL_law_1271 dL_law_1272 dL_law_1273 dL_law_1274 dL_law_1275 ?_
  refine lvw (o := some (.int A)) (As := [.int (xs (i + 1)), .int (xs (i + 2)), .int (xs (i + 3))]) (rest := [.int A]) (stk := [.int A, .int A]) ⟨hx, hb, hml, hown, hts⟩ (mX7_sheet l D cy st sk sv s.heap.size (qm 0) (qm 1) (qm 2) (qm 3) (qm 4) (qm 5) (qm 6) (qm 7) (qm 8) (qm 9) (qm 10) (qm 11) (qm 12) (qm 13) _ n uM.1 uM.2.1 uM.2.2.1 uM.2.2.2.1 uM.2.2.2.2.1 uM.2.2.2.2.2.1 uM.2.2.2.2.2.2.1 uM.2.2.2.2.2.2.2.1 uM.2.2.2.2.2.2.2.2.1 uM.2.2.2.2.2.2.2.2.2.1 uM.2.2.2.2.2.2.2.2.2.2.1 uM.2.2.2.2.2.2.2.2.2.2.2.1 uM.2.2.2.2.2.2.2.2.2.2.2.2 u_sortOf u_sizeOf u_numbers (xs (i + 1)) (xs (i + 2)) (xs (i + 3)) (A, so', sz', nu') e2) (cwV 3 hts gL_law_X7_sheet rfl rfl rfl (by decide +kernel) ⟨Nat.le_of_ble_eq_true rfl, Nat.le_of_ble_eq_true rfl⟩) ⟨Nat.le_of_ble_eq_true rfl, Nat.le_of_ble_eq_true rfl⟩ hG hS hAB hA hP hD [39, 46, 47, 48] (by decide) rfl rfl rfl rfl 0 7 rfl rfl rfl rfl hl.1 rfl (Nat.le_of_ble_eq_true rfl) dL_law_1276 rfl (fun H locs hP hD hS => ?_)
  have hP : va_P D vwCl (WK cy qk uK uN uY uE uA uW S' uF uG ++ WM cy qm uM u_s u_held u_aside u_before u_tape u_rows so' sz' nu' u_holdsWhat u_holdsWhich u_holdsMany u_bodies) H := hP
  have hD : va_D (LQ s) (WK cy qk uK uN uY uE uA uW S' uF uG ++ WM cy qm uM u_s u_held u_aside u_before u_tape u_rows so' sz' nu' u_holdsWhat u_holdsWhich u_holdsMany u_bodies) := hD
  refine lv_icmp_eq (tgt := 1561) hx hb dL_law_1279 (by decide) (fun _ => ?_) (fun c9 => absurd rfl c9)
  exact nx uK uN uY uE uA uW S' uF uG uM u_s u_held u_aside u_before u_tape u_rows so' sz' nu' u_holdsWhat u_holdsWhich u_holdsMany u_bodies ⟨rT, rE, rA, rW, rS1, rF, rG⟩ H locs ls hP hD hS hl
set_option maxRecDepth 100000 in
set_option maxHeartbeats 4000000 in
theorem law_put {p : Program} {l : Launch} {e : Env} {s : State} {m : MethodId} {below : List Frame} {meth : Method} {c : Code} {b L i n : Nat} {xs : Nat → Int32} {D : va_G} {cy : Nat → ClassId} {st sk sv : Nat → Nat} {qk qm : Nat → Nat} (X : LX p s m c b L xs D cy st sk sv) (hn : 300 ≤ n) (hi : i + 5 ≤ L) (nx : LI p l e s m below meth c b D cy qk qm i 1561) : LI p l e s m below meth c b D cy qk qm i 1284 := by
  intro uK uN uY uE uA uW uS uF uG uM u_s u_held u_aside u_before u_tape u_rows u_sortOf u_sizeOf u_numbers u_holdsWhat u_holdsWhich u_holdsMany u_bodies hR H locs ls hP hD hS hl
  obtain ⟨rT, rE, rA, rW, rS, rF, rG⟩ := hR
  have X' := X
  obtain ⟨hx, hb, hml, hown, hts, hX, hbl, hL, hG⟩ := X
  have hA : ∀ q : Nat, s.heap.size ≤ q → LQ s q := fun _ h => h
  have hAB : ∀ q : Nat, LQ s q → s.heap.size ≤ q := fun _ h => h
  obtain ⟨A, S', nu', e1, e2, rS1⟩ := p_put (n := n) (uK := uK) (uS := uS) (uM := uM) (so := u_sortOf) (sz := u_sizeOf) (nu := u_numbers) rS (xs (i + 1)) (xs (i + 2)) (xs (i + 3))
  refine lv_aload_n hx hb dL_law_1284 rfl (lv_at hl 1 rfl) ?_
  refine law_arg X' hi hS hl 1 (by decide) (by decide) dL_law_1285 dL_law_1286 dL_law_1287 dL_law_1288 dL_law_1289 ?_
  refine law_arg X' hi hS hl 2 (by decide) (by decide) dL_law_1290 dL_law_1291 dL_law_1292 dL_law_1293 dL_law_1294 ?_
  refine law_arg X' hi hS hl 3 (by decide) (by decide) dL_law_1295 dL_law_1296 dL_law_1297 dL_law_1298 dL_law_1299 ?_
  refine lvw (o := some (.int A)) (As := [.int (xs (i + 1)), .int (xs (i + 2)), .int (xs (i + 3))]) (rest := []) (stk := [.int A]) ⟨hx, hb, hml, hown, hts⟩ (mX6_put l D cy st sk sv s.heap.size (qk 0) (qk 1) (qk 7) (qk 13) (qk 19) (qk 21) (qk 23) (qk 24) (qk 25) (fun j => qk (27 + 2 * j)) (fun j => qk (28 + 2 * j)) _ n uK uS.1 uS.2.1 uS.2.2 (xs (i + 1)) (xs (i + 2)) (xs (i + 3)) (A, S') e1) (cwV 3 hts gL_law_X6_put rfl rfl rfl (by decide +kernel) ⟨Nat.le_of_ble_eq_true rfl, Nat.le_of_ble_eq_true rfl⟩) ⟨Nat.le_of_ble_eq_true rfl, Nat.le_of_ble_eq_true rfl⟩ hG hS hAB hA hP hD [0, 23, 27, 28, 29, 30, 31, 32, 33, 34] (by decide) rfl rfl rfl rfl 0 6 rfl rfl rfl rfl hl.1 rfl (Nat.le_of_ble_eq_true rfl) dL_law_1300 rfl (fun H locs hP hD hS => ?_)
  have hP : va_P D vwCl (WK cy qk uK uN uY uE uA uW S' uF uG ++ WM cy qm uM u_s u_held u_aside u_before u_tape u_rows u_sortOf u_sizeOf u_numbers u_holdsWhat u_holdsWhich u_holdsMany u_bodies) H := hP
  have hD : va_D (LQ s) (WK cy qk uK uN uY uE uA uW S' uF uG ++ WM cy qm uM u_s u_held u_aside u_before u_tape u_rows u_sortOf u_sizeOf u_numbers u_holdsWhat u_holdsWhich u_holdsMany u_bodies) := hD
  refine lv_aload_n hx hb dL_law_1303 rfl (lv_at hl 2 rfl) ?_
  refine law_arg X' hi hS hl 1 (by decide) (by decide) dL_law_1304 dL_law_1305 dL_law_1306 dL_law_1307 dL_law_1308 ?_
  refine law_arg X' hi hS hl 2 (by decide) (by decide) dL_law_1309 dL_law_1310 dL_law_1311 dL_law_1312 dL_law_1313 ?_
  refine law_arg X' hi hS hl 3 (by decide) (by decide) dL_law_1314 dL_law_1315 dL_law_1316 dL_law_1317 dL_law_1318 ?_
  refine lvw (o := some (.int A)) (As := [.int (xs (i + 1)), .int (xs (i + 2)), .int (xs (i + 3))]) (rest := [.int A]) (stk := [.int A, .int A]) ⟨hx, hb, hml, hown, hts⟩ (mX7_put l D cy st sk sv s.heap.size (qm 0) (qm 1) (qm 2) (qm 3) (qm 4) (qm 5) (qm 6) (qm 7) (qm 8) (qm 9) (qm 10) (qm 11) (qm 12) (qm 13) _ n uM.1 uM.2.1 uM.2.2.1 uM.2.2.2.1 uM.2.2.2.2.1 uM.2.2.2.2.2.1 uM.2.2.2.2.2.2.1 uM.2.2.2.2.2.2.2.1 uM.2.2.2.2.2.2.2.2.1 uM.2.2.2.2.2.2.2.2.2.1 uM.2.2.2.2.2.2.2.2.2.2.1 uM.2.2.2.2.2.2.2.2.2.2.2.1 uM.2.2.2.2.2.2.2.2.2.2.2.2 u_sortOf u_sizeOf u_numbers (xs (i + 1)) (xs (i + 2)) (xs (i + 3)) (A, nu') e2) (cwV 3 hts gL_law_X7_put rfl rfl rfl (by decide +kernel) ⟨Nat.le_of_ble_eq_true rfl, Nat.le_of_ble_eq_true rfl⟩) ⟨Nat.le_of_ble_eq_true rfl, Nat.le_of_ble_eq_true rfl⟩ hG hS hAB hA hP hD [39, 46, 47, 48] (by decide) rfl rfl rfl rfl 0 7 rfl rfl rfl rfl hl.1 rfl (Nat.le_of_ble_eq_true rfl) dL_law_1319 rfl (fun H locs hP hD hS => ?_)
  have hP : va_P D vwCl (WK cy qk uK uN uY uE uA uW S' uF uG ++ WM cy qm uM u_s u_held u_aside u_before u_tape u_rows u_sortOf u_sizeOf nu' u_holdsWhat u_holdsWhich u_holdsMany u_bodies) H := hP
  have hD : va_D (LQ s) (WK cy qk uK uN uY uE uA uW S' uF uG ++ WM cy qm uM u_s u_held u_aside u_before u_tape u_rows u_sortOf u_sizeOf nu' u_holdsWhat u_holdsWhich u_holdsMany u_bodies) := hD
  refine lv_icmp_eq (tgt := 1561) hx hb dL_law_1322 (by decide) (fun _ => ?_) (fun c9 => absurd rfl c9)
  exact nx uK uN uY uE uA uW S' uF uG uM u_s u_held u_aside u_before u_tape u_rows u_sortOf u_sizeOf nu' u_holdsWhat u_holdsWhich u_holdsMany u_bodies ⟨rT, rE, rA, rW, rS1, rF, rG⟩ H locs ls hP hD hS hl
set_option maxRecDepth 100000 in
set_option maxHeartbeats 4000000 in
theorem law_item {p : Program} {l : Launch} {e : Env} {s : State} {m : MethodId} {below : List Frame} {meth : Method} {c : Code} {b L i n : Nat} {xs : Nat → Int32} {D : va_G} {cy : Nat → ClassId} {st sk sv : Nat → Nat} {qk qm : Nat → Nat} (X : LX p s m c b L xs D cy st sk sv) (hn : 300 ≤ n) (hi : i + 5 ≤ L) (nx : LI p l e s m below meth c b D cy qk qm i 1561) : LI p l e s m below meth c b D cy qk qm i 1327 := by
  intro uK uN uY uE uA uW uS uF uG uM u_s u_held u_aside u_before u_tape u_rows u_sortOf u_sizeOf u_numbers u_holdsWhat u_holdsWhich u_holdsMany u_bodies hR H locs ls hP hD hS hl
  obtain ⟨rT, rE, rA, rW, rS, rF, rG⟩ := hR
  have X' := X
  obtain ⟨hx, hb, hml, hown, hts, hX, hbl, hL, hG⟩ := X
  have hA : ∀ q : Nat, s.heap.size ≤ q → LQ s q := fun _ h => h
  have hAB : ∀ q : Nat, LQ s q → s.heap.size ≤ q := fun _ h => h
  obtain ⟨A, e1, e2⟩ := p_item (n := n) (uK := uK) (uS := uS) (uM := uM) (so := u_sortOf) (sz := u_sizeOf) (nu := u_numbers) rS (xs (i + 1)) (xs (i + 2)) (xs (i + 3))
  refine lv_aload_n hx hb dL_law_1327 rfl (lv_at hl 1 rfl) ?_
  refine law_arg X' hi hS hl 1 (by decide) (by decide) dL_law_1328 dL_law_1329 dL_law_1330 dL_law_1331 dL_law_1332 ?_
  refine law_arg X' hi hS hl 2 (by decide) (by decide) dL_law_1333 dL_law_1334 dL_law_1335 dL_law_1336 dL_law_1337 ?_
  refine law_arg X' hi hS hl 3 (by decide) (by decide) dL_law_1338 dL_law_1339 dL_law_1340 dL_law_1341 dL_law_1342 ?_
  refine lvr (o := some (.int A)) (As := [.int (xs (i + 1)), .int (xs (i + 2)), .int (xs (i + 3))]) (rest := []) (stk := [.int A]) ⟨hx, hb, hml, hown, hts⟩ (mX6_item l D cy st sk sv s.heap.size (qk 0) (qk 1) (qk 7) (qk 13) (qk 19) (qk 21) (qk 23) (qk 24) (qk 25) (fun j => qk (27 + 2 * j)) (fun j => qk (28 + 2 * j)) n uK uS.1 uS.2.1 uS.2.2 (xs (i + 1)) (xs (i + 2)) (xs (i + 3)) A e1) (cwV 3 hts gL_law_X6_item rfl rfl rfl (by decide +kernel) ⟨Nat.le_of_ble_eq_true rfl, Nat.le_of_ble_eq_true rfl⟩) ⟨Nat.le_of_ble_eq_true rfl, Nat.le_of_ble_eq_true rfl⟩ hG hS hAB hP [0, 23, 27, 28, 29, 30, 31, 32, 33, 34] rfl 0 6 rfl rfl rfl rfl hl.1 rfl (Nat.le_of_ble_eq_true rfl) dL_law_1343 rfl ?_
  refine lv_aload_n hx hb dL_law_1346 rfl (lv_at hl 2 rfl) ?_
  refine law_arg X' hi hS hl 1 (by decide) (by decide) dL_law_1347 dL_law_1348 dL_law_1349 dL_law_1350 dL_law_1351 ?_
  refine law_arg X' hi hS hl 2 (by decide) (by decide) dL_law_1352 dL_law_1353 dL_law_1354 dL_law_1355 dL_law_1356 ?_
  refine law_arg X' hi hS hl 3 (by decide) (by decide) dL_law_1357 dL_law_1358 dL_law_1359 dL_law_1360 dL_law_1361 ?_
  refine lvr (o := some (.int A)) (As := [.int (xs (i + 1)), .int (xs (i + 2)), .int (xs (i + 3))]) (rest := [.int A]) (stk := [.int A, .int A]) ⟨hx, hb, hml, hown, hts⟩ (mX7_item l D cy st sk sv s.heap.size (qm 0) (qm 1) (qm 2) (qm 3) (qm 4) (qm 5) (qm 6) (qm 7) (qm 8) (qm 9) (qm 10) (qm 11) (qm 12) (qm 13) n uM.1 uM.2.1 uM.2.2.1 uM.2.2.2.1 uM.2.2.2.2.1 uM.2.2.2.2.2.1 uM.2.2.2.2.2.2.1 uM.2.2.2.2.2.2.2.1 uM.2.2.2.2.2.2.2.2.1 uM.2.2.2.2.2.2.2.2.2.1 uM.2.2.2.2.2.2.2.2.2.2.1 uM.2.2.2.2.2.2.2.2.2.2.2.1 uM.2.2.2.2.2.2.2.2.2.2.2.2 u_sortOf u_sizeOf u_numbers (xs (i + 1)) (xs (i + 2)) (xs (i + 3)) A e2) (cwV 3 hts gL_law_X7_item rfl rfl rfl (by decide +kernel) ⟨Nat.le_of_ble_eq_true rfl, Nat.le_of_ble_eq_true rfl⟩) ⟨Nat.le_of_ble_eq_true rfl, Nat.le_of_ble_eq_true rfl⟩ hG hS hAB hP [39, 46, 47, 48] rfl 0 7 rfl rfl rfl rfl hl.1 rfl (Nat.le_of_ble_eq_true rfl) dL_law_1362 rfl ?_
  refine lv_icmp_eq (tgt := 1561) hx hb dL_law_1365 (by decide) (fun _ => ?_) (fun c9 => absurd rfl c9)
  exact nx uK uN uY uE uA uW uS uF uG uM u_s u_held u_aside u_before u_tape u_rows u_sortOf u_sizeOf u_numbers u_holdsWhat u_holdsWhich u_holdsMany u_bodies ⟨rT, rE, rA, rW, rS, rF, rG⟩ H locs ls hP hD hS hl
set_option maxRecDepth 100000 in
set_option maxHeartbeats 4000000 in
theorem law_shelf {p : Program} {l : Launch} {e : Env} {s : State} {m : MethodId} {below : List Frame} {meth : Method} {c : Code} {b L i n : Nat} {xs : Nat → Int32} {D : va_G} {cy : Nat → ClassId} {st sk sv : Nat → Nat} {qk qm : Nat → Nat} (X : LX p s m c b L xs D cy st sk sv) (hn : 300 ≤ n) (hi : i + 5 ≤ L) (nx : LI p l e s m below meth c b D cy qk qm i 1561) : LI p l e s m below meth c b D cy qk qm i 1370 := by
  intro uK uN uY uE uA uW uS uF uG uM u_s u_held u_aside u_before u_tape u_rows u_sortOf u_sizeOf u_numbers u_holdsWhat u_holdsWhich u_holdsMany u_bodies hR H locs ls hP hD hS hl
  obtain ⟨rT, rE, rA, rW, rS, rF, rG⟩ := hR
  have X' := X
  obtain ⟨hx, hb, hml, hown, hts, hX, hbl, hL, hG⟩ := X
  have hA : ∀ q : Nat, s.heap.size ≤ q → LQ s q := fun _ h => h
  have hAB : ∀ q : Nat, LQ s q → s.heap.size ≤ q := fun _ h => h
  obtain ⟨A, F', hw', hi', hm', e1, e2, rF1⟩ := p_shelf (n := n) (uK := uK) (uN := uN) (uS := uS) (uF := uF) (uM := uM) (s := u_s) (so := u_sortOf) (sz := u_sizeOf) (nu := u_numbers) (hw := u_holdsWhat) (hi := u_holdsWhich) (hm := u_holdsMany) rT rS rF (xs (i + 1)) (xs (i + 2)) (xs (i + 3))
  refine lv_aload_n hx hb dL_law_1370 rfl (lv_at hl 1 rfl) ?_
  refine law_arg X' hi hS hl 1 (by decide) (by decide) dL_law_1371 dL_law_1372 dL_law_1373 dL_law_1374 dL_law_1375 ?_
  refine law_arg X' hi hS hl 2 (by decide) (by decide) dL_law_1376 dL_law_1377 dL_law_1378 dL_law_1379 dL_law_1380 ?_
  refine law_arg X' hi hS hl 3 (by decide) (by decide) dL_law_1381 dL_law_1382 dL_law_1383 dL_law_1384 dL_law_1385 ?_
  refine lvw (o := some (.int A)) (As := [.int (xs (i + 1)), .int (xs (i + 2)), .int (xs (i + 3))]) (rest := []) (stk := [.int A]) ⟨hx, hb, hml, hown, hts⟩ (mX6_shelf l D cy st sk sv s.heap.size (qk 0) (qk 1) (qk 7) (qk 13) (qk 19) (qk 21) (qk 23) (qk 24) (qk 25) (qk 2) (qk 3) (qk 4) (qk 5) (qk 6) (fun j => qk (27 + 2 * j)) (fun j => qk (28 + 2 * j)) (fun j => qk (35 + j)) _ n uK uN.1 uN.2.1 uN.2.2.1 uN.2.2.2.1 uN.2.2.2.2.1 uN.2.2.2.2.2.1 uN.2.2.2.2.2.2.1 uN.2.2.2.2.2.2.2.1 uN.2.2.2.2.2.2.2.2.1 uN.2.2.2.2.2.2.2.2.2 uS.1 uS.2.1 uS.2.2 uF.1 uF.2.1 uF.2.2.1 uF.2.2.2 (xs (i + 1)) (xs (i + 2)) (xs (i + 3)) (A, F') e1) (cwV 3 hts gL_law_X6_shelf rfl rfl rfl (by decide +kernel) ⟨Nat.le_of_ble_eq_true rfl, Nat.le_of_ble_eq_true rfl⟩) ⟨Nat.le_of_ble_eq_true rfl, Nat.le_of_ble_eq_true rfl⟩ hG hS hAB hA hP hD [0, 1, 2, 3, 4, 5, 6, 23, 27, 28, 29, 30, 31, 32, 33, 34, 24, 35, 36, 37, 38] (by decide) rfl rfl rfl rfl 0 6 rfl rfl rfl rfl hl.1 rfl (Nat.le_of_ble_eq_true rfl) dL_law_1386 rfl (fun H locs hP hD hS => ?_)
  have hP : va_P D vwCl (WK cy qk uK uN uY uE uA uW uS F' uG ++ WM cy qm uM u_s u_held u_aside u_before u_tape u_rows u_sortOf u_sizeOf u_numbers u_holdsWhat u_holdsWhich u_holdsMany u_bodies) H := hP
  have hD : va_D (LQ s) (WK cy qk uK uN uY uE uA uW uS F' uG ++ WM cy qm uM u_s u_held u_aside u_before u_tape u_rows u_sortOf u_sizeOf u_numbers u_holdsWhat u_holdsWhich u_holdsMany u_bodies) := hD
  refine lv_aload_n hx hb dL_law_1389 rfl (lv_at hl 2 rfl) ?_
  refine law_arg X' hi hS hl 1 (by decide) (by decide) dL_law_1390 dL_law_1391 dL_law_1392 dL_law_1393 dL_law_1394 ?_
  refine law_arg X' hi hS hl 2 (by decide) (by decide) dL_law_1395 dL_law_1396 dL_law_1397 dL_law_1398 dL_law_1399 ?_
  refine law_arg X' hi hS hl 3 (by decide) (by decide) dL_law_1400 dL_law_1401 dL_law_1402 dL_law_1403 dL_law_1404 ?_
  refine lvw (o := some (.int A)) (As := [.int (xs (i + 1)), .int (xs (i + 2)), .int (xs (i + 3))]) (rest := [.int A]) (stk := [.int A, .int A]) ⟨hx, hb, hml, hown, hts⟩ (mX7_shelf l D cy st sk sv s.heap.size (qm 0) (qm 1) (qm 2) (qm 3) (qm 4) (qm 5) (qm 6) (qm 7) (qm 8) (qm 9) (qm 10) (qm 11) (qm 12) (qm 13) _ n uM.1 uM.2.1 uM.2.2.1 uM.2.2.2.1 uM.2.2.2.2.1 uM.2.2.2.2.2.1 uM.2.2.2.2.2.2.1 uM.2.2.2.2.2.2.2.1 uM.2.2.2.2.2.2.2.2.1 uM.2.2.2.2.2.2.2.2.2.1 uM.2.2.2.2.2.2.2.2.2.2.1 uM.2.2.2.2.2.2.2.2.2.2.2.1 uM.2.2.2.2.2.2.2.2.2.2.2.2 u_s u_sortOf u_sizeOf u_holdsWhat u_holdsWhich u_holdsMany (xs (i + 1)) (xs (i + 2)) (xs (i + 3)) (A, hw', hi', hm') e2) (cwV 3 hts gL_law_X7_shelf rfl rfl rfl (by decide +kernel) ⟨Nat.le_of_ble_eq_true rfl, Nat.le_of_ble_eq_true rfl⟩) ⟨Nat.le_of_ble_eq_true rfl, Nat.le_of_ble_eq_true rfl⟩ hG hS hAB hA hP hD [39, 40, 46, 47, 49, 50, 51] (by decide) rfl rfl rfl rfl 0 7 rfl rfl rfl rfl hl.1 rfl (Nat.le_of_ble_eq_true rfl) dL_law_1405 rfl (fun H locs hP hD hS => ?_)
  have hP : va_P D vwCl (WK cy qk uK uN uY uE uA uW uS F' uG ++ WM cy qm uM u_s u_held u_aside u_before u_tape u_rows u_sortOf u_sizeOf u_numbers hw' hi' hm' u_bodies) H := hP
  have hD : va_D (LQ s) (WK cy qk uK uN uY uE uA uW uS F' uG ++ WM cy qm uM u_s u_held u_aside u_before u_tape u_rows u_sortOf u_sizeOf u_numbers hw' hi' hm' u_bodies) := hD
  refine lv_icmp_eq (tgt := 1561) hx hb dL_law_1408 (by decide) (fun _ => ?_) (fun c9 => absurd rfl c9)
  exact nx uK uN uY uE uA uW uS F' uG uM u_s u_held u_aside u_before u_tape u_rows u_sortOf u_sizeOf u_numbers hw' hi' hm' u_bodies ⟨rT, rE, rA, rW, rS, rF1, rG⟩ H locs ls hP hD hS hl
