/-! THE LAW, 2: a call of each -/
set_option maxRecDepth 100000 in
set_option maxHeartbeats 4000000 in
theorem law_fits {p : Program} {l : Launch} {e : Env} {s : State} {m : MethodId} {below : List Frame} {meth : Method} {c : Code} {b L i n : Nat} {xs : Nat → Int32} {D : va_G} {cy : Nat → ClassId} {st sk sv : Nat → Nat} {qk qm : Nat → Nat} (X : LX p s m c b L xs D cy st sk sv) (hn : 300 ≤ n) (hi : i + 5 ≤ L) (nx : LI p l e s m below meth c b D cy qk qm i 1561) : LI p l e s m below meth c b D cy qk qm i 935 := by
  intro uK uN uY uE uA uW uS uF uG uM u_s u_held u_aside u_before u_tape u_rows u_sortOf u_sizeOf u_numbers u_holdsWhat u_holdsWhich u_holdsMany u_bodies hR H locs ls hP hD hS hl
  obtain ⟨rT, rE, rA, rW, rS, rF, rG⟩ := hR
  have X' := X
  obtain ⟨hx, hb, hml, hown, hts, hX, hbl, hL, hG⟩ := X
  have hA : ∀ q : Nat, s.heap.size ≤ q → LQ s q := fun _ h => h
  have hAB : ∀ q : Nat, LQ s q → s.heap.size ≤ q := fun _ h => h
  obtain ⟨A, Y', s', a', e1, e2, rT1⟩ := p_fits (n := n) (uK := uK) (uN := uN) (uY := uY) (uS := uS) (uM := uM) (s := u_s) (a := u_aside) (so := u_sortOf) (sz := u_sizeOf) (nu := u_numbers) hn rT rS (xs (i + 1)) (xs (i + 2)) (xs (i + 3))
  refine lv_aload_n hx hb dL_law_935 rfl (lv_at hl 1 rfl) ?_
  refine law_arg X' hi hS hl 1 (by decide) (by decide) dL_law_936 dL_law_937 dL_law_938 dL_law_939 dL_law_940 ?_
  refine law_arg X' hi hS hl 2 (by decide) (by decide) dL_law_941 dL_law_942 dL_law_943 dL_law_944 dL_law_945 ?_
  refine law_arg X' hi hS hl 3 (by decide) (by decide) dL_law_946 dL_law_947 dL_law_948 dL_law_949 dL_law_950 ?_
  refine lvw (o := some (.int A)) (As := [.int (xs (i + 1)), .int (xs (i + 2)), .int (xs (i + 3))]) (rest := []) (stk := [.int A]) ⟨hx, hb, hml, hown, hts⟩ (mX6_fits l D cy st sk sv s.heap.size (qk 0) (qk 1) (qk 7) (qk 13) (qk 19) (qk 21) (qk 23) (qk 24) (qk 25) (qk 2) (qk 3) (qk 4) (qk 5) (qk 6) (qk 8) (qk 9) (qk 10) (qk 11) (qk 12) (fun j => qk (27 + 2 * j)) (fun j => qk (28 + 2 * j)) _ n uK uN.1 uN.2.1 uN.2.2.1 uN.2.2.2.1 uN.2.2.2.2.1 uN.2.2.2.2.2.1 uN.2.2.2.2.2.2.1 uN.2.2.2.2.2.2.2.1 uN.2.2.2.2.2.2.2.2.1 uN.2.2.2.2.2.2.2.2.2 uY.1 uY.2.1 uY.2.2.1 uY.2.2.2.1 uY.2.2.2.2.1 uY.2.2.2.2.2.1 uY.2.2.2.2.2.2.1 uY.2.2.2.2.2.2.2.1 uY.2.2.2.2.2.2.2.2.1 uY.2.2.2.2.2.2.2.2.2 uS.1 uS.2.1 uS.2.2 (xs (i + 1)) (xs (i + 2)) (xs (i + 3)) (A, Y') e1) (cwV 3 hts gL_law_X6_fits rfl rfl rfl (by decide +kernel) ⟨Nat.le_of_ble_eq_true rfl, Nat.le_of_ble_eq_true rfl⟩) ⟨Nat.le_of_ble_eq_true rfl, Nat.le_of_ble_eq_true rfl⟩ hG hS hAB hA hP hD [0, 1, 2, 3, 4, 5, 6, 7, 8, 9, 10, 11, 12, 23, 27, 28, 29, 30, 31, 32, 33, 34] (by decide) rfl rfl rfl rfl 0 6 rfl rfl rfl rfl hl.1 rfl (Nat.le_of_ble_eq_true rfl) dL_law_951 rfl (fun H locs hP hD hS => ?_)
  have hP : va_P D vwCl (WK cy qk uK uN Y' uE uA uW uS uF uG ++ WM cy qm uM u_s u_held u_aside u_before u_tape u_rows u_sortOf u_sizeOf u_numbers u_holdsWhat u_holdsWhich u_holdsMany u_bodies) H := hP
  have hD : va_D (LQ s) (WK cy qk uK uN Y' uE uA uW uS uF uG ++ WM cy qm uM u_s u_held u_aside u_before u_tape u_rows u_sortOf u_sizeOf u_numbers u_holdsWhat u_holdsWhich u_holdsMany u_bodies) := hD
  refine lv_aload_n hx hb dL_law_954 rfl (lv_at hl 2 rfl) ?_
  refine law_arg X' hi hS hl 1 (by decide) (by decide) dL_law_955 dL_law_956 dL_law_957 dL_law_958 dL_law_959 ?_
  refine law_arg X' hi hS hl 2 (by decide) (by decide) dL_law_960 dL_law_961 dL_law_962 dL_law_963 dL_law_964 ?_
  refine law_arg X' hi hS hl 3 (by decide) (by decide) dL_law_965 dL_law_966 dL_law_967 dL_law_968 dL_law_969 ?_
  refine lvw (o := some (.int A)) (As := [.int (xs (i + 1)), .int (xs (i + 2)), .int (xs (i + 3))]) (rest := [.int A]) (stk := [.int A, .int A]) ⟨hx, hb, hml, hown, hts⟩ (mX7_fits l D cy st sk sv s.heap.size (qm 0) (qm 1) (qm 2) (qm 3) (qm 4) (qm 5) (qm 6) (qm 7) (qm 8) (qm 9) (qm 10) (qm 11) (qm 12) (qm 13) _ n uM.1 uM.2.1 uM.2.2.1 uM.2.2.2.1 uM.2.2.2.2.1 uM.2.2.2.2.2.1 uM.2.2.2.2.2.2.1 uM.2.2.2.2.2.2.2.1 uM.2.2.2.2.2.2.2.2.1 uM.2.2.2.2.2.2.2.2.2.1 uM.2.2.2.2.2.2.2.2.2.2.1 uM.2.2.2.2.2.2.2.2.2.2.2.1 uM.2.2.2.2.2.2.2.2.2.2.2.2 u_s u_aside u_sortOf u_sizeOf u_numbers (xs (i + 1)) (xs (i + 2)) (xs (i + 3)) (A, s', a') e2) (cwV 3 hts gL_law_X7_fits rfl rfl rfl (by decide +kernel) ⟨Nat.le_of_ble_eq_true rfl, Nat.le_of_ble_eq_true rfl⟩) ⟨Nat.le_of_ble_eq_true rfl, Nat.le_of_ble_eq_true rfl⟩ hG hS hAB hA hP hD [39, 40, 42, 46, 47, 48] (by decide) rfl rfl rfl rfl 0 7 rfl rfl rfl rfl hl.1 rfl (Nat.le_of_ble_eq_true rfl) dL_law_970 rfl (fun H locs hP hD hS => ?_)
  have hP : va_P D vwCl (WK cy qk uK uN Y' uE uA uW uS uF uG ++ WM cy qm uM s' u_held a' u_before u_tape u_rows u_sortOf u_sizeOf u_numbers u_holdsWhat u_holdsWhich u_holdsMany u_bodies) H := hP
  have hD : va_D (LQ s) (WK cy qk uK uN Y' uE uA uW uS uF uG ++ WM cy qm uM s' u_held a' u_before u_tape u_rows u_sortOf u_sizeOf u_numbers u_holdsWhat u_holdsWhich u_holdsMany u_bodies) := hD
  refine lv_icmp_eq (tgt := 1561) hx hb dL_law_973 (by decide) (fun _ => ?_) (fun c9 => absurd rfl c9)
  exact nx uK uN Y' uE uA uW uS uF uG uM s' u_held a' u_before u_tape u_rows u_sortOf u_sizeOf u_numbers u_holdsWhat u_holdsWhich u_holdsMany u_bodies ⟨rT1, rE, rA, rW, rS, rF, rG⟩ H locs ls hP hD hS hl
set_option maxRecDepth 100000 in
set_option maxHeartbeats 4000000 in
theorem law_odds {p : Program} {l : Launch} {e : Env} {s : State} {m : MethodId} {below : List Frame} {meth : Method} {c : Code} {b L i n : Nat} {xs : Nat → Int32} {D : va_G} {cy : Nat → ClassId} {st sk sv : Nat → Nat} {qk qm : Nat → Nat} (X : LX p s m c b L xs D cy st sk sv) (hn : 300 ≤ n) (hi : i + 5 ≤ L) (nx : LI p l e s m below meth c b D cy qk qm i 1561) : LI p l e s m below meth c b D cy qk qm i 978 := by
  intro uK uN uY uE uA uW uS uF uG uM u_s u_held u_aside u_before u_tape u_rows u_sortOf u_sizeOf u_numbers u_holdsWhat u_holdsWhich u_holdsMany u_bodies hR H locs ls hP hD hS hl
  obtain ⟨rT, rE, rA, rW, rS, rF, rG⟩ := hR
  have X' := X
  obtain ⟨hx, hb, hml, hown, hts, hX, hbl, hL, hG⟩ := X
  have hA : ∀ q : Nat, s.heap.size ≤ q → LQ s q := fun _ h => h
  have hAB : ∀ q : Nat, LQ s q → s.heap.size ≤ q := fun _ h => h
  obtain ⟨A, e1, e2⟩ := p_odds (n := n) (uK := uK) (uN := uN) (uM := uM) (s := u_s) hn rT (xs (i + 1)) (xs (i + 2)) (xs (i + 3))
  refine lv_aload_n hx hb dL_law_978 rfl (lv_at hl 1 rfl) ?_
  refine law_arg X' hi hS hl 1 (by decide) (by decide) dL_law_979 dL_law_980 dL_law_981 dL_law_982 dL_law_983 ?_
  refine law_arg X' hi hS hl 2 (by decide) (by decide) dL_law_984 dL_law_985 dL_law_986 dL_law_987 dL_law_988 ?_
  refine law_arg X' hi hS hl 3 (by decide) (by decide) dL_law_989 dL_law_990 dL_law_991 dL_law_992 dL_law_993 ?_
  refine lvr (o := some (.long A)) (As := [.int (xs (i + 1)), .int (xs (i + 2)), .int (xs (i + 3))]) (rest := []) (stk := [.long A]) ⟨hx, hb, hml, hown, hts⟩ (mX6_odds l D cy st sk sv s.heap.size (qk 0) (qk 1) (qk 7) (qk 13) (qk 19) (qk 21) (qk 23) (qk 24) (qk 25) (qk 2) (qk 3) (qk 4) (qk 5) (qk 6) n uK uN.1 uN.2.1 uN.2.2.1 uN.2.2.2.1 uN.2.2.2.2.1 uN.2.2.2.2.2.1 uN.2.2.2.2.2.2.1 uN.2.2.2.2.2.2.2.1 uN.2.2.2.2.2.2.2.2.1 uN.2.2.2.2.2.2.2.2.2 (xs (i + 1)) (xs (i + 2)) (xs (i + 3)) A e1) (cwV 3 hts gL_law_X6_odds rfl rfl rfl (by decide +kernel) ⟨Nat.le_of_ble_eq_true rfl, Nat.le_of_ble_eq_true rfl⟩) ⟨Nat.le_of_ble_eq_true rfl, Nat.le_of_ble_eq_true rfl⟩ hG hS hAB hP [0, 1, 2, 3, 4, 5, 6] rfl 0 6 rfl rfl rfl rfl hl.1 rfl (Nat.le_of_ble_eq_true rfl) dL_law_994 rfl ?_
  refine lv_aload_n hx hb dL_law_997 rfl (lv_at hl 2 rfl) ?_
  refine law_arg X' hi hS hl 1 (by decide) (by decide) dL_law_998 dL_law_999 dL_law_1000 dL_law_1001 dL_law_1002 ?_
  refine law_arg X' hi hS hl 2 (by decide) (by decide) dL_law_1003 dL_law_1004 dL_law_1005 dL_law_1006 dL_law_1007 ?_
  refine law_arg X' hi hS hl 3 (by decide) (by decide) dL_law_1008 dL_law_1009 dL_law_1010 dL_law_1011 dL_law_1012 ?_
  refine lvr (o := some (.long A)) (As := [.int (xs (i + 1)), .int (xs (i + 2)), .int (xs (i + 3))]) (rest := [.long A]) (stk := [.long A, .long A]) ⟨hx, hb, hml, hown, hts⟩ (mX7_odds l D cy st sk sv s.heap.size (qm 0) (qm 1) (qm 2) (qm 3) (qm 4) (qm 5) (qm 6) (qm 7) (qm 8) (qm 9) (qm 10) (qm 11) (qm 12) (qm 13) n uM.1 uM.2.1 uM.2.2.1 uM.2.2.2.1 uM.2.2.2.2.1 uM.2.2.2.2.2.1 uM.2.2.2.2.2.2.1 uM.2.2.2.2.2.2.2.1 uM.2.2.2.2.2.2.2.2.1 uM.2.2.2.2.2.2.2.2.2.1 uM.2.2.2.2.2.2.2.2.2.2.1 uM.2.2.2.2.2.2.2.2.2.2.2.1 uM.2.2.2.2.2.2.2.2.2.2.2.2 u_s (xs (i + 1)) (xs (i + 2)) (xs (i + 3)) A e2) (cwV 3 hts gL_law_X7_odds rfl rfl rfl (by decide +kernel) ⟨Nat.le_of_ble_eq_true rfl, Nat.le_of_ble_eq_true rfl⟩) ⟨Nat.le_of_ble_eq_true rfl, Nat.le_of_ble_eq_true rfl⟩ hG hS hAB hP [39, 40] rfl 0 7 rfl rfl rfl rfl hl.1 rfl (Nat.le_of_ble_eq_true rfl) dL_law_1013 rfl ?_
  refine W.lcmp hx hb dL_law_1016 ?_
  rw [lg_same]
  refine lv_if_eq (tgt := 1561) hx hb dL_law_1017 (by decide) (fun _ => ?_) (fun c9 => absurd rfl c9)
  exact nx uK uN uY uE uA uW uS uF uG uM u_s u_held u_aside u_before u_tape u_rows u_sortOf u_sizeOf u_numbers u_holdsWhat u_holdsWhich u_holdsMany u_bodies ⟨rT, rE, rA, rW, rS, rF, rG⟩ H locs ls hP hD hS hl
set_option maxRecDepth 100000 in
set_option maxHeartbeats 4000000 in
theorem law_hope {p : Program} {l : Launch} {e : Env} {s : State} {m : MethodId} {below : List Frame} {meth : Method} {c : Code} {b L i n : Nat} {xs : Nat → Int32} {D : va_G} {cy : Nat → ClassId} {st sk sv : Nat → Nat} {qk qm : Nat → Nat} (X : LX p s m c b L xs D cy st sk sv) (hn : 300 ≤ n) (hi : i + 5 ≤ L) (nx : LI p l e s m below meth c b D cy qk qm i 1561) : LI p l e s m below meth c b D cy qk qm i 1022 := by
  intro uK uN uY uE uA uW uS uF uG uM u_s u_held u_aside u_before u_tape u_rows u_sortOf u_sizeOf u_numbers u_holdsWhat u_holdsWhich u_holdsMany u_bodies hR H locs ls hP hD hS hl
  obtain ⟨rT, rE, rA, rW, rS, rF, rG⟩ := hR
  have X' := X
  obtain ⟨hx, hb, hml, hown, hts, hX, hbl, hL, hG⟩ := X
  have hA : ∀ q : Nat, s.heap.size ≤ q → LQ s q := fun _ h => h
  have hAB : ∀ q : Nat, LQ s q → s.heap.size ≤ q := fun _ h => h
  obtain ⟨A, e1, e2⟩ := p_hope (n := n) (uK := uK) (uN := uN) (uM := uM) (s := u_s) hn rT (xs (i + 1)) (xs (i + 2))
  refine lv_aload_n hx hb dL_law_1022 rfl (lv_at hl 1 rfl) ?_
  refine law_arg X' hi hS hl 1 (by decide) (by decide) dL_law_1023 dL_law_1024 dL_law_1025 dL_law_1026 dL_law_1027 ?_
  refine law_arg X' hi hS hl 2 (by decide) (by decide) dL_law_1028 dL_law_1029 dL_law_1030 dL_law_1031 dL_law_1032 ?_
  refine lvr (o := some (.long A)) (As := [.int (xs (i + 1)), .int (xs (i + 2))]) (rest := []) (stk := [.long A]) ⟨hx, hb, hml, hown, hts⟩ (mX6_hope l D cy st sk sv s.heap.size (qk 0) (qk 1) (qk 7) (qk 13) (qk 19) (qk 21) (qk 23) (qk 24) (qk 25) (qk 2) (qk 3) (qk 4) (qk 5) (qk 6) n uK uN.1 uN.2.1 uN.2.2.1 uN.2.2.2.1 uN.2.2.2.2.1 uN.2.2.2.2.2.1 uN.2.2.2.2.2.2.1 uN.2.2.2.2.2.2.2.1 uN.2.2.2.2.2.2.2.2.1 uN.2.2.2.2.2.2.2.2.2 (xs (i + 1)) (xs (i + 2)) A e1) (cwV 2 hts gL_law_X6_hope rfl rfl rfl (by decide +kernel) ⟨Nat.le_of_ble_eq_true rfl, Nat.le_of_ble_eq_true rfl⟩) ⟨Nat.le_of_ble_eq_true rfl, Nat.le_of_ble_eq_true rfl⟩ hG hS hAB hP [0, 1, 2, 3, 4, 5, 6] rfl 0 6 rfl rfl rfl rfl hl.1 rfl (Nat.le_of_ble_eq_true rfl) dL_law_1033 rfl ?_
  refine lv_aload_n hx hb dL_law_1036 rfl (lv_at hl 2 rfl) ?_
  refine law_arg X' hi hS hl 1 (by decide) (by decide) dL_law_1037 dL_law_1038 dL_law_1039 dL_law_1040 dL_law_1041 ?_
  refine law_arg X' hi hS hl 2 (by decide) (by decide) dL_law_1042 dL_law_1043 dL_law_1044 dL_law_1045 dL_law_1046 ?_
  refine lvr (o := some (.long A)) (As := [.int (xs (i + 1)), .int (xs (i + 2))]) (rest := [.long A]) (stk := [.long A, .long A]) ⟨hx, hb, hml, hown, hts⟩ (mX7_hope l D cy st sk sv s.heap.size (qm 0) (qm 1) (qm 2) (qm 3) (qm 4) (qm 5) (qm 6) (qm 7) (qm 8) (qm 9) (qm 10) (qm 11) (qm 12) (qm 13) n uM.1 uM.2.1 uM.2.2.1 uM.2.2.2.1 uM.2.2.2.2.1 uM.2.2.2.2.2.1 uM.2.2.2.2.2.2.1 uM.2.2.2.2.2.2.2.1 uM.2.2.2.2.2.2.2.2.1 uM.2.2.2.2.2.2.2.2.2.1 uM.2.2.2.2.2.2.2.2.2.2.1 uM.2.2.2.2.2.2.2.2.2.2.2.1 uM.2.2.2.2.2.2.2.2.2.2.2.2 u_s (xs (i + 1)) (xs (i + 2)) A e2) (cwV 2 hts gL_law_X7_hope rfl rfl rfl (by decide +kernel) ⟨Nat.le_of_ble_eq_true rfl, Nat.le_of_ble_eq_true rfl⟩) ⟨Nat.le_of_ble_eq_true rfl, Nat.le_of_ble_eq_true rfl⟩ hG hS hAB hP [39, 40] rfl 0 7 rfl rfl rfl rfl hl.1 rfl (Nat.le_of_ble_eq_true rfl) dL_law_1047 rfl ?_
  refine W.lcmp hx hb dL_law_1050 ?_
  rw [lg_same]
  refine lv_if_eq (tgt := 1561) hx hb dL_law_1051 (by decide) (fun _ => ?_) (fun c9 => absurd rfl c9)
  exact nx uK uN uY uE uA uW uS uF uG uM u_s u_held u_aside u_before u_tape u_rows u_sortOf u_sizeOf u_numbers u_holdsWhat u_holdsWhich u_holdsMany u_bodies ⟨rT, rE, rA, rW, rS, rF, rG⟩ H locs ls hP hD hS hl
set_option maxRecDepth 100000 in
set_option maxHeartbeats 4000000 in
theorem law_prove {p : Program} {l : Launch} {e : Env} {s : State} {m : MethodId} {below : List Frame} {meth : Method} {c : Code} {b L i n : Nat} {xs : Nat → Int32} {D : va_G} {cy : Nat → ClassId} {st sk sv : Nat → Nat} {qk qm : Nat → Nat} (X : LX p s m c b L xs D cy st sk sv) (hn : 300 ≤ n) (hi : i + 5 ≤ L) (nx : LI p l e s m below meth c b D cy qk qm i 1561) : LI p l e s m below meth c b D cy qk qm i 1056 := by
  intro uK uN uY uE uA uW uS uF uG uM u_s u_held u_aside u_before u_tape u_rows u_sortOf u_sizeOf u_numbers u_holdsWhat u_holdsWhich u_holdsMany u_bodies hR H locs ls hP hD hS hl
  obtain ⟨rT, rE, rA, rW, rS, rF, rG⟩ := hR
  have X' := X
  obtain ⟨hx, hb, hml, hown, hts, hX, hbl, hL, hG⟩ := X
  have hA : ∀ q : Nat, s.heap.size ≤ q → LQ s q := fun _ h => h
  have hAB : ∀ q : Nat, LQ s q → s.heap.size ≤ q := fun _ h => h
  obtain ⟨A, Y', W', M', s', a', rows', e1, e2, rT1, r, hM, rW1⟩ := p_prove (n := n) (uK := uK) (uN := uN) (uY := uY) (uW := uW) (uM := uM) (s := u_s) (a := u_aside) (rows := u_rows) hn rT rW (xs (i + 1)) (xs (i + 2))
  subst hM
  refine lv_aload_n hx hb dL_law_1056 rfl (lv_at hl 1 rfl) ?_
  refine law_arg X' hi hS hl 1 (by decide) (by decide) dL_law_1057 dL_law_1058 dL_law_1059 dL_law_1060 dL_law_1061 ?_
  refine law_arg X' hi hS hl 2 (by decide) (by decide) dL_law_1062 dL_law_1063 dL_law_1064 dL_law_1065 dL_law_1066 ?_
  refine lvw (o := some (.int A)) (As := [.int (xs (i + 1)), .int (xs (i + 2))]) (rest := []) (stk := [.int A]) ⟨hx, hb, hml, hown, hts⟩ (mX6_prove l D cy st sk sv s.heap.size (qk 0) (qk 1) (qk 7) (qk 13) (qk 19) (qk 21) (qk 23) (qk 24) (qk 25) (qk 2) (qk 3) (qk 4) (qk 5) (qk 6) (qk 8) (qk 9) (qk 10) (qk 11) (qk 12) (qk 22) _ n uK uN.1 uN.2.1 uN.2.2.1 uN.2.2.2.1 uN.2.2.2.2.1 uN.2.2.2.2.2.1 uN.2.2.2.2.2.2.1 uN.2.2.2.2.2.2.2.1 uN.2.2.2.2.2.2.2.2.1 uN.2.2.2.2.2.2.2.2.2 uY.1 uY.2.1 uY.2.2.1 uY.2.2.2.1 uY.2.2.2.2.1 uY.2.2.2.2.2.1 uY.2.2.2.2.2.2.1 uY.2.2.2.2.2.2.2.1 uY.2.2.2.2.2.2.2.2.1 uY.2.2.2.2.2.2.2.2.2 uW.1 uW.2 (xs (i + 1)) (xs (i + 2)) (A, Y', W') e1) (cwV 2 hts gL_law_X6_prove rfl rfl rfl (by decide +kernel) ⟨Nat.le_of_ble_eq_true rfl, Nat.le_of_ble_eq_true rfl⟩) ⟨Nat.le_of_ble_eq_true rfl, Nat.le_of_ble_eq_true rfl⟩ hG hS hAB hA hP hD [0, 1, 2, 3, 4, 5, 6, 7, 8, 9, 10, 11, 12, 21, 22] (by decide) rfl rfl rfl rfl 0 6 rfl rfl rfl rfl hl.1 rfl (Nat.le_of_ble_eq_true rfl) dL_law_1067 rfl (fun H locs hP hD hS => ?_)
  have hP : va_P D vwCl (WK cy qk uK uN Y' uE uA W' uS uF uG ++ WM cy qm uM u_s u_held u_aside u_before u_tape u_rows u_sortOf u_sizeOf u_numbers u_holdsWhat u_holdsWhich u_holdsMany u_bodies) H := hP
  have hD : va_D (LQ s) (WK cy qk uK uN Y' uE uA W' uS uF uG ++ WM cy qm uM u_s u_held u_aside u_before u_tape u_rows u_sortOf u_sizeOf u_numbers u_holdsWhat u_holdsWhich u_holdsMany u_bodies) := hD
  refine lv_aload_n hx hb dL_law_1070 rfl (lv_at hl 2 rfl) ?_
  refine law_arg X' hi hS hl 1 (by decide) (by decide) dL_law_1071 dL_law_1072 dL_law_1073 dL_law_1074 dL_law_1075 ?_
  refine law_arg X' hi hS hl 2 (by decide) (by decide) dL_law_1076 dL_law_1077 dL_law_1078 dL_law_1079 dL_law_1080 ?_
  refine lvw (o := some (.int A)) (As := [.int (xs (i + 1)), .int (xs (i + 2))]) (rest := [.int A]) (stk := [.int A, .int A]) ⟨hx, hb, hml, hown, hts⟩ (mX7_prove l D cy st sk sv s.heap.size (qm 0) (qm 1) (qm 2) (qm 3) (qm 4) (qm 5) (qm 6) (qm 7) (qm 8) (qm 9) (qm 10) (qm 11) (qm 12) (qm 13) _ n uM.1 uM.2.1 uM.2.2.1 uM.2.2.2.1 uM.2.2.2.2.1 uM.2.2.2.2.2.1 uM.2.2.2.2.2.2.1 uM.2.2.2.2.2.2.2.1 uM.2.2.2.2.2.2.2.2.1 uM.2.2.2.2.2.2.2.2.2.1 uM.2.2.2.2.2.2.2.2.2.2.1 uM.2.2.2.2.2.2.2.2.2.2.2.1 uM.2.2.2.2.2.2.2.2.2.2.2.2 u_s u_aside u_rows (xs (i + 1)) (xs (i + 2)) (A, moRow uM r, s', a', rows') e2) (cwV 2 hts gL_law_X7_prove rfl rfl rfl (by decide +kernel) ⟨Nat.le_of_ble_eq_true rfl, Nat.le_of_ble_eq_true rfl⟩) ⟨Nat.le_of_ble_eq_true rfl, Nat.le_of_ble_eq_true rfl⟩ hG hS hAB hA hP hD [39, 40, 42, 45] (by decide) rfl rfl rfl rfl 0 7 rfl rfl rfl rfl hl.1 rfl (Nat.le_of_ble_eq_true rfl) dL_law_1081 rfl (fun H locs hP hD hS => ?_)
  have hP : va_P D vwCl (WK cy qk uK uN Y' uE uA W' uS uF uG ++ WM cy qm (moRow uM r) s' u_held a' u_before u_tape rows' u_sortOf u_sizeOf u_numbers u_holdsWhat u_holdsWhich u_holdsMany u_bodies) H := hP
  have hD : va_D (LQ s) (WK cy qk uK uN Y' uE uA W' uS uF uG ++ WM cy qm (moRow uM r) s' u_held a' u_before u_tape rows' u_sortOf u_sizeOf u_numbers u_holdsWhat u_holdsWhich u_holdsMany u_bodies) := hD
  refine lv_icmp_eq (tgt := 1561) hx hb dL_law_1084 (by decide) (fun _ => ?_) (fun c9 => absurd rfl c9)
  exact nx uK uN Y' uE uA W' uS uF uG (moRow uM r) s' u_held a' u_before u_tape rows' u_sortOf u_sizeOf u_numbers u_holdsWhat u_holdsWhich u_holdsMany u_bodies ⟨rT1, rE, rA, rW1, rS, rF, rG⟩ H locs ls hP hD hS hl
set_option maxRecDepth 100000 in
set_option maxHeartbeats 4000000 in
theorem law_row {p : Program} {l : Launch} {e : Env} {s : State} {m : MethodId} {below : List Frame} {meth : Method} {c : Code} {b L i n : Nat} {xs : Nat → Int32} {D : va_G} {cy : Nat → ClassId} {st sk sv : Nat → Nat} {qk qm : Nat → Nat} (X : LX p s m c b L xs D cy st sk sv) (hn : 300 ≤ n) (hi : i + 5 ≤ L) (nx : LI p l e s m below meth c b D cy qk qm i 1561) : LI p l e s m below meth c b D cy qk qm i 1089 := by
  intro uK uN uY uE uA uW uS uF uG uM u_s u_held u_aside u_before u_tape u_rows u_sortOf u_sizeOf u_numbers u_holdsWhat u_holdsWhich u_holdsMany u_bodies hR H locs ls hP hD hS hl
  obtain ⟨rT, rE, rA, rW, rS, rF, rG⟩ := hR
  have X' := X
  obtain ⟨hx, hb, hml, hown, hts, hX, hbl, hL, hG⟩ := X
  have hA : ∀ q : Nat, s.heap.size ≤ q → LQ s q := fun _ h => h
  have hAB : ∀ q : Nat, LQ s q → s.heap.size ≤ q := fun _ h => h
  obtain ⟨A, e1, e2⟩ := p_row (n := n) (uK := uK) (uW := uW) (uM := uM) (rows := u_rows) rW (xs (i + 1)) (xs (i + 2))
  refine lv_aload_n hx hb dL_law_1089 rfl (lv_at hl 1 rfl) ?_
  refine law_arg X' hi hS hl 1 (by decide) (by decide) dL_law_1090 dL_law_1091 dL_law_1092 dL_law_1093 dL_law_1094 ?_
  refine law_arg X' hi hS hl 2 (by decide) (by decide) dL_law_1095 dL_law_1096 dL_law_1097 dL_law_1098 dL_law_1099 ?_
  refine lvr (o := some (.int A)) (As := [.int (xs (i + 1)), .int (xs (i + 2))]) (rest := []) (stk := [.int A]) ⟨hx, hb, hml, hown, hts⟩ (mX6_row l D cy st sk sv s.heap.size (qk 0) (qk 1) (qk 7) (qk 13) (qk 19) (qk 21) (qk 23) (qk 24) (qk 25) (qk 22) n uK uW.1 uW.2 (xs (i + 1)) (xs (i + 2)) A e1) (cwV 2 hts gL_law_X6_row rfl rfl rfl (by decide +kernel) ⟨Nat.le_of_ble_eq_true rfl, Nat.le_of_ble_eq_true rfl⟩) ⟨Nat.le_of_ble_eq_true rfl, Nat.le_of_ble_eq_true rfl⟩ hG hS hAB hP [0, 21, 22] rfl 0 6 rfl rfl rfl rfl hl.1 rfl (Nat.le_of_ble_eq_true rfl) dL_law_1100 rfl ?_
  refine lv_aload_n hx hb dL_law_1103 rfl (lv_at hl 2 rfl) ?_
  refine law_arg X' hi hS hl 1 (by decide) (by decide) dL_law_1104 dL_law_1105 dL_law_1106 dL_law_1107 dL_law_1108 ?_
  refine law_arg X' hi hS hl 2 (by decide) (by decide) dL_law_1109 dL_law_1110 dL_law_1111 dL_law_1112 dL_law_1113 ?_
  refine lvr (o := some (.int A)) (As := [.int (xs (i + 1)), .int (xs (i + 2))]) (rest := [.int A]) (stk := [.int A, .int A]) ⟨hx, hb, hml, hown, hts⟩ (mX7_row l D cy st sk sv s.heap.size (qm 0) (qm 1) (qm 2) (qm 3) (qm 4) (qm 5) (qm 6) (qm 7) (qm 8) (qm 9) (qm 10) (qm 11) (qm 12) (qm 13) n uM.1 uM.2.1 uM.2.2.1 uM.2.2.2.1 uM.2.2.2.2.1 uM.2.2.2.2.2.1 uM.2.2.2.2.2.2.1 uM.2.2.2.2.2.2.2.1 uM.2.2.2.2.2.2.2.2.1 uM.2.2.2.2.2.2.2.2.2.1 uM.2.2.2.2.2.2.2.2.2.2.1 uM.2.2.2.2.2.2.2.2.2.2.2.1 uM.2.2.2.2.2.2.2.2.2.2.2.2 u_rows (xs (i + 1)) (xs (i + 2)) A e2) (cwV 2 hts gL_law_X7_row rfl rfl rfl (by decide +kernel) ⟨Nat.le_of_ble_eq_true rfl, Nat.le_of_ble_eq_true rfl⟩) ⟨Nat.le_of_ble_eq_true rfl, Nat.le_of_ble_eq_true rfl⟩ hG hS hAB hP [39, 45] rfl 0 7 rfl rfl rfl rfl hl.1 rfl (Nat.le_of_ble_eq_true rfl) dL_law_1114 rfl ?_
  refine lv_icmp_eq (tgt := 1561) hx hb dL_law_1117 (by decide) (fun _ => ?_) (fun c9 => absurd rfl c9)
  exact nx uK uN uY uE uA uW uS uF uG uM u_s u_held u_aside u_before u_tape u_rows u_sortOf u_sizeOf u_numbers u_holdsWhat u_holdsWhich u_holdsMany u_bodies ⟨rT, rE, rA, rW, rS, rF, rG⟩ H locs ls hP hD hS hl
set_option maxRecDepth 100000 in
set_option maxHeartbeats 4000000 in
theorem law_alterRow {p : Program} {l : Launch} {e : Env} {s : State} {m : MethodId} {below : List Frame} {meth : Method} {c : Code} {b L i n : Nat} {xs : Nat → Int32} {D : va_G} {cy : Nat → ClassId} {st sk sv : Nat → Nat} {qk qm : Nat → Nat} (X : LX p s m c b L xs D cy st sk sv) (hn : 300 ≤ n) (hi : i + 5 ≤ L) (nx : LI p l e s m below meth c b D cy qk qm i 1561) : LI p l e s m below meth c b D cy qk qm i 1122 := by
  intro uK uN uY uE uA uW uS uF uG uM u_s u_held u_aside u_before u_tape u_rows u_sortOf u_sizeOf u_numbers u_holdsWhat u_holdsWhich u_holdsMany u_bodies hR H locs ls hP hD hS hl
  obtain ⟨rT, rE, rA, rW, rS, rF, rG⟩ := hR
  have X' := X
  obtain ⟨hx, hb, hml, hown, hts, hX, hbl, hL, hG⟩ := X
  have hA : ∀ q : Nat, s.heap.size ≤ q → LQ s q := fun _ h => h
  have hAB : ∀ q : Nat, LQ s q → s.heap.size ≤ q := fun _ h => h
  obtain ⟨A, W', rows', e1, e2, rW1⟩ := p_alterRow (n := n) (uK := uK) (uW := uW) (uM := uM) (rows := u_rows) rW (xs (i + 1)) (xs (i + 2)) (xs (i + 3))
  refine lv_aload_n hx hb dL_law_1122 rfl (lv_at hl 1 rfl) ?_
  refine law_arg X' hi hS hl 1 (by decide) (by decide) dL_law_1123 dL_law_1124 dL_law_1125 dL_law_1126 dL_law_1127 ?_
  refine law_arg X' hi hS hl 2 (by decide) (by decide) dL_law_1128 dL_law_1129 dL_law_1130 dL_law_1131 dL_law_1132 ?_
  refine law_arg X' hi hS hl 3 (by decide) (by decide) dL_law_1133 dL_law_1134 dL_law_1135 dL_law_1136 dL_law_1137 ?_
  refine lvw (o := some (.int A)) (As := [.int (xs (i + 1)), .int (xs (i + 2)), .int (xs (i + 3))]) (rest := []) (stk := [.int A]) ⟨hx, hb, hml, hown, hts⟩ (mX6_alterRow l D cy st sk sv s.heap.size (qk 0) (qk 1) (qk 7) (qk 13) (qk 19) (qk 21) (qk 23) (qk 24) (qk 25) (qk 22) _ n uK uW.1 uW.2 (xs (i + 1)) (xs (i + 2)) (xs (i + 3)) (A, W') e1) (cwV 3 hts gL_law_X6_alterRow rfl rfl rfl (by decide +kernel) ⟨Nat.le_of_ble_eq_true rfl, Nat.le_of_ble_eq_true rfl⟩) ⟨Nat.le_of_ble_eq_true rfl, Nat.le_of_ble_eq_true rfl⟩ hG hS hAB hA hP hD [0, 21, 22] (by decide) rfl rfl rfl rfl 0 6 rfl rfl rfl rfl hl.1 rfl (Nat.le_of_ble_eq_true rfl) dL_law_1138 rfl (fun H locs hP hD hS => ?_)
  have hP : va_P D vwCl (WK cy qk uK uN uY uE uA W' uS uF uG ++ WM cy qm uM u_s u_held u_aside u_before u_tape u_rows u_sortOf u_sizeOf u_numbers u_holdsWhat u_holdsWhich u_holdsMany u_bodies) H := hP
  have hD : va_D (LQ s) (WK cy qk uK uN uY uE uA W' uS uF uG ++ WM cy qm uM u_s u_held u_aside u_before u_tape u_rows u_sortOf u_sizeOf u_numbers u_holdsWhat u_holdsWhich u_holdsMany u_bodies) := hD
  refine lv_aload_n hx hb dL_law_1141 rfl (lv_at hl 2 rfl) ?_
  refine law_arg X' hi hS hl 1 (by decide) (by decide) dL_law_1142 dL_law_1143 dL_law_1144 dL_law_1145 dL_law_1146 ?_
  refine law_arg X' hi hS hl 2 (by decide) (by decide) dL_law_1147 dL_law_1148 dL_law_1149 dL_law_1150 dL_law_1151 ?_
  refine law_arg X' hi hS hl 3 (by decide) (by decide) dL_law_1152 dL_law_1153 dL_law_1154 dL_law_1155 dL_law_1156 ?_
  refine lvw (o := some (.int A)) (As := [.int (xs (i + 1)), .int (xs (i + 2)), .int (xs (i + 3))]) (rest := [.int A]) (stk := [.int A, .int A]) ⟨hx, hb, hml, hown, hts⟩ (mX7_alterRow l D cy st sk sv s.heap.size (qm 0) (qm 1) (qm 2) (qm 3) (qm 4) (qm 5) (qm 6) (qm 7) (qm 8) (qm 9) (qm 10) (qm 11) (qm 12) (qm 13) _ n uM.1 uM.2.1 uM.2.2.1 uM.2.2.2.1 uM.2.2.2.2.1 uM.2.2.2.2.2.1 uM.2.2.2.2.2.2.1 uM.2.2.2.2.2.2.2.1 uM.2.2.2.2.2.2.2.2.1 uM.2.2.2.2.2.2.2.2.2.1 uM.2.2.2.2.2.2.2.2.2.2.1 uM.2.2.2.2.2.2.2.2.2.2.2.1 uM.2.2.2.2.2.2.2.2.2.2.2.2 u_rows (xs (i + 1)) (xs (i + 2)) (xs (i + 3)) (A, rows') e2) (cwV 3 hts gL_law_X7_alterRow rfl rfl rfl (by decide +kernel) ⟨Nat.le_of_ble_eq_true rfl, Nat.le_of_ble_eq_true rfl⟩) ⟨Nat.le_of_ble_eq_true rfl, Nat.le_of_ble_eq_true rfl⟩ hG hS hAB hA hP hD [39, 45] (by decide) rfl rfl rfl rfl 0 7 rfl rfl rfl rfl hl.1 rfl (Nat.le_of_ble_eq_true rfl) dL_law_1157 rfl (fun H locs hP hD hS => ?_)
  have hP : va_P D vwCl (WK cy qk uK uN uY uE uA W' uS uF uG ++ WM cy qm uM u_s u_held u_aside u_before u_tape rows' u_sortOf u_sizeOf u_numbers u_holdsWhat u_holdsWhich u_holdsMany u_bodies) H := hP
  have hD : va_D (LQ s) (WK cy qk uK uN uY uE uA W' uS uF uG ++ WM cy qm uM u_s u_held u_aside u_before u_tape rows' u_sortOf u_sizeOf u_numbers u_holdsWhat u_holdsWhich u_holdsMany u_bodies) := hD
  refine lv_icmp_eq (tgt := 1561) hx hb dL_law_1160 (by decide) (fun _ => ?_) (fun c9 => absurd rfl c9)
  exact nx uK uN uY uE uA W' uS uF uG uM u_s u_held u_aside u_before u_tape rows' u_sortOf u_sizeOf u_numbers u_holdsWhat u_holdsWhich u_holdsMany u_bodies ⟨rT, rE, rA, rW1, rS, rF, rG⟩ H locs ls hP hD hS hl
