/-! THE LAW, 2: a call of each -/
set_option maxRecDepth 100000 in
set_option maxHeartbeats 4000000 in
theorem law_mind {p : Program} {l : Launch} {e : Env} {s : State} {m : MethodId} {below : List Frame} {meth : Method} {c : Code} {b L i n : Nat} {xs : Nat → Int32} {D : va_G} {cy : Nat → ClassId} {st sk sv : Nat → Nat} {qk qm : Nat → Nat} (X : LX p s m c b L xs D cy st sk sv) (hn : 300 ≤ n) (hi : i + 5 ≤ L) (nx : LI p l e s m below meth c b D cy qk qm i 1561) : LI p l e s m below meth c b D cy qk qm i 451 := by
  intro uK uN uY uE uA uW uS uF uG uM u_s u_held u_aside u_before u_tape u_rows u_sortOf u_sizeOf u_numbers u_holdsWhat u_holdsWhich u_holdsMany u_bodies hR H locs ls hP hD hS hl
  obtain ⟨rT, rE, rA, rW, rS, rF, rG⟩ := hR
  have X' := X
  obtain ⟨hx, hb, hml, hown, hts, hX, hbl, hL, hG⟩ := X
  have hA : ∀ q : Nat, s.heap.size ≤ q → LQ s q := fun _ h => h
  have hAB : ∀ q : Nat, LQ s q → s.heap.size ≤ q := fun _ h => h
  obtain ⟨A, N', s', e1, e2, rT1⟩ := p_mind (n := n) (uK := uK) (uN := uN) (uM := uM) (s := u_s) rT (xs (i + 1)) (xs (i + 2))
  refine lv_aload_n hx hb dL_law_451 rfl (lv_at hl 1 rfl) ?_
  refine law_arg X' hi hS hl 1 (by decide) (by decide) dL_law_452 dL_law_453 dL_law_454 dL_law_455 dL_law_456 ?_
  refine law_arg X' hi hS hl 2 (by decide) (by decide) dL_law_457 dL_law_458 dL_law_459 dL_law_460 dL_law_461 ?_
  refine lvw (o := some (.int A)) (As := [.int (xs (i + 1)), .int (xs (i + 2))]) (rest := []) (stk := [.int A]) ⟨hx, hb, hml, hown, hts⟩ (mX6_mind l D cy st sk sv s.heap.size (qk 0) (qk 1) (qk 7) (qk 13) (qk 19) (qk 21) (qk 23) (qk 24) (qk 25) (qk 2) (qk 3) (qk 4) (qk 5) (qk 6) _ n uK uN.1 uN.2.1 uN.2.2.1 uN.2.2.2.1 uN.2.2.2.2.1 uN.2.2.2.2.2.1 uN.2.2.2.2.2.2.1 uN.2.2.2.2.2.2.2.1 uN.2.2.2.2.2.2.2.2.1 uN.2.2.2.2.2.2.2.2.2 (xs (i + 1)) (xs (i + 2)) (A, N') e1) (cwV 2 hts gL_law_X6_mind rfl rfl rfl (by decide +kernel) ⟨Nat.le_of_ble_eq_true rfl, Nat.le_of_ble_eq_true rfl⟩) ⟨Nat.le_of_ble_eq_true rfl, Nat.le_of_ble_eq_true rfl⟩ hG hS hAB hA hP hD [0, 1, 2, 3, 4, 5, 6] (by decide) rfl rfl rfl rfl 0 6 rfl rfl rfl rfl hl.1 rfl (Nat.le_of_ble_eq_true rfl) dL_law_462 rfl (fun H locs hP hD hS => ?_)
  have hP : va_P D vwCl (WK cy qk uK N' uY uE uA uW uS uF uG ++ WM cy qm uM u_s u_held u_aside u_before u_tape u_rows u_sortOf u_sizeOf u_numbers u_holdsWhat u_holdsWhich u_holdsMany u_bodies) H := hP
  have hD : va_D (LQ s) (WK cy qk uK N' uY uE uA uW uS uF uG ++ WM cy qm uM u_s u_held u_aside u_before u_tape u_rows u_sortOf u_sizeOf u_numbers u_holdsWhat u_holdsWhich u_holdsMany u_bodies) := hD
  refine lv_aload_n hx hb dL_law_465 rfl (lv_at hl 2 rfl) ?_
  refine law_arg X' hi hS hl 1 (by decide) (by decide) dL_law_466 dL_law_467 dL_law_468 dL_law_469 dL_law_470 ?_
  refine law_arg X' hi hS hl 2 (by decide) (by decide) dL_law_471 dL_law_472 dL_law_473 dL_law_474 dL_law_475 ?_
  refine lvw (o := some (.int A)) (As := [.int (xs (i + 1)), .int (xs (i + 2))]) (rest := [.int A]) (stk := [.int A, .int A]) ⟨hx, hb, hml, hown, hts⟩ (mX7_mind l D cy st sk sv s.heap.size (qm 0) (qm 1) (qm 2) (qm 3) (qm 4) (qm 5) (qm 6) (qm 7) (qm 8) (qm 9) (qm 10) (qm 11) (qm 12) (qm 13) _ n uM.1 uM.2.1 uM.2.2.1 uM.2.2.2.1 uM.2.2.2.2.1 uM.2.2.2.2.2.1 uM.2.2.2.2.2.2.1 uM.2.2.2.2.2.2.2.1 uM.2.2.2.2.2.2.2.2.1 uM.2.2.2.2.2.2.2.2.2.1 uM.2.2.2.2.2.2.2.2.2.2.1 uM.2.2.2.2.2.2.2.2.2.2.2.1 uM.2.2.2.2.2.2.2.2.2.2.2.2 u_s (xs (i + 1)) (xs (i + 2)) (A, s') e2) (cwV 2 hts gL_law_X7_mind rfl rfl rfl (by decide +kernel) ⟨Nat.le_of_ble_eq_true rfl, Nat.le_of_ble_eq_true rfl⟩) ⟨Nat.le_of_ble_eq_true rfl, Nat.le_of_ble_eq_true rfl⟩ hG hS hAB hA hP hD [39, 40] (by decide) rfl rfl rfl rfl 0 7 rfl rfl rfl rfl hl.1 rfl (Nat.le_of_ble_eq_true rfl) dL_law_476 rfl (fun H locs hP hD hS => ?_)
  have hP : va_P D vwCl (WK cy qk uK N' uY uE uA uW uS uF uG ++ WM cy qm uM s' u_held u_aside u_before u_tape u_rows u_sortOf u_sizeOf u_numbers u_holdsWhat u_holdsWhich u_holdsMany u_bodies) H := hP
  have hD : va_D (LQ s) (WK cy qk uK N' uY uE uA uW uS uF uG ++ WM cy qm uM s' u_held u_aside u_before u_tape u_rows u_sortOf u_sizeOf u_numbers u_holdsWhat u_holdsWhich u_holdsMany u_bodies) := hD
  refine lv_icmp_eq (tgt := 1561) hx hb dL_law_479 (by decide) (fun _ => ?_) (fun c9 => absurd rfl c9)
  exact nx uK N' uY uE uA uW uS uF uG uM s' u_held u_aside u_before u_tape u_rows u_sortOf u_sizeOf u_numbers u_holdsWhat u_holdsWhich u_holdsMany u_bodies ⟨rT1, rE, rA, rW, rS, rF, rG⟩ H locs ls hP hD hS hl
set_option maxRecDepth 100000 in
set_option maxHeartbeats 4000000 in
theorem law_give {p : Program} {l : Launch} {e : Env} {s : State} {m : MethodId} {below : List Frame} {meth : Method} {c : Code} {b L i n : Nat} {xs : Nat → Int32} {D : va_G} {cy : Nat → ClassId} {st sk sv : Nat → Nat} {qk qm : Nat → Nat} (X : LX p s m c b L xs D cy st sk sv) (hn : 300 ≤ n) (hi : i + 5 ≤ L) (nx : LI p l e s m below meth c b D cy qk qm i 1561) : LI p l e s m below meth c b D cy qk qm i 484 := by
  intro uK uN uY uE uA uW uS uF uG uM u_s u_held u_aside u_before u_tape u_rows u_sortOf u_sizeOf u_numbers u_holdsWhat u_holdsWhich u_holdsMany u_bodies hR H locs ls hP hD hS hl
  obtain ⟨rT, rE, rA, rW, rS, rF, rG⟩ := hR
  have X' := X
  obtain ⟨hx, hb, hml, hown, hts, hX, hbl, hL, hG⟩ := X
  have hA : ∀ q : Nat, s.heap.size ≤ q → LQ s q := fun _ h => h
  have hAB : ∀ q : Nat, LQ s q → s.heap.size ≤ q := fun _ h => h
  obtain ⟨A, N', s', e1, e2, rT1⟩ := p_give (n := n) (uK := uK) (uN := uN) (uM := uM) (s := u_s) rT (xs (i + 1)) (xs (i + 2))
  refine lv_aload_n hx hb dL_law_484 rfl (lv_at hl 1 rfl) ?_
  refine law_arg X' hi hS hl 1 (by decide) (by decide) dL_law_485 dL_law_486 dL_law_487 dL_law_488 dL_law_489 ?_
  refine law_arg X' hi hS hl 2 (by decide) (by decide) dL_law_490 dL_law_491 dL_law_492 dL_law_493 dL_law_494 ?_
  refine lvw (o := some (.int A)) (As := [.int (xs (i + 1)), .int (xs (i + 2))]) (rest := []) (stk := [.int A]) ⟨hx, hb, hml, hown, hts⟩ (mX6_give l D cy st sk sv s.heap.size (qk 0) (qk 1) (qk 7) (qk 13) (qk 19) (qk 21) (qk 23) (qk 24) (qk 25) (qk 2) (qk 3) (qk 4) (qk 5) (qk 6) _ n uK uN.1 uN.2.1 uN.2.2.1 uN.2.2.2.1 uN.2.2.2.2.1 uN.2.2.2.2.2.1 uN.2.2.2.2.2.2.1 uN.2.2.2.2.2.2.2.1 uN.2.2.2.2.2.2.2.2.1 uN.2.2.2.2.2.2.2.2.2 (xs (i + 1)) (xs (i + 2)) (A, N') e1) (cwV 2 hts gL_law_X6_give rfl rfl rfl (by decide +kernel) ⟨Nat.le_of_ble_eq_true rfl, Nat.le_of_ble_eq_true rfl⟩) ⟨Nat.le_of_ble_eq_true rfl, Nat.le_of_ble_eq_true rfl⟩ hG hS hAB hA hP hD [0, 1, 2, 3, 4, 5, 6] (by decide) rfl rfl rfl rfl 0 6 rfl rfl rfl rfl hl.1 rfl (Nat.le_of_ble_eq_true rfl) dL_law_495 rfl (fun H locs hP hD hS => ?_)
  have hP : va_P D vwCl (WK cy qk uK N' uY uE uA uW uS uF uG ++ WM cy qm uM u_s u_held u_aside u_before u_tape u_rows u_sortOf u_sizeOf u_numbers u_holdsWhat u_holdsWhich u_holdsMany u_bodies) H := hP
  have hD : va_D (LQ s) (WK cy qk uK N' uY uE uA uW uS uF uG ++ WM cy qm uM u_s u_held u_aside u_before u_tape u_rows u_sortOf u_sizeOf u_numbers u_holdsWhat u_holdsWhich u_holdsMany u_bodies) := hD
  refine lv_aload_n hx hb dL_law_498 rfl (lv_at hl 2 rfl) ?_
  refine law_arg X' hi hS hl 1 (by decide) (by decide) dL_law_499 dL_law_500 dL_law_501 dL_law_502 dL_law_503 ?_
  refine law_arg X' hi hS hl 2 (by decide) (by decide) dL_law_504 dL_law_505 dL_law_506 dL_law_507 dL_law_508 ?_
  refine lvw (o := some (.int A)) (As := [.int (xs (i + 1)), .int (xs (i + 2))]) (rest := [.int A]) (stk := [.int A, .int A]) ⟨hx, hb, hml, hown, hts⟩ (mX7_give l D cy st sk sv s.heap.size (qm 0) (qm 1) (qm 2) (qm 3) (qm 4) (qm 5) (qm 6) (qm 7) (qm 8) (qm 9) (qm 10) (qm 11) (qm 12) (qm 13) _ n uM.1 uM.2.1 uM.2.2.1 uM.2.2.2.1 uM.2.2.2.2.1 uM.2.2.2.2.2.1 uM.2.2.2.2.2.2.1 uM.2.2.2.2.2.2.2.1 uM.2.2.2.2.2.2.2.2.1 uM.2.2.2.2.2.2.2.2.2.1 uM.2.2.2.2.2.2.2.2.2.2.1 uM.2.2.2.2.2.2.2.2.2.2.2.1 uM.2.2.2.2.2.2.2.2.2.2.2.2 u_s (xs (i + 1)) (xs (i + 2)) (A, s') e2) (cwV 2 hts gL_law_X7_give rfl rfl rfl (by decide +kernel) ⟨Nat.le_of_ble_eq_true rfl, Nat.le_of_ble_eq_true rfl⟩) ⟨Nat.le_of_ble_eq_true rfl, Nat.le_of_ble_eq_true rfl⟩ hG hS hAB hA hP hD [39, 40] (by decide) rfl rfl rfl rfl 0 7 rfl rfl rfl rfl hl.1 rfl (Nat.le_of_ble_eq_true rfl) dL_law_509 rfl (fun H locs hP hD hS => ?_)
  have hP : va_P D vwCl (WK cy qk uK N' uY uE uA uW uS uF uG ++ WM cy qm uM s' u_held u_aside u_before u_tape u_rows u_sortOf u_sizeOf u_numbers u_holdsWhat u_holdsWhich u_holdsMany u_bodies) H := hP
  have hD : va_D (LQ s) (WK cy qk uK N' uY uE uA uW uS uF uG ++ WM cy qm uM s' u_held u_aside u_before u_tape u_rows u_sortOf u_sizeOf u_numbers u_holdsWhat u_holdsWhich u_holdsMany u_bodies) := hD
  refine lv_icmp_eq (tgt := 1561) hx hb dL_law_512 (by decide) (fun _ => ?_) (fun c9 => absurd rfl c9)
  exact nx uK N' uY uE uA uW uS uF uG uM s' u_held u_aside u_before u_tape u_rows u_sortOf u_sizeOf u_numbers u_holdsWhat u_holdsWhich u_holdsMany u_bodies ⟨rT1, rE, rA, rW, rS, rF, rG⟩ H locs ls hP hD hS hl
set_option maxRecDepth 100000 in
set_option maxHeartbeats 4000000 in
theorem law_sink {p : Program} {l : Launch} {e : Env} {s : State} {m : MethodId} {below : List Frame} {meth : Method} {c : Code} {b L i n : Nat} {xs : Nat → Int32} {D : va_G} {cy : Nat → ClassId} {st sk sv : Nat → Nat} {qk qm : Nat → Nat} (X : LX p s m c b L xs D cy st sk sv) (hn : 300 ≤ n) (hi : i + 5 ≤ L) (nx : LI p l e s m below meth c b D cy qk qm i 1561) : LI p l e s m below meth c b D cy qk qm i 517 := by
  intro uK uN uY uE uA uW uS uF uG uM u_s u_held u_aside u_before u_tape u_rows u_sortOf u_sizeOf u_numbers u_holdsWhat u_holdsWhich u_holdsMany u_bodies hR H locs ls hP hD hS hl
  obtain ⟨rT, rE, rA, rW, rS, rF, rG⟩ := hR
  have X' := X
  obtain ⟨hx, hb, hml, hown, hts, hX, hbl, hL, hG⟩ := X
  have hA : ∀ q : Nat, s.heap.size ≤ q → LQ s q := fun _ h => h
  have hAB : ∀ q : Nat, LQ s q → s.heap.size ≤ q := fun _ h => h
  obtain ⟨A, N', s', e1, e2, rT1⟩ := p_sink (n := n) (uK := uK) (uN := uN) (uM := uM) (s := u_s) rT (xs (i + 1)) (xs (i + 2)) (xs (i + 3))
  refine lv_aload_n hx hb dL_law_517 rfl (lv_at hl 1 rfl) ?_
  refine law_arg X' hi hS hl 1 (by decide) (by decide) dL_law_518 dL_law_519 dL_law_520 dL_law_521 dL_law_522 ?_
  refine law_arg X' hi hS hl 2 (by decide) (by decide) dL_law_523 dL_law_524 dL_law_525 dL_law_526 dL_law_527 ?_
  refine law_arg X' hi hS hl 3 (by decide) (by decide) dL_law_528 dL_law_529 dL_law_530 dL_law_531 dL_law_532 ?_
  refine lvw (o := some (.int A)) (As := [.int (xs (i + 1)), .int (xs (i + 2)), .int (xs (i + 3))]) (rest := []) (stk := [.int A]) ⟨hx, hb, hml, hown, hts⟩ (mX6_sink l D cy st sk sv s.heap.size (qk 0) (qk 1) (qk 7) (qk 13) (qk 19) (qk 21) (qk 23) (qk 24) (qk 25) (qk 2) (qk 3) (qk 4) (qk 5) (qk 6) _ n uK uN.1 uN.2.1 uN.2.2.1 uN.2.2.2.1 uN.2.2.2.2.1 uN.2.2.2.2.2.1 uN.2.2.2.2.2.2.1 uN.2.2.2.2.2.2.2.1 uN.2.2.2.2.2.2.2.2.1 uN.2.2.2.2.2.2.2.2.2 (xs (i + 1)) (xs (i + 2)) (xs (i + 3)) (A, N') e1) (cwV 3 hts gL_law_X6_sink rfl rfl rfl (by decide +kernel) ⟨Nat.le_of_ble_eq_true rfl, Nat.le_of_ble_eq_true rfl⟩) ⟨Nat.le_of_ble_eq_true rfl, Nat.le_of_ble_eq_true rfl⟩ hG hS hAB hA hP hD [0, 1, 2, 3, 4, 5, 6] (by decide) rfl rfl rfl rfl 0 6 rfl rfl rfl rfl hl.1 rfl (Nat.le_of_ble_eq_true rfl) dL_law_533 rfl (fun H locs hP hD hS => ?_)
  have hP : va_P D vwCl (WK cy qk uK N' uY uE uA uW uS uF uG ++ WM cy qm uM u_s u_held u_aside u_before u_tape u_rows u_sortOf u_sizeOf u_numbers u_holdsWhat u_holdsWhich u_holdsMany u_bodies) H := hP
  have hD : va_D (LQ s) (WK cy qk uK N' uY uE uA uW uS uF uG ++ WM cy qm uM u_s u_held u_aside u_before u_tape u_rows u_sortOf u_sizeOf u_numbers u_holdsWhat u_holdsWhich u_holdsMany u_bodies) := hD
  refine lv_aload_n hx hb dL_law_536 rfl (lv_at hl 2 rfl) ?_
  refine law_arg X' hi hS hl 1 (by decide) (by decide) dL_law_537 dL_law_538 dL_law_539 dL_law_540 dL_law_541 ?_
  refine law_arg X' hi hS hl 2 (by decide) (by decide) dL_law_542 dL_law_543 dL_law_544 dL_law_545 dL_law_546 ?_
  refine law_arg X' hi hS hl 3 (by decide) (by decide) dL_law_547 dL_law_548 dL_law_549 dL_law_550 dL_law_551 ?_
  refine lvw (o := some (.int A)) (As := [.int (xs (i + 1)), .int (xs (i + 2)), .int (xs (i + 3))]) (rest := [.int A]) (stk := [.int A, .int A]) ⟨hx, hb, hml, hown, hts⟩ (mX7_sink l D cy st sk sv s.heap.size (qm 0) (qm 1) (qm 2) (qm 3) (qm 4) (qm 5) (qm 6) (qm 7) (qm 8) (qm 9) (qm 10) (qm 11) (qm 12) (qm 13) _ n uM.1 uM.2.1 uM.2.2.1 uM.2.2.2.1 uM.2.2.2.2.1 uM.2.2.2.2.2.1 uM.2.2.2.2.2.2.1 uM.2.2.2.2.2.2.2.1 uM.2.2.2.2.2.2.2.2.1 uM.2.2.2.2.2.2.2.2.2.1 uM.2.2.2.2.2.2.2.2.2.2.1 uM.2.2.2.2.2.2.2.2.2.2.2.1 uM.2.2.2.2.2.2.2.2.2.2.2.2 u_s (xs (i + 1)) (xs (i + 2)) (xs (i + 3)) (A, s') e2) (cwV 3 hts gL_law_X7_sink rfl rfl rfl (by decide +kernel) ⟨Nat.le_of_ble_eq_true rfl, Nat.le_of_ble_eq_true rfl⟩) ⟨Nat.le_of_ble_eq_true rfl, Nat.le_of_ble_eq_true rfl⟩ hG hS hAB hA hP hD [39, 40] (by decide) rfl rfl rfl rfl 0 7 rfl rfl rfl rfl hl.1 rfl (Nat.le_of_ble_eq_true rfl) dL_law_552 rfl (fun H locs hP hD hS => ?_)
  have hP : va_P D vwCl (WK cy qk uK N' uY uE uA uW uS uF uG ++ WM cy qm uM s' u_held u_aside u_before u_tape u_rows u_sortOf u_sizeOf u_numbers u_holdsWhat u_holdsWhich u_holdsMany u_bodies) H := hP
  have hD : va_D (LQ s) (WK cy qk uK N' uY uE uA uW uS uF uG ++ WM cy qm uM s' u_held u_aside u_before u_tape u_rows u_sortOf u_sizeOf u_numbers u_holdsWhat u_holdsWhich u_holdsMany u_bodies) := hD
  refine lv_icmp_eq (tgt := 1561) hx hb dL_law_555 (by decide) (fun _ => ?_) (fun c9 => absurd rfl c9)
  exact nx uK N' uY uE uA uW uS uF uG uM s' u_held u_aside u_before u_tape u_rows u_sortOf u_sizeOf u_numbers u_holdsWhat u_holdsWhich u_holdsMany u_bodies ⟨rT1, rE, rA, rW, rS, rF, rG⟩ H locs ls hP hD hS hl
set_option maxRecDepth 100000 in
set_option maxHeartbeats 4000000 in
theorem law_courses {p : Program} {l : Launch} {e : Env} {s : State} {m : MethodId} {below : List Frame} {meth : Method} {c : Code} {b L i n : Nat} {xs : Nat → Int32} {D : va_G} {cy : Nat → ClassId} {st sk sv : Nat → Nat} {qk qm : Nat → Nat} (X : LX p s m c b L xs D cy st sk sv) (hn : 300 ≤ n) (hi : i + 5 ≤ L) (nx : LI p l e s m below meth c b D cy qk qm i 1561) : LI p l e s m below meth c b D cy qk qm i 560 := by
  intro uK uN uY uE uA uW uS uF uG uM u_s u_held u_aside u_before u_tape u_rows u_sortOf u_sizeOf u_numbers u_holdsWhat u_holdsWhich u_holdsMany u_bodies hR H locs ls hP hD hS hl
  obtain ⟨rT, rE, rA, rW, rS, rF, rG⟩ := hR
  have X' := X
  obtain ⟨hx, hb, hml, hown, hts, hX, hbl, hL, hG⟩ := X
  have hA : ∀ q : Nat, s.heap.size ≤ q → LQ s q := fun _ h => h
  have hAB : ∀ q : Nat, LQ s q → s.heap.size ≤ q := fun _ h => h
  obtain ⟨A, N', s', e1, e2, rT1⟩ := p_courses (n := n) (uK := uK) (uN := uN) (uM := uM) (s := u_s) hn rT (xs (i + 1))
  refine lv_aload_n hx hb dL_law_560 rfl (lv_at hl 1 rfl) ?_
  refine law_arg X' hi hS hl 1 (by decide) (by decide) dL_law_561 dL_law_562 dL_law_563 dL_law_564 dL_law_565 ?_
  refine lvw (o := some (.int A)) (As := [.int (xs (i + 1))]) (rest := []) (stk := [.int A]) ⟨hx, hb, hml, hown, hts⟩ (mX6_courses l D cy st sk sv s.heap.size (qk 0) (qk 1) (qk 7) (qk 13) (qk 19) (qk 21) (qk 23) (qk 24) (qk 25) (qk 2) (qk 3) (qk 4) (qk 5) (qk 6) _ n uK uN.1 uN.2.1 uN.2.2.1 uN.2.2.2.1 uN.2.2.2.2.1 uN.2.2.2.2.2.1 uN.2.2.2.2.2.2.1 uN.2.2.2.2.2.2.2.1 uN.2.2.2.2.2.2.2.2.1 uN.2.2.2.2.2.2.2.2.2 (xs (i + 1)) (A, N') e1) (cwV 1 hts gL_law_X6_courses rfl rfl rfl (by decide +kernel) ⟨Nat.le_of_ble_eq_true rfl, Nat.le_of_ble_eq_true rfl⟩) ⟨Nat.le_of_ble_eq_true rfl, Nat.le_of_ble_eq_true rfl⟩ hG hS hAB hA hP hD [0, 1, 2, 3, 4, 5, 6] (by decide) rfl rfl rfl rfl 0 6 rfl rfl rfl rfl hl.1 rfl (Nat.le_of_ble_eq_true rfl) dL_law_566 rfl (fun H locs hP hD hS => ?_)
  have hP : va_P D vwCl (WK cy qk uK N' uY uE uA uW uS uF uG ++ WM cy qm uM u_s u_held u_aside u_before u_tape u_rows u_sortOf u_sizeOf u_numbers u_holdsWhat u_holdsWhich u_holdsMany u_bodies) H := hP
  have hD : va_D (LQ s) (WK cy qk uK N' uY uE uA uW uS uF uG ++ WM cy qm uM u_s u_held u_aside u_before u_tape u_rows u_sortOf u_sizeOf u_numbers u_holdsWhat u_holdsWhich u_holdsMany u_bodies) := hD
  refine lv_aload_n hx hb dL_law_569 rfl (lv_at hl 2 rfl) ?_
  refine law_arg X' hi hS hl 1 (by decide) (by decide) dL_law_570 dL_law_571 dL_law_572 dL_law_573 dL_law_574 ?_
  refine lvw (o := some (.int A)) (As := [.int (xs (i + 1))]) (rest := [.int A]) (stk := [.int A, .int A]) ⟨hx, hb, hml, hown, hts⟩ (mX7_courses l D cy st sk sv s.heap.size (qm 0) (qm 1) (qm 2) (qm 3) (qm 4) (qm 5) (qm 6) (qm 7) (qm 8) (qm 9) (qm 10) (qm 11) (qm 12) (qm 13) _ n uM.1 uM.2.1 uM.2.2.1 uM.2.2.2.1 uM.2.2.2.2.1 uM.2.2.2.2.2.1 uM.2.2.2.2.2.2.1 uM.2.2.2.2.2.2.2.1 uM.2.2.2.2.2.2.2.2.1 uM.2.2.2.2.2.2.2.2.2.1 uM.2.2.2.2.2.2.2.2.2.2.1 uM.2.2.2.2.2.2.2.2.2.2.2.1 uM.2.2.2.2.2.2.2.2.2.2.2.2 u_s (xs (i + 1)) (A, s') e2) (cwV 1 hts gL_law_X7_courses rfl rfl rfl (by decide +kernel) ⟨Nat.le_of_ble_eq_true rfl, Nat.le_of_ble_eq_true rfl⟩) ⟨Nat.le_of_ble_eq_true rfl, Nat.le_of_ble_eq_true rfl⟩ hG hS hAB hA hP hD [39, 40] (by decide) rfl rfl rfl rfl 0 7 rfl rfl rfl rfl hl.1 rfl (Nat.le_of_ble_eq_true rfl) dL_law_575 rfl (fun H locs hP hD hS => ?_)
  have hP : va_P D vwCl (WK cy qk uK N' uY uE uA uW uS uF uG ++ WM cy qm uM s' u_held u_aside u_before u_tape u_rows u_sortOf u_sizeOf u_numbers u_holdsWhat u_holdsWhich u_holdsMany u_bodies) H := hP
  have hD : va_D (LQ s) (WK cy qk uK N' uY uE uA uW uS uF uG ++ WM cy qm uM s' u_held u_aside u_before u_tape u_rows u_sortOf u_sizeOf u_numbers u_holdsWhat u_holdsWhich u_holdsMany u_bodies) := hD
  refine lv_icmp_eq (tgt := 1561) hx hb dL_law_578 (by decide) (fun _ => ?_) (fun c9 => absurd rfl c9)
  exact nx uK N' uY uE uA uW uS uF uG uM s' u_held u_aside u_before u_tape u_rows u_sortOf u_sizeOf u_numbers u_holdsWhat u_holdsWhich u_holdsMany u_bodies ⟨rT1, rE, rA, rW, rS, rF, rG⟩ H locs ls hP hD hS hl
set_option maxRecDepth 100000 in
set_option maxHeartbeats 4000000 in
theorem law_seed {p : Program} {l : Launch} {e : Env} {s : State} {m : MethodId} {below : List Frame} {meth : Method} {c : Code} {b L i n : Nat} {xs : Nat → Int32} {D : va_G} {cy : Nat → ClassId} {st sk sv : Nat → Nat} {qk qm : Nat → Nat} (X : LX p s m c b L xs D cy st sk sv) (hn : 300 ≤ n) (hi : i + 5 ≤ L) (nx : LI p l e s m below meth c b D cy qk qm i 1561) : LI p l e s m below meth c b D cy qk qm i 583 := by
  intro uK uN uY uE uA uW uS uF uG uM u_s u_held u_aside u_before u_tape u_rows u_sortOf u_sizeOf u_numbers u_holdsWhat u_holdsWhich u_holdsMany u_bodies hR H locs ls hP hD hS hl
  obtain ⟨rT, rE, rA, rW, rS, rF, rG⟩ := hR
  have X' := X
  obtain ⟨hx, hb, hml, hown, hts, hX, hbl, hL, hG⟩ := X
  have hA : ∀ q : Nat, s.heap.size ≤ q → LQ s q := fun _ h => h
  have hAB : ∀ q : Nat, LQ s q → s.heap.size ≤ q := fun _ h => h
  obtain ⟨A, N', s', e1, e2, rT1⟩ := p_seed (n := n) (uK := uK) (uN := uN) (uM := uM) (s := u_s) rT (xs (i + 1))
  refine lv_aload_n hx hb dL_law_583 rfl (lv_at hl 1 rfl) ?_
  refine law_arg X' hi hS hl 1 (by decide) (by decide) dL_law_584 dL_law_585 dL_law_586 dL_law_587 dL_law_588 ?_
  refine lvw (o := some (.int A)) (As := [.int (xs (i + 1))]) (rest := []) (stk := [.int A]) ⟨hx, hb, hml, hown, hts⟩ (mX6_seed l D cy st sk sv s.heap.size (qk 0) (qk 1) (qk 7) (qk 13) (qk 19) (qk 21) (qk 23) (qk 24) (qk 25) (qk 2) (qk 3) (qk 4) (qk 5) (qk 6) _ n uK uN.1 uN.2.1 uN.2.2.1 uN.2.2.2.1 uN.2.2.2.2.1 uN.2.2.2.2.2.1 uN.2.2.2.2.2.2.1 uN.2.2.2.2.2.2.2.1 uN.2.2.2.2.2.2.2.2.1 uN.2.2.2.2.2.2.2.2.2 (xs (i + 1)) (A, N') e1) (cwV 1 hts gL_law_X6_seed rfl rfl rfl (by decide +kernel) ⟨Nat.le_of_ble_eq_true rfl, Nat.le_of_ble_eq_true rfl⟩) ⟨Nat.le_of_ble_eq_true rfl, Nat.le_of_ble_eq_true rfl⟩ hG hS hAB hA hP hD [0, 1, 2, 3, 4, 5, 6] (by decide) rfl rfl rfl rfl 0 6 rfl rfl rfl rfl hl.1 rfl (Nat.le_of_ble_eq_true rfl) dL_law_589 rfl (fun H locs hP hD hS => ?_)
  have hP : va_P D vwCl (WK cy qk uK N' uY uE uA uW uS uF uG ++ WM cy qm uM u_s u_held u_aside u_before u_tape u_rows u_sortOf u_sizeOf u_numbers u_holdsWhat u_holdsWhich u_holdsMany u_bodies) H := hP
  have hD : va_D (LQ s) (WK cy qk uK N' uY uE uA uW uS uF uG ++ WM cy qm uM u_s u_held u_aside u_before u_tape u_rows u_sortOf u_sizeOf u_numbers u_holdsWhat u_holdsWhich u_holdsMany u_bodies) := hD
  refine lv_aload_n hx hb dL_law_592 rfl (lv_at hl 2 rfl) ?_
  refine law_arg X' hi hS hl 1 (by decide) (by decide) dL_law_593 dL_law_594 dL_law_595 dL_law_596 dL_law_597 ?_
  refine lvw (o := some (.int A)) (As := [.int (xs (i + 1))]) (rest := [.int A]) (stk := [.int A, .int A]) ⟨hx, hb, hml, hown, hts⟩ (mX7_seed l D cy st sk sv s.heap.size (qm 0) (qm 1) (qm 2) (qm 3) (qm 4) (qm 5) (qm 6) (qm 7) (qm 8) (qm 9) (qm 10) (qm 11) (qm 12) (qm 13) _ n uM.1 uM.2.1 uM.2.2.1 uM.2.2.2.1 uM.2.2.2.2.1 uM.2.2.2.2.2.1 uM.2.2.2.2.2.2.1 uM.2.2.2.2.2.2.2.1 uM.2.2.2.2.2.2.2.2.1 uM.2.2.2.2.2.2.2.2.2.1 uM.2.2.2.2.2.2.2.2.2.2.1 uM.2.2.2.2.2.2.2.2.2.2.2.1 uM.2.2.2.2.2.2.2.2.2.2.2.2 u_s (xs (i + 1)) (A, s') e2) (cwV 1 hts gL_law_X7_seed rfl rfl rfl (by decide +kernel) ⟨Nat.le_of_ble_eq_true rfl, Nat.le_of_ble_eq_true rfl⟩) ⟨Nat.le_of_ble_eq_true rfl, Nat.le_of_ble_eq_true rfl⟩ hG hS hAB hA hP hD [39, 40] (by decide) rfl rfl rfl rfl 0 7 rfl rfl rfl rfl hl.1 rfl (Nat.le_of_ble_eq_true rfl) dL_law_598 rfl (fun H locs hP hD hS => ?_)
  have hP : va_P D vwCl (WK cy qk uK N' uY uE uA uW uS uF uG ++ WM cy qm uM s' u_held u_aside u_before u_tape u_rows u_sortOf u_sizeOf u_numbers u_holdsWhat u_holdsWhich u_holdsMany u_bodies) H := hP
  have hD : va_D (LQ s) (WK cy qk uK N' uY uE uA uW uS uF uG ++ WM cy qm uM s' u_held u_aside u_before u_tape u_rows u_sortOf u_sizeOf u_numbers u_holdsWhat u_holdsWhich u_holdsMany u_bodies) := hD
  refine lv_icmp_eq (tgt := 1561) hx hb dL_law_601 (by decide) (fun _ => ?_) (fun c9 => absurd rfl c9)
  exact nx uK N' uY uE uA uW uS uF uG uM s' u_held u_aside u_before u_tape u_rows u_sortOf u_sizeOf u_numbers u_holdsWhat u_holdsWhich u_holdsMany u_bodies ⟨rT1, rE, rA, rW, rS, rF, rG⟩ H locs ls hP hD hS hl
set_option maxRecDepth 100000 in
set_option maxHeartbeats 4000000 in
theorem law_course {p : Program} {l : Launch} {e : Env} {s : State} {m : MethodId} {below : List Frame} {meth : Method} {c : Code} {b L i n : Nat} {xs : Nat → Int32} {D : va_G} {cy : Nat → ClassId} {st sk sv : Nat → Nat} {qk qm : Nat → Nat} (X : LX p s m c b L xs D cy st sk sv) (hn : 300 ≤ n) (hi : i + 5 ≤ L) (nx : LI p l e s m below meth c b D cy qk qm i 1561) : LI p l e s m below meth c b D cy qk qm i 606 := by
  intro uK uN uY uE uA uW uS uF uG uM u_s u_held u_aside u_before u_tape u_rows u_sortOf u_sizeOf u_numbers u_holdsWhat u_holdsWhich u_holdsMany u_bodies hR H locs ls hP hD hS hl
  obtain ⟨rT, rE, rA, rW, rS, rF, rG⟩ := hR
  have X' := X
  obtain ⟨hx, hb, hml, hown, hts, hX, hbl, hL, hG⟩ := X
  have hA : ∀ q : Nat, s.heap.size ≤ q → LQ s q := fun _ h => h
  have hAB : ∀ q : Nat, LQ s q → s.heap.size ≤ q := fun _ h => h
  obtain ⟨A, N', s', e1, e2, rT1⟩ := p_course (n := n) (uK := uK) (uN := uN) (uM := uM) (s := u_s) hn rT
  refine lv_aload_n hx hb dL_law_606 rfl (lv_at hl 1 rfl) ?_
  refine lvw (o := some (.int A)) (As := []) (rest := []) (stk := [.int A]) ⟨hx, hb, hml, hown, hts⟩ (mX6_course l D cy st sk sv s.heap.size (qk 0) (qk 1) (qk 7) (qk 13) (qk 19) (qk 21) (qk 23) (qk 24) (qk 25) (qk 2) (qk 3) (qk 4) (qk 5) (qk 6) _ n uK uN.1 uN.2.1 uN.2.2.1 uN.2.2.2.1 uN.2.2.2.2.1 uN.2.2.2.2.2.1 uN.2.2.2.2.2.2.1 uN.2.2.2.2.2.2.2.1 uN.2.2.2.2.2.2.2.2.1 uN.2.2.2.2.2.2.2.2.2 (A, N') e1) (cwV 0 hts gL_law_X6_course rfl rfl rfl (by decide +kernel) ⟨Nat.le_of_ble_eq_true rfl, Nat.le_of_ble_eq_true rfl⟩) ⟨Nat.le_of_ble_eq_true rfl, Nat.le_of_ble_eq_true rfl⟩ hG hS hAB hA hP hD [0, 1, 2, 3, 4, 5, 6] (by decide) rfl rfl rfl rfl 0 6 rfl rfl rfl rfl hl.1 rfl (Nat.le_of_ble_eq_true rfl) dL_law_607 rfl (fun H locs hP hD hS => ?_)
  have hP : va_P D vwCl (WK cy qk uK N' uY uE uA uW uS uF uG ++ WM cy qm uM u_s u_held u_aside u_before u_tape u_rows u_sortOf u_sizeOf u_numbers u_holdsWhat u_holdsWhich u_holdsMany u_bodies) H := hP
  have hD : va_D (LQ s) (WK cy qk uK N' uY uE uA uW uS uF uG ++ WM cy qm uM u_s u_held u_aside u_before u_tape u_rows u_sortOf u_sizeOf u_numbers u_holdsWhat u_holdsWhich u_holdsMany u_bodies) := hD
  refine lv_aload_n hx hb dL_law_610 rfl (lv_at hl 2 rfl) ?_
  refine lvw (o := some (.int A)) (As := []) (rest := [.int A]) (stk := [.int A, .int A]) ⟨hx, hb, hml, hown, hts⟩ (mX7_course l D cy st sk sv s.heap.size (qm 0) (qm 1) (qm 2) (qm 3) (qm 4) (qm 5) (qm 6) (qm 7) (qm 8) (qm 9) (qm 10) (qm 11) (qm 12) (qm 13) _ n uM.1 uM.2.1 uM.2.2.1 uM.2.2.2.1 uM.2.2.2.2.1 uM.2.2.2.2.2.1 uM.2.2.2.2.2.2.1 uM.2.2.2.2.2.2.2.1 uM.2.2.2.2.2.2.2.2.1 uM.2.2.2.2.2.2.2.2.2.1 uM.2.2.2.2.2.2.2.2.2.2.1 uM.2.2.2.2.2.2.2.2.2.2.2.1 uM.2.2.2.2.2.2.2.2.2.2.2.2 u_s (A, s') e2) (cwV 0 hts gL_law_X7_course rfl rfl rfl (by decide +kernel) ⟨Nat.le_of_ble_eq_true rfl, Nat.le_of_ble_eq_true rfl⟩) ⟨Nat.le_of_ble_eq_true rfl, Nat.le_of_ble_eq_true rfl⟩ hG hS hAB hA hP hD [39, 40] (by decide) rfl rfl rfl rfl 0 7 rfl rfl rfl rfl hl.1 rfl (Nat.le_of_ble_eq_true rfl) dL_law_611 rfl (fun H locs hP hD hS => ?_)
  have hP : va_P D vwCl (WK cy qk uK N' uY uE uA uW uS uF uG ++ WM cy qm uM s' u_held u_aside u_before u_tape u_rows u_sortOf u_sizeOf u_numbers u_holdsWhat u_holdsWhich u_holdsMany u_bodies) H := hP
  have hD : va_D (LQ s) (WK cy qk uK N' uY uE uA uW uS uF uG ++ WM cy qm uM s' u_held u_aside u_before u_tape u_rows u_sortOf u_sizeOf u_numbers u_holdsWhat u_holdsWhich u_holdsMany u_bodies) := hD
  refine lv_icmp_eq (tgt := 1561) hx hb dL_law_614 (by decide) (fun _ => ?_) (fun c9 => absurd rfl c9)
  exact nx uK N' uY uE uA uW uS uF uG uM s' u_held u_aside u_before u_tape u_rows u_sortOf u_sizeOf u_numbers u_holdsWhat u_holdsWhich u_holdsMany u_bodies ⟨rT1, rE, rA, rW, rS, rF, rG⟩ H locs ls hP hD hS hl
