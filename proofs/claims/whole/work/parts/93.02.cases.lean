/-! THE LAW, 2: a call of each -/
set_option maxRecDepth 100000 in
set_option maxHeartbeats 4000000 in
theorem law_luck {p : Program} {l : Launch} {e : Env} {s : State} {m : MethodId} {below : List Frame} {meth : Method} {c : Code} {b L i n : Nat} {xs : Nat → Int32} {D : va_G} {cy : Nat → ClassId} {st sk sv : Nat → Nat} {qk qm : Nat → Nat} (X : LX p s m c b L xs D cy st sk sv) (hn : 300 ≤ n) (hi : i + 5 ≤ L) (nx : LI p l e s m below meth c b D cy qk qm i 1561) : LI p l e s m below meth c b D cy qk qm i 619 := by
  intro uK uN uY uE uA uW uS uF uG uM u_s u_held u_aside u_before u_tape u_rows u_sortOf u_sizeOf u_numbers u_holdsWhat u_holdsWhich u_holdsMany u_bodies hR H locs ls hP hD hS hl
  obtain ⟨rT, rE, rA, rW, rS, rF, rG⟩ := hR
  have X' := X
  obtain ⟨hx, hb, hml, hown, hts, hX, hbl, hL, hG⟩ := X
  have hA : ∀ q : Nat, s.heap.size ≤ q → LQ s q := fun _ h => h
  have hAB : ∀ q : Nat, LQ s q → s.heap.size ≤ q := fun _ h => h
  obtain ⟨A, Y', s', a', e1, e2, rT1⟩ := p_luck (n := n) (uK := uK) (uN := uN) (uY := uY) (uM := uM) (s := u_s) (a := u_aside) hn rT (xs (i + 1))
  refine lv_aload_n hx hb dL_law_619 rfl (lv_at hl 1 rfl) ?_
  refine law_arg X' hi hS hl 1 (by decide) (by decide) dL_law_620 dL_law_621 dL_law_622 dL_law_623 dL_law_624 ?_
  refine lvw (o := some (.int A)) (As := [.int (xs (i + 1))]) (rest := []) (stk := [.int A]) ⟨hx, hb, hml, hown, hts⟩ (mX6_luck l D cy st sk sv s.heap.size (qk 0) (qk 1) (qk 7) (qk 13) (qk 19) (qk 21) (qk 23) (qk 24) (qk 25) (qk 2) (qk 3) (qk 4) (qk 5) (qk 6) (qk 8) (qk 9) (qk 10) (qk 11) (qk 12) _ n uK uN.1 uN.2.1 uN.2.2.1 uN.2.2.2.1 uN.2.2.2.2.1 uN.2.2.2.2.2.1 uN.2.2.2.2.2.2.1 uN.2.2.2.2.2.2.2.1 uN.2.2.2.2.2.2.2.2.1 uN.2.2.2.2.2.2.2.2.2 uY.1 uY.2.1 uY.2.2.1 uY.2.2.2.1 uY.2.2.2.2.1 uY.2.2.2.2.2.1 uY.2.2.2.2.2.2.1 uY.2.2.2.2.2.2.2.1 uY.2.2.2.2.2.2.2.2.1 uY.2.2.2.2.2.2.2.2.2 (xs (i + 1)) (A, Y') e1) (cwV 1 hts gL_law_X6_luck rfl rfl rfl (by decide +kernel) ⟨Nat.le_of_ble_eq_true rfl, Nat.le_of_ble_eq_true rfl⟩) ⟨Nat.le_of_ble_eq_true rfl, Nat.le_of_ble_eq_true rfl⟩ hG hS hAB hA hP hD [0, 1, 2, 3, 4, 5, 6, 7, 8, 9, 10, 11, 12] (by decide) rfl rfl rfl rfl 0 6 rfl rfl rfl rfl hl.1 rfl (Nat.le_of_ble_eq_true rfl) dL_law_625 rfl (fun H locs hP hD hS => ?_)
  have hP : va_P D vwCl (WK cy qk uK uN Y' uE uA uW uS uF uG ++ WM cy qm uM u_s u_held u_aside u_before u_tape u_rows u_sortOf u_sizeOf u_numbers u_holdsWhat u_holdsWhich u_holdsMany u_bodies) H := hP
  have hD : va_D (LQ s) (WK cy qk uK uN Y' uE uA uW uS uF uG ++ WM cy qm uM u_s u_held u_aside u_before u_tape u_rows u_sortOf u_sizeOf u_numbers u_holdsWhat u_holdsWhich u_holdsMany u_bodies) := hD
  refine lv_aload_n hx hb dL_law_628 rfl (lv_at hl 2 rfl) ?_
  refine law_arg X' hi hS hl 1 (by decide) (by decide) dL_law_629 dL_law_630 dL_law_631 dL_law_632 dL_law_633 ?_
  refine lvw (o := some (.int A)) (As := [.int (xs (i + 1))]) (rest := [.int A]) (stk := [.int A, .int A]) ⟨hx, hb, hml, hown, hts⟩ (mX7_luck l D cy st sk sv s.heap.size (qm 0) (qm 1) (qm 2) (qm 3) (qm 4) (qm 5) (qm 6) (qm 7) (qm 8) (qm 9) (qm 10) (qm 11) (qm 12) (qm 13) _ n uM.1 uM.2.1 uM.2.2.1 uM.2.2.2.1 uM.2.2.2.2.1 uM.2.2.2.2.2.1 uM.2.2.2.2.2.2.1 uM.2.2.2.2.2.2.2.1 uM.2.2.2.2.2.2.2.2.1 uM.2.2.2.2.2.2.2.2.2.1 uM.2.2.2.2.2.2.2.2.2.2.1 uM.2.2.2.2.2.2.2.2.2.2.2.1 uM.2.2.2.2.2.2.2.2.2.2.2.2 u_s u_aside (xs (i + 1)) (A, s', a') e2) (cwV 1 hts gL_law_X7_luck rfl rfl rfl (by decide +kernel) ⟨Nat.le_of_ble_eq_true rfl, Nat.le_of_ble_eq_true rfl⟩) ⟨Nat.le_of_ble_eq_true rfl, Nat.le_of_ble_eq_true rfl⟩ hG hS hAB hA hP hD [39, 40, 42] (by decide) rfl rfl rfl rfl 0 7 rfl rfl rfl rfl hl.1 rfl (Nat.le_of_ble_eq_true rfl) dL_law_634 rfl (fun H locs hP hD hS => ?_)
  have hP : va_P D vwCl (WK cy qk uK uN Y' uE uA uW uS uF uG ++ WM cy qm uM s' u_held a' u_before u_tape u_rows u_sortOf u_sizeOf u_numbers u_holdsWhat u_holdsWhich u_holdsMany u_bodies) H := hP
  have hD : va_D (LQ s) (WK cy qk uK uN Y' uE uA uW uS uF uG ++ WM cy qm uM s' u_held a' u_before u_tape u_rows u_sortOf u_sizeOf u_numbers u_holdsWhat u_holdsWhich u_holdsMany u_bodies) := hD
  refine lv_icmp_eq (tgt := 1561) hx hb dL_law_637 (by decide) (fun _ => ?_) (fun c9 => absurd rfl c9)
  exact nx uK uN Y' uE uA uW uS uF uG uM s' u_held a' u_before u_tape u_rows u_sortOf u_sizeOf u_numbers u_holdsWhat u_holdsWhich u_holdsMany u_bodies ⟨rT1, rE, rA, rW, rS, rF, rG⟩ H locs ls hP hD hS hl
set_option maxRecDepth 100000 in
set_option maxHeartbeats 4000000 in
theorem law_state {p : Program} {l : Launch} {e : Env} {s : State} {m : MethodId} {below : List Frame} {meth : Method} {c : Code} {b L i n : Nat} {xs : Nat → Int32} {D : va_G} {cy : Nat → ClassId} {st sk sv : Nat → Nat} {qk qm : Nat → Nat} (X : LX p s m c b L xs D cy st sk sv) (hn : 300 ≤ n) (hi : i + 5 ≤ L) (nx : LI p l e s m below meth c b D cy qk qm i 1561) : LI p l e s m below meth c b D cy qk qm i 642 := by
  intro uK uN uY uE uA uW uS uF uG uM u_s u_held u_aside u_before u_tape u_rows u_sortOf u_sizeOf u_numbers u_holdsWhat u_holdsWhich u_holdsMany u_bodies hR H locs ls hP hD hS hl
  obtain ⟨rT, rE, rA, rW, rS, rF, rG⟩ := hR
  have X' := X
  obtain ⟨hx, hb, hml, hown, hts, hX, hbl, hL, hG⟩ := X
  have hA : ∀ q : Nat, s.heap.size ≤ q → LQ s q := fun _ h => h
  have hAB : ∀ q : Nat, LQ s q → s.heap.size ≤ q := fun _ h => h
  obtain ⟨A, e1, e2⟩ := p_state (n := n) (uK := uK) (uN := uN) (uM := uM) (s := u_s) hn rT (xs (i + 1))
  refine lv_aload_n hx hb dL_law_642 rfl (lv_at hl 1 rfl) ?_
  refine law_arg X' hi hS hl 1 (by decide) (by decide) dL_law_643 dL_law_644 dL_law_645 dL_law_646 dL_law_647 ?_
  refine lvr (o := some (.int A)) (As := [.int (xs (i + 1))]) (rest := []) (stk := [.int A]) ⟨hx, hb, hml, hown, hts⟩ (mX6_state l D cy st sk sv s.heap.size (qk 0) (qk 1) (qk 7) (qk 13) (qk 19) (qk 21) (qk 23) (qk 24) (qk 25) (qk 2) (qk 3) (qk 4) (qk 5) (qk 6) n uK uN.1 uN.2.1 uN.2.2.1 uN.2.2.2.1 uN.2.2.2.2.1 uN.2.2.2.2.2.1 uN.2.2.2.2.2.2.1 uN.2.2.2.2.2.2.2.1 uN.2.2.2.2.2.2.2.2.1 uN.2.2.2.2.2.2.2.2.2 (xs (i + 1)) A e1) (cwV 1 hts gL_law_X6_state rfl rfl rfl (by decide +kernel) ⟨Nat.le_of_ble_eq_true rfl, Nat.le_of_ble_eq_true rfl⟩) ⟨Nat.le_of_ble_eq_true rfl, Nat.le_of_ble_eq_true rfl⟩ hG hS hAB hP [0, 1, 2, 3, 4, 5, 6] rfl 0 6 rfl rfl rfl rfl hl.1 rfl (Nat.le_of_ble_eq_true rfl) dL_law_648 rfl ?_
  refine lv_aload_n hx hb dL_law_651 rfl (lv_at hl 2 rfl) ?_
  refine law_arg X' hi hS hl 1 (by decide) (by decide) dL_law_652 dL_law_653 dL_law_654 dL_law_655 dL_law_656 ?_
  refine lvr (o := some (.int A)) (As := [.int (xs (i + 1))]) (rest := [.int A]) (stk := [.int A, .int A]) ⟨hx, hb, hml, hown, hts⟩ (mX7_state l D cy st sk sv s.heap.size (qm 0) (qm 1) (qm 2) (qm 3) (qm 4) (qm 5) (qm 6) (qm 7) (qm 8) (qm 9) (qm 10) (qm 11) (qm 12) (qm 13) n uM.1 uM.2.1 uM.2.2.1 uM.2.2.2.1 uM.2.2.2.2.1 uM.2.2.2.2.2.1 uM.2.2.2.2.2.2.1 uM.2.2.2.2.2.2.2.1 uM.2.2.2.2.2.2.2.2.1 uM.2.2.2.2.2.2.2.2.2.1 uM.2.2.2.2.2.2.2.2.2.2.1 uM.2.2.2.2.2.2.2.2.2.2.2.1 uM.2.2.2.2.2.2.2.2.2.2.2.2 u_s (xs (i + 1)) A e2) (cwV 1 hts gL_law_X7_state rfl rfl rfl (by decide +kernel) ⟨Nat.le_of_ble_eq_true rfl, Nat.le_of_ble_eq_true rfl⟩) ⟨Nat.le_of_ble_eq_true rfl, Nat.le_of_ble_eq_true rfl⟩ hG hS hAB hP [39, 40] rfl 0 7 rfl rfl rfl rfl hl.1 rfl (Nat.le_of_ble_eq_true rfl) dL_law_657 rfl ?_
  refine lv_icmp_eq (tgt := 1561) hx hb dL_law_660 (by decide) (fun _ => ?_) (fun c9 => absurd rfl c9)
  exact nx uK uN uY uE uA uW uS uF uG uM u_s u_held u_aside u_before u_tape u_rows u_sortOf u_sizeOf u_numbers u_holdsWhat u_holdsWhich u_holdsMany u_bodies ⟨rT, rE, rA, rW, rS, rF, rG⟩ H locs ls hP hD hS hl
set_option maxRecDepth 100000 in
set_option maxHeartbeats 4000000 in
theorem law_deep {p : Program} {l : Launch} {e : Env} {s : State} {m : MethodId} {below : List Frame} {meth : Method} {c : Code} {b L i n : Nat} {xs : Nat → Int32} {D : va_G} {cy : Nat → ClassId} {st sk sv : Nat → Nat} {qk qm : Nat → Nat} (X : LX p s m c b L xs D cy st sk sv) (hn : 300 ≤ n) (hi : i + 5 ≤ L) (nx : LI p l e s m below meth c b D cy qk qm i 1561) : LI p l e s m below meth c b D cy qk qm i 665 := by
  intro uK uN uY uE uA uW uS uF uG uM u_s u_held u_aside u_before u_tape u_rows u_sortOf u_sizeOf u_numbers u_holdsWhat u_holdsWhich u_holdsMany u_bodies hR H locs ls hP hD hS hl
  obtain ⟨rT, rE, rA, rW, rS, rF, rG⟩ := hR
  have X' := X
  obtain ⟨hx, hb, hml, hown, hts, hX, hbl, hL, hG⟩ := X
  have hA : ∀ q : Nat, s.heap.size ≤ q → LQ s q := fun _ h => h
  have hAB : ∀ q : Nat, LQ s q → s.heap.size ≤ q := fun _ h => h
  obtain ⟨A, Y', s', a', e1, e2, rT1⟩ := p_deep (n := n) (uK := uK) (uN := uN) (uY := uY) (uM := uM) (s := u_s) (a := u_aside) hn rT (xs (i + 1)) (xs (i + 2))
  refine lv_aload_n hx hb dL_law_665 rfl (lv_at hl 1 rfl) ?_
  refine law_arg X' hi hS hl 1 (by decide) (by decide) dL_law_666 dL_law_667 dL_law_668 dL_law_669 dL_law_670 ?_
  refine law_arg X' hi hS hl 2 (by decide) (by decide) dL_law_671 dL_law_672 dL_law_673 dL_law_674 dL_law_675 ?_
  refine lvw (o := some (.int A)) (As := [.int (xs (i + 1)), .int (xs (i + 2))]) (rest := []) (stk := [.int A]) ⟨hx, hb, hml, hown, hts⟩ (mX6_deep l D cy st sk sv s.heap.size (qk 0) (qk 1) (qk 7) (qk 13) (qk 19) (qk 21) (qk 23) (qk 24) (qk 25) (qk 2) (qk 3) (qk 4) (qk 5) (qk 6) (qk 8) (qk 9) (qk 10) (qk 11) (qk 12) _ n uK uN.1 uN.2.1 uN.2.2.1 uN.2.2.2.1 uN.2.2.2.2.1 uN.2.2.2.2.2.1 uN.2.2.2.2.2.2.1 uN.2.2.2.2.2.2.2.1 uN.2.2.2.2.2.2.2.2.1 uN.2.2.2.2.2.2.2.2.2 uY.1 uY.2.1 uY.2.2.1 uY.2.2.2.1 uY.2.2.2.2.1 uY.2.2.2.2.2.1 uY.2.2.2.2.2.2.1 uY.2.2.2.2.2.2.2.1 uY.2.2.2.2.2.2.2.2.1 uY.2.2.2.2.2.2.2.2.2 (xs (i + 1)) (xs (i + 2)) (A, Y') e1) (cwV 2 hts gL_law_X6_deep rfl rfl rfl (by decide +kernel) ⟨Nat.le_of_ble_eq_true rfl, Nat.le_of_ble_eq_true rfl⟩) ⟨Nat.le_of_ble_eq_true rfl, Nat.le_of_ble_eq_true rfl⟩ hG hS hAB hA hP hD [0, 1, 2, 3, 4, 5, 6, 7, 8, 9, 10, 11, 12] (by decide) rfl rfl rfl rfl 0 6 rfl rfl rfl rfl hl.1 rfl (Nat.le_of_ble_eq_true rfl) dL_law_676 rfl (fun H locs hP hD hS => ?_)
  have hP : va_P D vwCl (WK cy qk uK uN Y' uE uA uW uS uF uG ++ WM cy qm uM u_s u_held u_aside u_before u_tape u_rows u_sortOf u_sizeOf u_numbers u_holdsWhat u_holdsWhich u_holdsMany u_bodies) H := hP
  have hD : va_D (LQ s) (WK cy qk uK uN Y' uE uA uW uS uF uG ++ WM cy qm uM u_s u_held u_aside u_before u_tape u_rows u_sortOf u_sizeOf u_numbers u_holdsWhat u_holdsWhich u_holdsMany u_bodies) := hD
  refine lv_aload_n hx hb dL_law_679 rfl (lv_at hl 2 rfl) ?_
  refine law_arg X' hi hS hl 1 (by decide) (by decide) dL_law_680 dL_law_681 dL_law_682 dL_law_683 dL_law_684 ?_
  refine law_arg X' hi hS hl 2 (by decide) (by decide) dL_law_685 dL_law_686 dL_law_687 dL_law_688 dL_law_689 ?_
  refine lvw (o := some (.int A)) (As := [.int (xs (i + 1)), .int (xs (i + 2))]) (rest := [.int A]) (stk := [.int A, .int A]) ⟨hx, hb, hml, hown, hts⟩ (mX7_deep l D cy st sk sv s.heap.size (qm 0) (qm 1) (qm 2) (qm 3) (qm 4) (qm 5) (qm 6) (qm 7) (qm 8) (qm 9) (qm 10) (qm 11) (qm 12) (qm 13) _ n uM.1 uM.2.1 uM.2.2.1 uM.2.2.2.1 uM.2.2.2.2.1 uM.2.2.2.2.2.1 uM.2.2.2.2.2.2.1 uM.2.2.2.2.2.2.2.1 uM.2.2.2.2.2.2.2.2.1 uM.2.2.2.2.2.2.2.2.2.1 uM.2.2.2.2.2.2.2.2.2.2.1 uM.2.2.2.2.2.2.2.2.2.2.2.1 uM.2.2.2.2.2.2.2.2.2.2.2.2 u_s u_aside (xs (i + 1)) (xs (i + 2)) (A, s', a') e2) (cwV 2 hts gL_law_X7_deep rfl rfl rfl (by decide +kernel) ⟨Nat.le_of_ble_eq_true rfl, Nat.le_of_ble_eq_true rfl⟩) ⟨Nat.le_of_ble_eq_true rfl, Nat.le_of_ble_eq_true rfl⟩ hG hS hAB hA hP hD [39, 40, 42] (by decide) rfl rfl rfl rfl 0 7 rfl rfl rfl rfl hl.1 rfl (Nat.le_of_ble_eq_true rfl) dL_law_690 rfl (fun H locs hP hD hS => ?_)
  have hP : va_P D vwCl (WK cy qk uK uN Y' uE uA uW uS uF uG ++ WM cy qm uM s' u_held a' u_before u_tape u_rows u_sortOf u_sizeOf u_numbers u_holdsWhat u_holdsWhich u_holdsMany u_bodies) H := hP
  have hD : va_D (LQ s) (WK cy qk uK uN Y' uE uA uW uS uF uG ++ WM cy qm uM s' u_held a' u_before u_tape u_rows u_sortOf u_sizeOf u_numbers u_holdsWhat u_holdsWhich u_holdsMany u_bodies) := hD
  refine lv_icmp_eq (tgt := 1561) hx hb dL_law_693 (by decide) (fun _ => ?_) (fun c9 => absurd rfl c9)
  exact nx uK uN Y' uE uA uW uS uF uG uM s' u_held a' u_before u_tape u_rows u_sortOf u_sizeOf u_numbers u_holdsWhat u_holdsWhich u_holdsMany u_bodies ⟨rT1, rE, rA, rW, rS, rF, rG⟩ H locs ls hP hD hS hl
set_option maxRecDepth 100000 in
set_option maxHeartbeats 4000000 in
theorem law_speaks {p : Program} {l : Launch} {e : Env} {s : State} {m : MethodId} {below : List Frame} {meth : Method} {c : Code} {b L i n : Nat} {xs : Nat → Int32} {D : va_G} {cy : Nat → ClassId} {st sk sv : Nat → Nat} {qk qm : Nat → Nat} (X : LX p s m c b L xs D cy st sk sv) (hn : 300 ≤ n) (hi : i + 5 ≤ L) (nx : LI p l e s m below meth c b D cy qk qm i 1561) : LI p l e s m below meth c b D cy qk qm i 698 := by
  intro uK uN uY uE uA uW uS uF uG uM u_s u_held u_aside u_before u_tape u_rows u_sortOf u_sizeOf u_numbers u_holdsWhat u_holdsWhich u_holdsMany u_bodies hR H locs ls hP hD hS hl
  obtain ⟨rT, rE, rA, rW, rS, rF, rG⟩ := hR
  have X' := X
  obtain ⟨hx, hb, hml, hown, hts, hX, hbl, hL, hG⟩ := X
  have hA : ∀ q : Nat, s.heap.size ≤ q → LQ s q := fun _ h => h
  have hAB : ∀ q : Nat, LQ s q → s.heap.size ≤ q := fun _ h => h
  obtain ⟨A, Y', s', a', e1, e2, rT1⟩ := p_speaks (n := n) (uK := uK) (uN := uN) (uY := uY) (uM := uM) (s := u_s) (a := u_aside) hn rT (xs (i + 1))
  refine lv_aload_n hx hb dL_law_698 rfl (lv_at hl 1 rfl) ?_
  refine law_arg X' hi hS hl 1 (by decide) (by decide) dL_law_699 dL_law_700 dL_law_701 dL_law_702 dL_law_703 ?_
  refine lvw (o := some (.int A)) (As := [.int (xs (i + 1))]) (rest := []) (stk := [.int A]) ⟨hx, hb, hml, hown, hts⟩ (mX6_speaks l D cy st sk sv s.heap.size (qk 0) (qk 1) (qk 7) (qk 13) (qk 19) (qk 21) (qk 23) (qk 24) (qk 25) (qk 2) (qk 3) (qk 4) (qk 5) (qk 6) (qk 8) (qk 9) (qk 10) (qk 11) (qk 12) _ n uK uN.1 uN.2.1 uN.2.2.1 uN.2.2.2.1 uN.2.2.2.2.1 uN.2.2.2.2.2.1 uN.2.2.2.2.2.2.1 uN.2.2.2.2.2.2.2.1 uN.2.2.2.2.2.2.2.2.1 uN.2.2.2.2.2.2.2.2.2 uY.1 uY.2.1 uY.2.2.1 uY.2.2.2.1 uY.2.2.2.2.1 uY.2.2.2.2.2.1 uY.2.2.2.2.2.2.1 uY.2.2.2.2.2.2.2.1 uY.2.2.2.2.2.2.2.2.1 uY.2.2.2.2.2.2.2.2.2 (xs (i + 1)) (A, Y') e1) (cwV 1 hts gL_law_X6_speaks rfl rfl rfl (by decide +kernel) ⟨Nat.le_of_ble_eq_true rfl, Nat.le_of_ble_eq_true rfl⟩) ⟨Nat.le_of_ble_eq_true rfl, Nat.le_of_ble_eq_true rfl⟩ hG hS hAB hA hP hD [0, 1, 2, 3, 4, 5, 6, 7, 8, 9, 10, 11, 12] (by decide) rfl rfl rfl rfl 0 6 rfl rfl rfl rfl hl.1 rfl (Nat.le_of_ble_eq_true rfl) dL_law_704 rfl (fun H locs hP hD hS => ?_)
  have hP : va_P D vwCl (WK cy qk uK uN Y' uE uA uW uS uF uG ++ WM cy qm uM u_s u_held u_aside u_before u_tape u_rows u_sortOf u_sizeOf u_numbers u_holdsWhat u_holdsWhich u_holdsMany u_bodies) H := hP
  have hD : va_D (LQ s) (WK cy qk uK uN Y' uE uA uW uS uF uG ++ WM cy qm uM u_s u_held u_aside u_before u_tape u_rows u_sortOf u_sizeOf u_numbers u_holdsWhat u_holdsWhich u_holdsMany u_bodies) := hD
  refine lv_aload_n hx hb dL_law_707 rfl (lv_at hl 2 rfl) ?_
  refine law_arg X' hi hS hl 1 (by decide) (by decide) dL_law_708 dL_law_709 dL_law_710 dL_law_711 dL_law_712 ?_
  refine lvw (o := some (.int A)) (As := [.int (xs (i + 1))]) (rest := [.int A]) (stk := [.int A, .int A]) ⟨hx, hb, hml, hown, hts⟩ (mX7_speaks l D cy st sk sv s.heap.size (qm 0) (qm 1) (qm 2) (qm 3) (qm 4) (qm 5) (qm 6) (qm 7) (qm 8) (qm 9) (qm 10) (qm 11) (qm 12) (qm 13) _ n uM.1 uM.2.1 uM.2.2.1 uM.2.2.2.1 uM.2.2.2.2.1 uM.2.2.2.2.2.1 uM.2.2.2.2.2.2.1 uM.2.2.2.2.2.2.2.1 uM.2.2.2.2.2.2.2.2.1 uM.2.2.2.2.2.2.2.2.2.1 uM.2.2.2.2.2.2.2.2.2.2.1 uM.2.2.2.2.2.2.2.2.2.2.2.1 uM.2.2.2.2.2.2.2.2.2.2.2.2 u_s u_aside (xs (i + 1)) (A, s', a') e2) (cwV 1 hts gL_law_X7_speaks rfl rfl rfl (by decide +kernel) ⟨Nat.le_of_ble_eq_true rfl, Nat.le_of_ble_eq_true rfl⟩) ⟨Nat.le_of_ble_eq_true rfl, Nat.le_of_ble_eq_true rfl⟩ hG hS hAB hA hP hD [39, 40, 42] (by decide) rfl rfl rfl rfl 0 7 rfl rfl rfl rfl hl.1 rfl (Nat.le_of_ble_eq_true rfl) dL_law_713 rfl (fun H locs hP hD hS => ?_)
  have hP : va_P D vwCl (WK cy qk uK uN Y' uE uA uW uS uF uG ++ WM cy qm uM s' u_held a' u_before u_tape u_rows u_sortOf u_sizeOf u_numbers u_holdsWhat u_holdsWhich u_holdsMany u_bodies) H := hP
  have hD : va_D (LQ s) (WK cy qk uK uN Y' uE uA uW uS uF uG ++ WM cy qm uM s' u_held a' u_before u_tape u_rows u_sortOf u_sizeOf u_numbers u_holdsWhat u_holdsWhich u_holdsMany u_bodies) := hD
  refine lv_icmp_eq (tgt := 1561) hx hb dL_law_716 (by decide) (fun _ => ?_) (fun c9 => absurd rfl c9)
  exact nx uK uN Y' uE uA uW uS uF uG uM s' u_held a' u_before u_tape u_rows u_sortOf u_sizeOf u_numbers u_holdsWhat u_holdsWhich u_holdsMany u_bodies ⟨rT1, rE, rA, rW, rS, rF, rG⟩ H locs ls hP hD hS hl
set_option maxRecDepth 100000 in
set_option maxHeartbeats 4000000 in
theorem law_sinks {p : Program} {l : Launch} {e : Env} {s : State} {m : MethodId} {below : List Frame} {meth : Method} {c : Code} {b L i n : Nat} {xs : Nat → Int32} {D : va_G} {cy : Nat → ClassId} {st sk sv : Nat → Nat} {qk qm : Nat → Nat} (X : LX p s m c b L xs D cy st sk sv) (hn : 300 ≤ n) (hi : i + 5 ≤ L) (nx : LI p l e s m below meth c b D cy qk qm i 1561) : LI p l e s m below meth c b D cy qk qm i 721 := by
  intro uK uN uY uE uA uW uS uF uG uM u_s u_held u_aside u_before u_tape u_rows u_sortOf u_sizeOf u_numbers u_holdsWhat u_holdsWhich u_holdsMany u_bodies hR H locs ls hP hD hS hl
  obtain ⟨rT, rE, rA, rW, rS, rF, rG⟩ := hR
  have X' := X
  obtain ⟨hx, hb, hml, hown, hts, hX, hbl, hL, hG⟩ := X
  have hA : ∀ q : Nat, s.heap.size ≤ q → LQ s q := fun _ h => h
  have hAB : ∀ q : Nat, LQ s q → s.heap.size ≤ q := fun _ h => h
  obtain ⟨A, Y', s', a', e1, e2, rT1⟩ := p_sinks (n := n) (uK := uK) (uN := uN) (uY := uY) (uM := uM) (s := u_s) (a := u_aside) hn rT (xs (i + 1))
  refine lv_aload_n hx hb dL_law_721 rfl (lv_at hl 1 rfl) ?_
  refine law_arg X' hi hS hl 1 (by decide) (by decide) dL_law_722 dL_law_723 dL_law_724 dL_law_725 dL_law_726 ?_
  refine lvw (o := some (.int A)) (As := [.int (xs (i + 1))]) (rest := []) (stk := [.int A]) ⟨hx, hb, hml, hown, hts⟩ (mX6_sinks l D cy st sk sv s.heap.size (qk 0) (qk 1) (qk 7) (qk 13) (qk 19) (qk 21) (qk 23) (qk 24) (qk 25) (qk 2) (qk 3) (qk 4) (qk 5) (qk 6) (qk 8) (qk 9) (qk 10) (qk 11) (qk 12) _ n uK uN.1 uN.2.1 uN.2.2.1 uN.2.2.2.1 uN.2.2.2.2.1 uN.2.2.2.2.2.1 uN.2.2.2.2.2.2.1 uN.2.2.2.2.2.2.2.1 uN.2.2.2.2.2.2.2.2.1 uN.2.2.2.2.2.2.2.2.2 uY.1 uY.2.1 uY.2.2.1 uY.2.2.2.1 uY.2.2.2.2.1 uY.2.2.2.2.2.1 uY.2.2.2.2.2.2.1 uY.2.2.2.2.2.2.2.1 uY.2.2.2.2.2.2.2.2.1 uY.2.2.2.2.2.2.2.2.2 (xs (i + 1)) (A, Y') e1) (cwV 1 hts gL_law_X6_sinks rfl rfl rfl (by decide +kernel) ⟨Nat.le_of_ble_eq_true rfl, Nat.le_of_ble_eq_true rfl⟩) ⟨Nat.le_of_ble_eq_true rfl, Nat.le_of_ble_eq_true rfl⟩ hG hS hAB hA hP hD [0, 1, 2, 3, 4, 5, 6, 7, 8, 9, 10, 11, 12] (by decide) rfl rfl rfl rfl 0 6 rfl rfl rfl rfl hl.1 rfl (Nat.le_of_ble_eq_true rfl) dL_law_727 rfl (fun H locs hP hD hS => ?_)
  have hP : va_P D vwCl (WK cy qk uK uN Y' uE uA uW uS uF uG ++ WM cy qm uM u_s u_held u_aside u_before u_tape u_rows u_sortOf u_sizeOf u_numbers u_holdsWhat u_holdsWhich u_holdsMany u_bodies) H := hP
  have hD : va_D (LQ s) (WK cy qk uK uN Y' uE uA uW uS uF uG ++ WM cy qm uM u_s u_held u_aside u_before u_tape u_rows u_sortOf u_sizeOf u_numbers u_holdsWhat u_holdsWhich u_holdsMany u_bodies) := hD
  refine lv_aload_n hx hb dL_law_730 rfl (lv_at hl 2 rfl) ?_
  refine law_arg X' hi hS hl 1 (by decide) (by decide) dL_law_731 dL_law_732 dL_law_733 dL_law_734 dL_law_735 ?_
  refine lvw (o := some (.int A)) (As := [.int (xs (i + 1))]) (rest := [.int A]) (stk := [.int A, .int A]) ⟨hx, hb, hml, hown, hts⟩ (mX7_sinks l D cy st sk sv s.heap.size (qm 0) (qm 1) (qm 2) (qm 3) (qm 4) (qm 5) (qm 6) (qm 7) (qm 8) (qm 9) (qm 10) (qm 11) (qm 12) (qm 13) _ n uM.1 uM.2.1 uM.2.2.1 uM.2.2.2.1 uM.2.2.2.2.1 uM.2.2.2.2.2.1 uM.2.2.2.2.2.2.1 uM.2.2.2.2.2.2.2.1 uM.2.2.2.2.2.2.2.2.1 uM.2.2.2.2.2.2.2.2.2.1 uM.2.2.2.2.2.2.2.2.2.2.1 uM.2.2.2.2.2.2.2.2.2.2.2.1 uM.2.2.2.2.2.2.2.2.2.2.2.2 u_s u_aside (xs (i + 1)) (A, s', a') e2) (cwV 1 hts gL_law_X7_sinks rfl rfl rfl (by decide +kernel) ⟨Nat.le_of_ble_eq_true rfl, Nat.le_of_ble_eq_true rfl⟩) ⟨Nat.le_of_ble_eq_true rfl, Nat.le_of_ble_eq_true rfl⟩ hG hS hAB hA hP hD [39, 40, 42] (by decide) rfl rfl rfl rfl 0 7 rfl rfl rfl rfl hl.1 rfl (Nat.le_of_ble_eq_true rfl) dL_law_736 rfl (fun H locs hP hD hS => ?_)
  have hP : va_P D vwCl (WK cy qk uK uN Y' uE uA uW uS uF uG ++ WM cy qm uM s' u_held a' u_before u_tape u_rows u_sortOf u_sizeOf u_numbers u_holdsWhat u_holdsWhich u_holdsMany u_bodies) H := hP
  have hD : va_D (LQ s) (WK cy qk uK uN Y' uE uA uW uS uF uG ++ WM cy qm uM s' u_held a' u_before u_tape u_rows u_sortOf u_sizeOf u_numbers u_holdsWhat u_holdsWhich u_holdsMany u_bodies) := hD
  refine lv_icmp_eq (tgt := 1561) hx hb dL_law_739 (by decide) (fun _ => ?_) (fun c9 => absurd rfl c9)
  exact nx uK uN Y' uE uA uW uS uF uG uM s' u_held a' u_before u_tape u_rows u_sortOf u_sizeOf u_numbers u_holdsWhat u_holdsWhich u_holdsMany u_bodies ⟨rT1, rE, rA, rW, rS, rF, rG⟩ H locs ls hP hD hS hl
set_option maxRecDepth 100000 in
set_option maxHeartbeats 4000000 in
theorem law_whole {p : Program} {l : Launch} {e : Env} {s : State} {m : MethodId} {below : List Frame} {meth : Method} {c : Code} {b L i n : Nat} {xs : Nat → Int32} {D : va_G} {cy : Nat → ClassId} {st sk sv : Nat → Nat} {qk qm : Nat → Nat} (X : LX p s m c b L xs D cy st sk sv) (hn : 300 ≤ n) (hi : i + 5 ≤ L) (nx : LI p l e s m below meth c b D cy qk qm i 1561) : LI p l e s m below meth c b D cy qk qm i 744 := by
  intro uK uN uY uE uA uW uS uF uG uM u_s u_held u_aside u_before u_tape u_rows u_sortOf u_sizeOf u_numbers u_holdsWhat u_holdsWhich u_holdsMany u_bodies hR H locs ls hP hD hS hl
  obtain ⟨rT, rE, rA, rW, rS, rF, rG⟩ := hR
  have X' := X
  obtain ⟨hx, hb, hml, hown, hts, hX, hbl, hL, hG⟩ := X
  have hA : ∀ q : Nat, s.heap.size ≤ q → LQ s q := fun _ h => h
  have hAB : ∀ q : Nat, LQ s q → s.heap.size ≤ q := fun _ h => h
  obtain ⟨A, Y', s', a', e1, e2, rT1⟩ := p_whole (n := n) (uK := uK) (uN := uN) (uY := uY) (uM := uM) (s := u_s) (a := u_aside) hn rT
  refine lv_aload_n hx hb dL_law_744 rfl (lv_at hl 1 rfl) ?_
  refine lvw (o := some (.int A)) (As := []) (rest := []) (stk := [.int A]) ⟨hx, hb, hml, hown, hts⟩ (mX6_whole l D cy st sk sv s.heap.size (qk 0) (qk 1) (qk 7) (qk 13) (qk 19) (qk 21) (qk 23) (qk 24) (qk 25) (qk 2) (qk 3) (qk 4) (qk 5) (qk 6) (qk 8) (qk 9) (qk 10) (qk 11) (qk 12) _ n uK uN.1 uN.2.1 uN.2.2.1 uN.2.2.2.1 uN.2.2.2.2.1 uN.2.2.2.2.2.1 uN.2.2.2.2.2.2.1 uN.2.2.2.2.2.2.2.1 uN.2.2.2.2.2.2.2.2.1 uN.2.2.2.2.2.2.2.2.2 uY.1 uY.2.1 uY.2.2.1 uY.2.2.2.1 uY.2.2.2.2.1 uY.2.2.2.2.2.1 uY.2.2.2.2.2.2.1 uY.2.2.2.2.2.2.2.1 uY.2.2.2.2.2.2.2.2.1 uY.2.2.2.2.2.2.2.2.2 (A, Y') e1) (cwV 0 hts gL_law_X6_whole rfl rfl rfl (by decide +kernel) ⟨Nat.le_of_ble_eq_true rfl, Nat.le_of_ble_eq_true rfl⟩) ⟨Nat.le_of_ble_eq_true rfl, Nat.le_of_ble_eq_true rfl⟩ hG hS hAB hA hP hD [0, 1, 2, 3, 4, 5, 6, 7, 8, 9, 10, 11, 12] (by decide) rfl rfl rfl rfl 0 6 rfl rfl rfl rfl hl.1 rfl (Nat.le_of_ble_eq_true rfl) dL_law_745 rfl (fun H locs hP hD hS => ?_)
  have hP : va_P D vwCl (WK cy qk uK uN Y' uE uA uW uS uF uG ++ WM cy qm uM u_s u_held u_aside u_before u_tape u_rows u_sortOf u_sizeOf u_numbers u_holdsWhat u_holdsWhich u_holdsMany u_bodies) H := hP
  have hD : va_D (LQ s) (WK cy qk uK uN Y' uE uA uW uS uF uG ++ WM cy qm uM u_s u_held u_aside u_before u_tape u_rows u_sortOf u_sizeOf u_numbers u_holdsWhat u_holdsWhich u_holdsMany u_bodies) := hD
  refine lv_aload_n hx hb dL_law_748 rfl (lv_at hl 2 rfl) ?_
  refine lvw (o := some (.int A)) (As := []) (rest := [.int A]) (stk := [.int A, .int A]) ⟨hx, hb, hml, hown, hts⟩ (mX7_whole l D cy st sk sv s.heap.size (qm 0) (qm 1) (qm 2) (qm 3) (qm 4) (qm 5) (qm 6) (qm 7) (qm 8) (qm 9) (qm 10) (qm 11) (qm 12) (qm 13) _ n uM.1 uM.2.1 uM.2.2.1 uM.2.2.2.1 uM.2.2.2.2.1 uM.2.2.2.2.2.1 uM.2.2.2.2.2.2.1 uM.2.2.2.2.2.2.2.1 uM.2.2.2.2.2.2.2.2.1 uM.2.2.2.2.2.2.2.2.2.1 uM.2.2.2.2.2.2.2.2.2.2.1 uM.2.2.2.2.2.2.2.2.2.2.2.1 uM.2.2.2.2.2.2.2.2.2.2.2.2 u_s u_aside (A, s', a') e2) (cwV 0 hts gL_law_X7_whole rfl rfl rfl (by decide +kernel) ⟨Nat.le_of_ble_eq_true rfl, Nat.le_of_ble_eq_true rfl⟩) ⟨Nat.le_of_ble_eq_true rfl, Nat.le_of_ble_eq_true rfl⟩ hG hS hAB hA hP hD [39, 40, 42] (by decide) rfl rfl rfl rfl 0 7 rfl rfl rfl rfl hl.1 rfl (Nat.le_of_ble_eq_true rfl) dL_law_749 rfl (fun H locs hP hD hS => ?_)
  have hP : va_P D vwCl (WK cy qk uK uN Y' uE uA uW uS uF uG ++ WM cy qm uM s' u_held a' u_before u_tape u_rows u_sortOf u_sizeOf u_numbers u_holdsWhat u_holdsWhich u_holdsMany u_bodies) H := hP
  have hD : va_D (LQ s) (WK cy qk uK uN Y' uE uA uW uS uF uG ++ WM cy qm uM s' u_held a' u_before u_tape u_rows u_sortOf u_sizeOf u_numbers u_holdsWhat u_holdsWhich u_holdsMany u_bodies) := hD
  refine lv_icmp_eq (tgt := 1561) hx hb dL_law_752 (by decide) (fun _ => ?_) (fun c9 => absurd rfl c9)
  exact nx uK uN Y' uE uA uW uS uF uG uM s' u_held a' u_before u_tape u_rows u_sortOf u_sizeOf u_numbers u_holdsWhat u_holdsWhich u_holdsMany u_bodies ⟨rT1, rE, rA, rW, rS, rF, rG⟩ H locs ls hP hD hS hl
