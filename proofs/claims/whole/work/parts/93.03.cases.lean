/-! THE LAW, 2: a call of each -/
set_option maxRecDepth 100000 in
set_option maxHeartbeats 4000000 in
theorem law_tale {p : Program} {l : Launch} {e : Env} {s : State} {m : MethodId} {below : List Frame} {meth : Method} {c : Code} {b L i n : Nat} {xs : Nat → Int32} {D : va_G} {cy : Nat → ClassId} {st sk sv : Nat → Nat} {qk qm : Nat → Nat} (X : LX p s m c b L xs D cy st sk sv) (hn : 300 ≤ n) (hi : i + 5 ≤ L) (nx : LI p l e s m below meth c b D cy qk qm i 1561) : LI p l e s m below meth c b D cy qk qm i 757 := by
  intro uK uN uY uE uA uW uS uF uG uM u_s u_held u_aside u_before u_tape u_rows u_sortOf u_sizeOf u_numbers u_holdsWhat u_holdsWhich u_holdsMany u_bodies hR H locs ls hP hD hS hl
  obtain ⟨rT, rE, rA, rW, rS, rF, rG⟩ := hR
  have X' := X
  obtain ⟨hx, hb, hml, hown, hts, hX, hbl, hL, hG⟩ := X
  have hA : ∀ q : Nat, s.heap.size ≤ q → LQ s q := fun _ h => h
  have hAB : ∀ q : Nat, LQ s q → s.heap.size ≤ q := fun _ h => h
  obtain ⟨A, Y', s', a', e1, e2, rT1⟩ := p_tale (n := n) (uK := uK) (uN := uN) (uY := uY) (uM := uM) (s := u_s) (a := u_aside) hn rT (xs (i + 1))
  refine lv_aload_n hx hb dL_law_757 rfl (lv_at hl 1 rfl) ?_
  refine law_arg X' hi hS hl 1 (by decide) (by decide) dL_law_758 dL_law_759 dL_law_760 dL_law_761 dL_law_762 ?_
  refine lvw (o := some (.int A)) (As := [.int (xs (i + 1))]) (rest := []) (stk := [.int A]) ⟨hx, hb, hml, hown, hts⟩ (mX6_tale l D cy st sk sv s.heap.size (qk 0) (qk 1) (qk 7) (qk 13) (qk 19) (qk 21) (qk 23) (qk 24) (qk 25) (qk 2) (qk 3) (qk 4) (qk 5) (qk 6) (qk 8) (qk 9) (qk 10) (qk 11) (qk 12) _ n uK uN.1 uN.2.1 uN.2.2.1 uN.2.2.2.1 uN.2.2.2.2.1 uN.2.2.2.2.2.1 uN.2.2.2.2.2.2.1 uN.2.2.2.2.2.2.2.1 uN.2.2.2.2.2.2.2.2.1 uN.2.2.2.2.2.2.2.2.2 uY.1 uY.2.1 uY.2.2.1 uY.2.2.2.1 uY.2.2.2.2.1 uY.2.2.2.2.2.1 uY.2.2.2.2.2.2.1 uY.2.2.2.2.2.2.2.1 uY.2.2.2.2.2.2.2.2.1 uY.2.2.2.2.2.2.2.2.2 (xs (i + 1)) (A, Y') e1) (cwV 1 hts gL_law_X6_tale rfl rfl rfl (by decide +kernel) ⟨Nat.le_of_ble_eq_true rfl, Nat.le_of_ble_eq_true rfl⟩) ⟨Nat.le_of_ble_eq_true rfl, Nat.le_of_ble_eq_true rfl⟩ hG hS hAB hA hP hD [0, 1, 2, 3, 4, 5, 6, 7, 8, 9, 10, 11, 12] (by decide) rfl rfl rfl rfl 0 6 rfl rfl rfl rfl hl.1 rfl (Nat.le_of_ble_eq_true rfl) dL_law_763 rfl (fun H locs hP hD hS => ?_)
  have hP : va_P D vwCl (WK cy qk uK uN Y' uE uA uW uS uF uG ++ WM cy qm uM u_s u_held u_aside u_before u_tape u_rows u_sortOf u_sizeOf u_numbers u_holdsWhat u_holdsWhich u_holdsMany u_bodies) H := hP
  have hD : va_D (LQ s) (WK cy qk uK uN Y' uE uA uW uS uF uG ++ WM cy qm uM u_s u_held u_aside u_before u_tape u_rows u_sortOf u_sizeOf u_numbers u_holdsWhat u_holdsWhich u_holdsMany u_bodies) := hD
  refine lv_aload_n hx hb dL_law_766 rfl (lv_at hl 2 rfl) ?_
  refine law_arg X' hi hS hl 1 (by decide) (by decide) dL_law_767 dL_law_768 dL_law_769 dL_law_770 dL_law_771 ?_
  refine lvw (o := some (.int A)) (As := [.int (xs (i + 1))]) (rest := [.int A]) (stk := [.int A, .int A]) ⟨hx, hb, hml, hown, hts⟩ (mX7_tale l D cy st sk sv s.heap.size (qm 0) (qm 1) (qm 2) (qm 3) (qm 4) (qm 5) (qm 6) (qm 7) (qm 8) (qm 9) (qm 10) (qm 11) (qm 12) (qm 13) _ n uM.1 uM.2.1 uM.2.2.1 uM.2.2.2.1 uM.2.2.2.2.1 uM.2.2.2.2.2.1 uM.2.2.2.2.2.2.1 uM.2.2.2.2.2.2.2.1 uM.2.2.2.2.2.2.2.2.1 uM.2.2.2.2.2.2.2.2.2.1 uM.2.2.2.2.2.2.2.2.2.2.1 uM.2.2.2.2.2.2.2.2.2.2.2.1 uM.2.2.2.2.2.2.2.2.2.2.2.2 u_s u_aside (xs (i + 1)) (A, s', a') e2) (cwV 1 hts gL_law_X7_tale rfl rfl rfl (by decide +kernel) ⟨Nat.le_of_ble_eq_true rfl, Nat.le_of_ble_eq_true rfl⟩) ⟨Nat.le_of_ble_eq_true rfl, Nat.le_of_ble_eq_true rfl⟩ hG hS hAB hA hP hD [39, 40, 42] (by decide) rfl rfl rfl rfl 0 7 rfl rfl rfl rfl hl.1 rfl (Nat.le_of_ble_eq_true rfl) dL_law_772 rfl (fun H locs hP hD hS => ?_)
  have hP : va_P D vwCl (WK cy qk uK uN Y' uE uA uW uS uF uG ++ WM cy qm uM s' u_held a' u_before u_tape u_rows u_sortOf u_sizeOf u_numbers u_holdsWhat u_holdsWhich u_holdsMany u_bodies) H := hP
  have hD : va_D (LQ s) (WK cy qk uK uN Y' uE uA uW uS uF uG ++ WM cy qm uM s' u_held a' u_before u_tape u_rows u_sortOf u_sizeOf u_numbers u_holdsWhat u_holdsWhich u_holdsMany u_bodies) := hD
  refine lv_icmp_eq (tgt := 1561) hx hb dL_law_775 (by decide) (fun _ => ?_) (fun c9 => absurd rfl c9)
  exact nx uK uN Y' uE uA uW uS uF uG uM s' u_held a' u_before u_tape u_rows u_sortOf u_sizeOf u_numbers u_holdsWhat u_holdsWhich u_holdsMany u_bodies ⟨rT1, rE, rA, rW, rS, rF, rG⟩ H locs ls hP hD hS hl
set_option maxRecDepth 100000 in
set_option maxHeartbeats 4000000 in
theorem law_pieceFor {p : Program} {l : Launch} {e : Env} {s : State} {m : MethodId} {below : List Frame} {meth : Method} {c : Code} {b L i n : Nat} {xs : Nat → Int32} {D : va_G} {cy : Nat → ClassId} {st sk sv : Nat → Nat} {qk qm : Nat → Nat} (X : LX p s m c b L xs D cy st sk sv) (hn : 300 ≤ n) (hi : i + 5 ≤ L) (nx : LI p l e s m below meth c b D cy qk qm i 1561) : LI p l e s m below meth c b D cy qk qm i 780 := by
  intro uK uN uY uE uA uW uS uF uG uM u_s u_held u_aside u_before u_tape u_rows u_sortOf u_sizeOf u_numbers u_holdsWhat u_holdsWhich u_holdsMany u_bodies hR H locs ls hP hD hS hl
  obtain ⟨rT, rE, rA, rW, rS, rF, rG⟩ := hR
  have X' := X
  obtain ⟨hx, hb, hml, hown, hts, hX, hbl, hL, hG⟩ := X
  have hA : ∀ q : Nat, s.heap.size ≤ q → LQ s q := fun _ h => h
  have hAB : ∀ q : Nat, LQ s q → s.heap.size ≤ q := fun _ h => h
  obtain ⟨A, Y', s', a', e1, e2, rT1⟩ := p_pieceFor (n := n) (uK := uK) (uN := uN) (uY := uY) (uM := uM) (s := u_s) (a := u_aside) hn rT (xs (i + 1)) (xs (i + 2))
  refine lv_aload_n hx hb dL_law_780 rfl (lv_at hl 1 rfl) ?_
  refine law_arg X' hi hS hl 1 (by decide) (by decide) dL_law_781 dL_law_782 dL_law_783 dL_law_784 dL_law_785 ?_
  refine law_arg X' hi hS hl 2 (by decide) (by decide) dL_law_786 dL_law_787 dL_law_788 dL_law_789 dL_law_790 ?_
  refine lvw (o := some (.int A)) (As := [.int (xs (i + 1)), .int (xs (i + 2))]) (rest := []) (stk := [.int A]) ⟨hx, hb, hml, hown, hts⟩ (mX6_pieceFor l D cy st sk sv s.heap.size (qk 0) (qk 1) (qk 7) (qk 13) (qk 19) (qk 21) (qk 23) (qk 24) (qk 25) (qk 2) (qk 3) (qk 4) (qk 5) (qk 6) (qk 8) (qk 9) (qk 10) (qk 11) (qk 12) _ n uK uN.1 uN.2.1 uN.2.2.1 uN.2.2.2.1 uN.2.2.2.2.1 uN.2.2.2.2.2.1 uN.2.2.2.2.2.2.1 uN.2.2.2.2.2.2.2.1 uN.2.2.2.2.2.2.2.2.1 uN.2.2.2.2.2.2.2.2.2 uY.1 uY.2.1 uY.2.2.1 uY.2.2.2.1 uY.2.2.2.2.1 uY.2.2.2.2.2.1 uY.2.2.2.2.2.2.1 uY.2.2.2.2.2.2.2.1 uY.2.2.2.2.2.2.2.2.1 uY.2.2.2.2.2.2.2.2.2 (xs (i + 1)) (xs (i + 2)) (A, Y') e1) (cwV 2 hts gL_law_X6_pieceFor rfl rfl rfl (by decide +kernel) ⟨Nat.le_of_ble_eq_true rfl, Nat.le_of_ble_eq_true rfl⟩) ⟨Nat.le_of_ble_eq_true rfl, Nat.le_of_ble_eq_true rfl⟩ hG hS hAB hA hP hD [0, 1, 2, 3, 4, 5, 6, 7, 8, 9, 10, 11, 12] (by decide) rfl rfl rfl rfl 0 6 rfl rfl rfl rfl hl.1 rfl (Nat.le_of_ble_eq_true rfl) dL_law_791 rfl (fun H locs hP hD hS => ?_)
  have hP : va_P D vwCl (WK cy qk uK uN Y' uE uA uW uS uF uG ++ WM cy qm uM u_s u_held u_aside u_before u_tape u_rows u_sortOf u_sizeOf u_numbers u_holdsWhat u_holdsWhich u_holdsMany u_bodies) H := hP
  have hD : va_D (LQ s) (WK cy qk uK uN Y' uE uA uW uS uF uG ++ WM cy qm uM u_s u_held u_aside u_before u_tape u_rows u_sortOf u_sizeOf u_numbers u_holdsWhat u_holdsWhich u_holdsMany u_bodies) := hD
  refine lv_aload_n hx hb dL_law_794 rfl (lv_at hl 2 rfl) ?_
  refine law_arg X' hi hS hl 1 (by decide) (by decide) dL_law_795 dL_law_796 dL_law_797 dL_law_798 dL_law_799 ?_
  refine law_arg X' hi hS hl 2 (by decide) (by decide) dL_law_800 dL_law_801 dL_law_802 dL_law_803 dL_law_804 ?_
  refine lvw (o := some (.int A)) (As := [.int (xs (i + 1)), .int (xs (i + 2))]) (rest := [.int A]) (stk := [.int A, .int A]) ⟨hx, hb, hml, hown, hts⟩ (mX7_pieceFor l D cy st sk sv s.heap.size (qm 0) (qm 1) (qm 2) (qm 3) (qm 4) (qm 5) (qm 6) (qm 7) (qm 8) (qm 9) (qm 10) (qm 11) (qm 12) (qm 13) _ n uM.1 uM.2.1 uM.2.2.1 uM.2.2.2.1 uM.2.2.2.2.1 uM.2.2.2.2.2.1 uM.2.2.2.2.2.2.1 uM.2.2.2.2.2.2.2.1 uM.2.2.2.2.2.2.2.2.1 uM.2.2.2.2.2.2.2.2.2.1 uM.2.2.2.2.2.2.2.2.2.2.1 uM.2.2.2.2.2.2.2.2.2.2.2.1 uM.2.2.2.2.2.2.2.2.2.2.2.2 u_s u_aside (xs (i + 1)) (xs (i + 2)) (A, s', a') e2) (cwV 2 hts gL_law_X7_pieceFor rfl rfl rfl (by decide +kernel) ⟨Nat.le_of_ble_eq_true rfl, Nat.le_of_ble_eq_true rfl⟩) ⟨Nat.le_of_ble_eq_true rfl, Nat.le_of_ble_eq_true rfl⟩ hG hS hAB hA hP hD [39, 40, 42] (by decide) rfl rfl rfl rfl 0 7 rfl rfl rfl rfl hl.1 rfl (Nat.le_of_ble_eq_true rfl) dL_law_805 rfl (fun H locs hP hD hS => ?_)
  have hP : va_P D vwCl (WK cy qk uK uN Y' uE uA uW uS uF uG ++ WM cy qm uM s' u_held a' u_before u_tape u_rows u_sortOf u_sizeOf u_numbers u_holdsWhat u_holdsWhich u_holdsMany u_bodies) H := hP
  have hD : va_D (LQ s) (WK cy qk uK uN Y' uE uA uW uS uF uG ++ WM cy qm uM s' u_held a' u_before u_tape u_rows u_sortOf u_sizeOf u_numbers u_holdsWhat u_holdsWhich u_holdsMany u_bodies) := hD
  refine lv_icmp_eq (tgt := 1561) hx hb dL_law_808 (by decide) (fun _ => ?_) (fun c9 => absurd rfl c9)
  exact nx uK uN Y' uE uA uW uS uF uG uM s' u_held a' u_before u_tape u_rows u_sortOf u_sizeOf u_numbers u_holdsWhat u_holdsWhich u_holdsMany u_bodies ⟨rT1, rE, rA, rW, rS, rF, rG⟩ H locs ls hP hD hS hl
set_option maxRecDepth 100000 in
set_option maxHeartbeats 4000000 in
theorem law_kindFor {p : Program} {l : Launch} {e : Env} {s : State} {m : MethodId} {below : List Frame} {meth : Method} {c : Code} {b L i n : Nat} {xs : Nat → Int32} {D : va_G} {cy : Nat → ClassId} {st sk sv : Nat → Nat} {qk qm : Nat → Nat} (X : LX p s m c b L xs D cy st sk sv) (hn : 300 ≤ n) (hi : i + 5 ≤ L) (nx : LI p l e s m below meth c b D cy qk qm i 1561) : LI p l e s m below meth c b D cy qk qm i 813 := by
  intro uK uN uY uE uA uW uS uF uG uM u_s u_held u_aside u_before u_tape u_rows u_sortOf u_sizeOf u_numbers u_holdsWhat u_holdsWhich u_holdsMany u_bodies hR H locs ls hP hD hS hl
  obtain ⟨rT, rE, rA, rW, rS, rF, rG⟩ := hR
  have X' := X
  obtain ⟨hx, hb, hml, hown, hts, hX, hbl, hL, hG⟩ := X
  have hA : ∀ q : Nat, s.heap.size ≤ q → LQ s q := fun _ h => h
  have hAB : ∀ q : Nat, LQ s q → s.heap.size ≤ q := fun _ h => h
  obtain ⟨A, Y', s', a', e1, e2, rT1⟩ := p_kindFor (n := n) (uK := uK) (uN := uN) (uY := uY) (uM := uM) (s := u_s) (a := u_aside) hn rT (xs (i + 1)) (xs (i + 2))
  refine lv_aload_n hx hb dL_law_813 rfl (lv_at hl 1 rfl) ?_
  refine law_arg X' hi hS hl 1 (by decide) (by decide) dL_law_814 dL_law_815 dL_law_816 dL_law_817 dL_law_818 ?_
  refine law_arg X' hi hS hl 2 (by decide) (by decide) dL_law_819 dL_law_820 dL_law_821 dL_law_822 dL_law_823 ?_
  refine lvw (o := some (.int A)) (As := [.int (xs (i + 1)), .int (xs (i + 2))]) (rest := []) (stk := [.int A]) ⟨hx, hb, hml, hown, hts⟩ (mX6_kindFor l D cy st sk sv s.heap.size (qk 0) (qk 1) (qk 7) (qk 13) (qk 19) (qk 21) (qk 23) (qk 24) (qk 25) (qk 2) (qk 3) (qk 4) (qk 5) (qk 6) (qk 8) (qk 9) (qk 10) (qk 11) (qk 12) _ n uK uN.1 uN.2.1 uN.2.2.1 uN.2.2.2.1 uN.2.2.2.2.1 uN.2.2.2.2.2.1 uN.2.2.2.2.2.2.1 uN.2.2.2.2.2.2.2.1 uN.2.2.2.2.2.2.2.2.1 uN.2.2.2.2.2.2.2.2.2 uY.1 uY.2.1 uY.2.2.1 uY.2.2.2.1 uY.2.2.2.2.1 uY.2.2.2.2.2.1 uY.2.2.2.2.2.2.1 uY.2.2.2.2.2.2.2.1 uY.2.2.2.2.2.2.2.2.1 uY.2.2.2.2.2.2.2.2.2 (xs (i + 1)) (xs (i + 2)) (A, Y') e1) (cwV 2 hts gL_law_X6_kindFor rfl rfl rfl (by decide +kernel) ⟨Nat.le_of_ble_eq_true rfl, Nat.le_of_ble_eq_true rfl⟩) ⟨Nat.le_of_ble_eq_true rfl, Nat.le_of_ble_eq_true rfl⟩ hG hS hAB hA hP hD [0, 1, 2, 3, 4, 5, 6, 7, 8, 9, 10, 11, 12] (by decide) rfl rfl rfl rfl 0 6 rfl rfl rfl rfl hl.1 rfl (Nat.le_of_ble_eq_true rfl) dL_law_824 rfl (fun H locs hP hD hS => ?_)
  have hP : va_P D vwCl (WK cy qk uK uN Y' uE uA uW uS uF uG ++ WM cy qm uM u_s u_held u_aside u_before u_tape u_rows u_sortOf u_sizeOf u_numbers u_holdsWhat u_holdsWhich u_holdsMany u_bodies) H := hP
  have hD : va_D (LQ s) (WK cy qk uK uN Y' uE uA uW uS uF uG ++ WM cy qm uM u_s u_held u_aside u_before u_tape u_rows u_sortOf u_sizeOf u_numbers u_holdsWhat u_holdsWhich u_holdsMany u_bodies) := hD
  refine lv_aload_n hx hb dL_law_827 rfl (lv_at hl 2 rfl) ?_
  refine law_arg X' hi hS hl 1 (by decide) (by decide) dL_law_828 dL_law_829 dL_law_830 dL_law_831 dL_law_832 ?_
  refine law_arg X' hi hS hl 2 (by decide) (by decide) dL_law_833 dL_law_834 dL_law_835 dL_law_836 dL_law_837 ?_
  refine lvw (o := some (.int A)) (As := [.int (xs (i + 1)), .int (xs (i + 2))]) (rest := [.int A]) (stk := [.int A, .int A]) ⟨hx, hb, hml, hown, hts⟩ (mX7_kindFor l D cy st sk sv s.heap.size (qm 0) (qm 1) (qm 2) (qm 3) (qm 4) (qm 5) (qm 6) (qm 7) (qm 8) (qm 9) (qm 10) (qm 11) (qm 12) (qm 13) _ n uM.1 uM.2.1 uM.2.2.1 uM.2.2.2.1 uM.2.2.2.2.1 uM.2.2.2.2.2.1 uM.2.2.2.2.2.2.1 uM.2.2.2.2.2.2.2.1 uM.2.2.2.2.2.2.2.2.1 uM.2.2.2.2.2.2.2.2.2.1 uM.2.2.2.2.2.2.2.2.2.2.1 uM.2.2.2.2.2.2.2.2.2.2.2.1 uM.2.2.2.2.2.2.2.2.2.2.2.2 u_s u_aside (xs (i + 1)) (xs (i + 2)) (A, s', a') e2) (cwV 2 hts gL_law_X7_kindFor rfl rfl rfl (by decide +kernel) ⟨Nat.le_of_ble_eq_true rfl, Nat.le_of_ble_eq_true rfl⟩) ⟨Nat.le_of_ble_eq_true rfl, Nat.le_of_ble_eq_true rfl⟩ hG hS hAB hA hP hD [39, 40, 42] (by decide) rfl rfl rfl rfl 0 7 rfl rfl rfl rfl hl.1 rfl (Nat.le_of_ble_eq_true rfl) dL_law_838 rfl (fun H locs hP hD hS => ?_)
  have hP : va_P D vwCl (WK cy qk uK uN Y' uE uA uW uS uF uG ++ WM cy qm uM s' u_held a' u_before u_tape u_rows u_sortOf u_sizeOf u_numbers u_holdsWhat u_holdsWhich u_holdsMany u_bodies) H := hP
  have hD : va_D (LQ s) (WK cy qk uK uN Y' uE uA uW uS uF uG ++ WM cy qm uM s' u_held a' u_before u_tape u_rows u_sortOf u_sizeOf u_numbers u_holdsWhat u_holdsWhich u_holdsMany u_bodies) := hD
  refine lv_icmp_eq (tgt := 1561) hx hb dL_law_841 (by decide) (fun _ => ?_) (fun c9 => absurd rfl c9)
  exact nx uK uN Y' uE uA uW uS uF uG uM s' u_held a' u_before u_tape u_rows u_sortOf u_sizeOf u_numbers u_holdsWhat u_holdsWhich u_holdsMany u_bodies ⟨rT1, rE, rA, rW, rS, rF, rG⟩ H locs ls hP hD hS hl
set_option maxRecDepth 100000 in
set_option maxHeartbeats 4000000 in
theorem law_goneFor {p : Program} {l : Launch} {e : Env} {s : State} {m : MethodId} {below : List Frame} {meth : Method} {c : Code} {b L i n : Nat} {xs : Nat → Int32} {D : va_G} {cy : Nat → ClassId} {st sk sv : Nat → Nat} {qk qm : Nat → Nat} (X : LX p s m c b L xs D cy st sk sv) (hn : 300 ≤ n) (hi : i + 5 ≤ L) (nx : LI p l e s m below meth c b D cy qk qm i 1561) : LI p l e s m below meth c b D cy qk qm i 846 := by
  intro uK uN uY uE uA uW uS uF uG uM u_s u_held u_aside u_before u_tape u_rows u_sortOf u_sizeOf u_numbers u_holdsWhat u_holdsWhich u_holdsMany u_bodies hR H locs ls hP hD hS hl
  obtain ⟨rT, rE, rA, rW, rS, rF, rG⟩ := hR
  have X' := X
  obtain ⟨hx, hb, hml, hown, hts, hX, hbl, hL, hG⟩ := X
  have hA : ∀ q : Nat, s.heap.size ≤ q → LQ s q := fun _ h => h
  have hAB : ∀ q : Nat, LQ s q → s.heap.size ≤ q := fun _ h => h
  obtain ⟨A, Y', s', a', e1, e2, rT1⟩ := p_goneFor (n := n) (uK := uK) (uN := uN) (uY := uY) (uM := uM) (s := u_s) (a := u_aside) hn rT (xs (i + 1)) (xs (i + 2))
  refine lv_aload_n hx hb dL_law_846 rfl (lv_at hl 1 rfl) ?_
  refine law_arg X' hi hS hl 1 (by decide) (by decide) dL_law_847 dL_law_848 dL_law_849 dL_law_850 dL_law_851 ?_
  refine law_arg X' hi hS hl 2 (by decide) (by decide) dL_law_852 dL_law_853 dL_law_854 dL_law_855 dL_law_856 ?_
  refine lvw (o := some (.int A)) (As := [.int (xs (i + 1)), .int (xs (i + 2))]) (rest := []) (stk := [.int A]) ⟨hx, hb, hml, hown, hts⟩ (mX6_goneFor l D cy st sk sv s.heap.size (qk 0) (qk 1) (qk 7) (qk 13) (qk 19) (qk 21) (qk 23) (qk 24) (qk 25) (qk 2) (qk 3) (qk 4) (qk 5) (qk 6) (qk 8) (qk 9) (qk 10) (qk 11) (qk 12) _ n uK uN.1 uN.2.1 uN.2.2.1 uN.2.2.2.1 uN.2.2.2.2.1 uN.2.2.2.2.2.1 uN.2.2.2.2.2.2.1 uN.2.2.2.2.2.2.2.1 uN.2.2.2.2.2.2.2.2.1 uN.2.2.2.2.2.2.2.2.2 uY.1 uY.2.1 uY.2.2.1 uY.2.2.2.1 uY.2.2.2.2.1 uY.2.2.2.2.2.1 uY.2.2.2.2.2.2.1 uY.2.2.2.2.2.2.2.1 uY.2.2.2.2.2.2.2.2.1 uY.2.2.2.2.2.2.2.2.2 (xs (i + 1)) (xs (i + 2)) (A, Y') e1) (cwV 2 hts gL_law_X6_goneFor rfl rfl rfl (by decide +kernel) ⟨Nat.le_of_ble_eq_true rfl, Nat.le_of_ble_eq_true rfl⟩) ⟨Nat.le_of_ble_eq_true rfl, Nat.le_of_ble_eq_true rfl⟩ hG hS hAB hA hP hD [0, 1, 2, 3, 4, 5, 6, 7, 8, 9, 10, 11, 12] (by decide) rfl rfl rfl rfl 0 6 rfl rfl rfl rfl hl.1 rfl (Nat.le_of_ble_eq_true rfl) dL_law_857 rfl (fun H locs hP hD hS => ?_)
  have hP : va_P D vwCl (WK cy qk uK uN Y' uE uA uW uS uF uG ++ WM cy qm uM u_s u_held u_aside u_before u_tape u_rows u_sortOf u_sizeOf u_numbers u_holdsWhat u_holdsWhich u_holdsMany u_bodies) H := hP
  have hD : va_D (LQ s) (WK cy qk uK uN Y' uE uA uW uS uF uG ++ WM cy qm uM u_s u_held u_aside u_before u_tape u_rows u_sortOf u_sizeOf u_numbers u_holdsWhat u_holdsWhich u_holdsMany u_bodies) := hD
  refine lv_aload_n hx hb dL_law_860 rfl (lv_at hl 2 rfl) ?_
  refine law_arg X' hi hS hl 1 (by decide) (by decide) dL_law_861 dL_law_862 dL_law_863 dL_law_864 dL_law_865 ?_
  refine law_arg X' hi hS hl 2 (by decide) (by decide) dL_law_866 dL_law_867 dL_law_868 dL_law_869 dL_law_870 ?_
  refine lvw (o := some (.int A)) (As := [.int (xs (i + 1)), .int (xs (i + 2))]) (rest := [.int A]) (stk := [.int A, .int A]) ⟨hx, hb, hml, hown, hts⟩ (mX7_goneFor l D cy st sk sv s.heap.size (qm 0) (qm 1) (qm 2) (qm 3) (qm 4) (qm 5) (qm 6) (qm 7) (qm 8) (qm 9) (qm 10) (qm 11) (qm 12) (qm 13) _ n uM.1 uM.2.1 uM.2.2.1 uM.2.2.2.1 uM.2.2.2.2.1 uM.2.2.2.2.2.1 uM.2.2.2.2.2.2.1 uM.2.2.2.2.2.2.2.1 uM.2.2.2.2.2.2.2.2.1 uM.2.2.2.2.2.2.2.2.2.1 uM.2.2.2.2.2.2.2.2.2.2.1 uM.2.2.2.2.2.2.2.2.2.2.2.1 uM.2.2.2.2.2.2.2.2.2.2.2.2 u_s u_aside (xs (i + 1)) (xs (i + 2)) (A, s', a') e2) (cwV 2 hts gL_law_X7_goneFor rfl rfl rfl (by decide +kernel) ⟨Nat.le_of_ble_eq_true rfl, Nat.le_of_ble_eq_true rfl⟩) ⟨Nat.le_of_ble_eq_true rfl, Nat.le_of_ble_eq_true rfl⟩ hG hS hAB hA hP hD [39, 40, 42] (by decide) rfl rfl rfl rfl 0 7 rfl rfl rfl rfl hl.1 rfl (Nat.le_of_ble_eq_true rfl) dL_law_871 rfl (fun H locs hP hD hS => ?_)
  have hP : va_P D vwCl (WK cy qk uK uN Y' uE uA uW uS uF uG ++ WM cy qm uM s' u_held a' u_before u_tape u_rows u_sortOf u_sizeOf u_numbers u_holdsWhat u_holdsWhich u_holdsMany u_bodies) H := hP
  have hD : va_D (LQ s) (WK cy qk uK uN Y' uE uA uW uS uF uG ++ WM cy qm uM s' u_held a' u_before u_tape u_rows u_sortOf u_sizeOf u_numbers u_holdsWhat u_holdsWhich u_holdsMany u_bodies) := hD
  refine lv_icmp_eq (tgt := 1561) hx hb dL_law_874 (by decide) (fun _ => ?_) (fun c9 => absurd rfl c9)
  exact nx uK uN Y' uE uA uW uS uF uG uM s' u_held a' u_before u_tape u_rows u_sortOf u_sizeOf u_numbers u_holdsWhat u_holdsWhich u_holdsMany u_bodies ⟨rT1, rE, rA, rW, rS, rF, rG⟩ H locs ls hP hD hS hl
set_option maxRecDepth 100000 in
set_option maxHeartbeats 4000000 in
theorem law_depthFor {p : Program} {l : Launch} {e : Env} {s : State} {m : MethodId} {below : List Frame} {meth : Method} {c : Code} {b L i n : Nat} {xs : Nat → Int32} {D : va_G} {cy : Nat → ClassId} {st sk sv : Nat → Nat} {qk qm : Nat → Nat} (X : LX p s m c b L xs D cy st sk sv) (hn : 300 ≤ n) (hi : i + 5 ≤ L) (nx : LI p l e s m below meth c b D cy qk qm i 1561) : LI p l e s m below meth c b D cy qk qm i 879 := by
  intro uK uN uY uE uA uW uS uF uG uM u_s u_held u_aside u_before u_tape u_rows u_sortOf u_sizeOf u_numbers u_holdsWhat u_holdsWhich u_holdsMany u_bodies hR H locs ls hP hD hS hl
  obtain ⟨rT, rE, rA, rW, rS, rF, rG⟩ := hR
  have X' := X
  obtain ⟨hx, hb, hml, hown, hts, hX, hbl, hL, hG⟩ := X
  have hA : ∀ q : Nat, s.heap.size ≤ q → LQ s q := fun _ h => h
  have hAB : ∀ q : Nat, LQ s q → s.heap.size ≤ q := fun _ h => h
  obtain ⟨A, Y', s', a', e1, e2, rT1⟩ := p_depthFor (n := n) (uK := uK) (uN := uN) (uY := uY) (uM := uM) (s := u_s) (a := u_aside) hn rT (xs (i + 1))
  refine lv_aload_n hx hb dL_law_879 rfl (lv_at hl 1 rfl) ?_
  refine law_arg X' hi hS hl 1 (by decide) (by decide) dL_law_880 dL_law_881 dL_law_882 dL_law_883 dL_law_884 ?_
  refine lvw (o := some (.int A)) (As := [.int (xs (i + 1))]) (rest := []) (stk := [.int A]) ⟨hx, hb, hml, hown, hts⟩ (mX6_depthFor l D cy st sk sv s.heap.size (qk 0) (qk 1) (qk 7) (qk 13) (qk 19) (qk 21) (qk 23) (qk 24) (qk 25) (qk 2) (qk 3) (qk 4) (qk 5) (qk 6) (qk 8) (qk 9) (qk 10) (qk 11) (qk 12) _ n uK uN.1 uN.2.1 uN.2.2.1 uN.2.2.2.1 uN.2.2.2.2.1 uN.2.2.2.2.2.1 uN.2.2.2.2.2.2.1 uN.2.2.2.2.2.2.2.1 uN.2.2.2.2.2.2.2.2.1 uN.2.2.2.2.2.2.2.2.2 uY.1 uY.2.1 uY.2.2.1 uY.2.2.2.1 uY.2.2.2.2.1 uY.2.2.2.2.2.1 uY.2.2.2.2.2.2.1 uY.2.2.2.2.2.2.2.1 uY.2.2.2.2.2.2.2.2.1 uY.2.2.2.2.2.2.2.2.2 (xs (i + 1)) (A, Y') e1) (cwV 1 hts gL_law_X6_depthFor rfl rfl rfl (by decide +kernel) ⟨Nat.le_of_ble_eq_true rfl, Nat.le_of_ble_eq_true rfl⟩) ⟨Nat.le_of_ble_eq_true rfl, Nat.le_of_ble_eq_true rfl⟩ hG hS hAB hA hP hD [0, 1, 2, 3, 4, 5, 6, 7, 8, 9, 10, 11, 12] (by decide) rfl rfl rfl rfl 0 6 rfl rfl rfl rfl hl.1 rfl (Nat.le_of_ble_eq_true rfl) dL_law_885 rfl (fun H locs hP hD hS => ?_)
  have hP : va_P D vwCl (WK cy qk uK uN Y' uE uA uW uS uF uG ++ WM cy qm uM u_s u_held u_aside u_before u_tape u_rows u_sortOf u_sizeOf u_numbers u_holdsWhat u_holdsWhich u_holdsMany u_bodies) H := hP
  have hD : va_D (LQ s) (WK cy qk uK uN Y' uE uA uW uS uF uG ++ WM cy qm uM u_s u_held u_aside u_before u_tape u_rows u_sortOf u_sizeOf u_numbers u_holdsWhat u_holdsWhich u_holdsMany u_bodies) := hD
  refine lv_aload_n hx hb dL_law_888 rfl (lv_at hl 2 rfl) ?_
  refine law_arg X' hi hS hl 1 (by decide) (by decide) dL_law_889 dL_law_890 dL_law_891 dL_law_892 dL_law_893 ?_
  refine lvw (o := some (.int A)) (As := [.int (xs (i + 1))]) (rest := [.int A]) (stk := [.int A, .int A]) ⟨hx, hb, hml, hown, hts⟩ (mX7_depthFor l D cy st sk sv s.heap.size (qm 0) (qm 1) (qm 2) (qm 3) (qm 4) (qm 5) (qm 6) (qm 7) (qm 8) (qm 9) (qm 10) (qm 11) (qm 12) (qm 13) _ n uM.1 uM.2.1 uM.2.2.1 uM.2.2.2.1 uM.2.2.2.2.1 uM.2.2.2.2.2.1 uM.2.2.2.2.2.2.1 uM.2.2.2.2.2.2.2.1 uM.2.2.2.2.2.2.2.2.1 uM.2.2.2.2.2.2.2.2.2.1 uM.2.2.2.2.2.2.2.2.2.2.1 uM.2.2.2.2.2.2.2.2.2.2.2.1 uM.2.2.2.2.2.2.2.2.2.2.2.2 u_s u_aside (xs (i + 1)) (A, s', a') e2) (cwV 1 hts gL_law_X7_depthFor rfl rfl rfl (by decide +kernel) ⟨Nat.le_of_ble_eq_true rfl, Nat.le_of_ble_eq_true rfl⟩) ⟨Nat.le_of_ble_eq_true rfl, Nat.le_of_ble_eq_true rfl⟩ hG hS hAB hA hP hD [39, 40, 42] (by decide) rfl rfl rfl rfl 0 7 rfl rfl rfl rfl hl.1 rfl (Nat.le_of_ble_eq_true rfl) dL_law_894 rfl (fun H locs hP hD hS => ?_)
  have hP : va_P D vwCl (WK cy qk uK uN Y' uE uA uW uS uF uG ++ WM cy qm uM s' u_held a' u_before u_tape u_rows u_sortOf u_sizeOf u_numbers u_holdsWhat u_holdsWhich u_holdsMany u_bodies) H := hP
  have hD : va_D (LQ s) (WK cy qk uK uN Y' uE uA uW uS uF uG ++ WM cy qm uM s' u_held a' u_before u_tape u_rows u_sortOf u_sizeOf u_numbers u_holdsWhat u_holdsWhich u_holdsMany u_bodies) := hD
  refine lv_icmp_eq (tgt := 1561) hx hb dL_law_897 (by decide) (fun _ => ?_) (fun c9 => absurd rfl c9)
  exact nx uK uN Y' uE uA uW uS uF uG uM s' u_held a' u_before u_tape u_rows u_sortOf u_sizeOf u_numbers u_holdsWhat u_holdsWhich u_holdsMany u_bodies ⟨rT1, rE, rA, rW, rS, rF, rG⟩ H locs ls hP hD hS hl
set_option maxRecDepth 100000 in
set_option maxHeartbeats 4000000 in
theorem law_strangersFor {p : Program} {l : Launch} {e : Env} {s : State} {m : MethodId} {below : List Frame} {meth : Method} {c : Code} {b L i n : Nat} {xs : Nat → Int32} {D : va_G} {cy : Nat → ClassId} {st sk sv : Nat → Nat} {qk qm : Nat → Nat} (X : LX p s m c b L xs D cy st sk sv) (hn : 300 ≤ n) (hi : i + 5 ≤ L) (nx : LI p l e s m below meth c b D cy qk qm i 1561) : LI p l e s m below meth c b D cy qk qm i 902 := by
  intro uK uN uY uE uA uW uS uF uG uM u_s u_held u_aside u_before u_tape u_rows u_sortOf u_sizeOf u_numbers u_holdsWhat u_holdsWhich u_holdsMany u_bodies hR H locs ls hP hD hS hl
  obtain ⟨rT, rE, rA, rW, rS, rF, rG⟩ := hR
  have X' := X
  obtain ⟨hx, hb, hml, hown, hts, hX, hbl, hL, hG⟩ := X
  have hA : ∀ q : Nat, s.heap.size ≤ q → LQ s q := fun _ h => h
  have hAB : ∀ q : Nat, LQ s q → s.heap.size ≤ q := fun _ h => h
  obtain ⟨A, Y', s', a', e1, e2, rT1⟩ := p_strangersFor (n := n) (uK := uK) (uN := uN) (uY := uY) (uM := uM) (s := u_s) (a := u_aside) hn rT (xs (i + 1)) (xs (i + 2))
  refine lv_aload_n hx hb dL_law_902 rfl (lv_at hl 1 rfl) ?_
  refine law_arg X' hi hS hl 1 (by decide) (by decide) dL_law_903 dL_law_904 dL_law_905 dL_law_906 dL_law_907 ?_
  refine law_arg X' hi hS hl 2 (by decide) (by decide) dL_law_908 dL_law_909 dL_law_910 dL_law_911 dL_law_912 ?_
  refine lvw (o := some (.int A)) (As := [.int (xs (i + 1)), .int (xs (i + 2))]) (rest := []) (stk := [.int A]) ⟨hx, hb, hml, hown, hts⟩ (mX6_strangersFor l D cy st sk sv s.heap.size (qk 0) (qk 1) (qk 7) (qk 13) (qk 19) (qk 21) (qk 23) (qk 24) (qk 25) (qk 2) (qk 3) (qk 4) (qk 5) (qk 6) (qk 8) (qk 9) (qk 10) (qk 11) (qk 12) _ n uK uN.1 uN.2.1 uN.2.2.1 uN.2.2.2.1 uN.2.2.2.2.1 uN.2.2.2.2.2.1 uN.2.2.2.2.2.2.1 uN.2.2.2.2.2.2.2.1 uN.2.2.2.2.2.2.2.2.1 uN.2.2.2.2.2.2.2.2.2 uY.1 uY.2.1 uY.2.2.1 uY.2.2.2.1 uY.2.2.2.2.1 uY.2.2.2.2.2.1 uY.2.2.2.2.2.2.1 uY.2.2.2.2.2.2.2.1 uY.2.2.2.2.2.2.2.2.1 uY.2.2.2.2.2.2.2.2.2 (xs (i + 1)) (xs (i + 2)) (A, Y') e1) (cwV 2 hts gL_law_X6_strangersFor rfl rfl rfl (by decide +kernel) ⟨Nat.le_of_ble_eq_true rfl, Nat.le_of_ble_eq_true rfl⟩) ⟨Nat.le_of_ble_eq_true rfl, Nat.le_of_ble_eq_true rfl⟩ hG hS hAB hA hP hD [0, 1, 2, 3, 4, 5, 6, 7, 8, 9, 10, 11, 12] (by decide) rfl rfl rfl rfl 0 6 rfl rfl rfl rfl hl.1 rfl (Nat.le_of_ble_eq_true rfl) dL_law_913 rfl (fun H locs hP hD hS => ?_)
  have hP : va_P D vwCl (WK cy qk uK uN Y' uE uA uW uS uF uG ++ WM cy qm uM u_s u_held u_aside u_before u_tape u_rows u_sortOf u_sizeOf u_numbers u_holdsWhat u_holdsWhich u_holdsMany u_bodies) H := hP
  have hD : va_D (LQ s) (WK cy qk uK uN Y' uE uA uW uS uF uG ++ WM cy qm uM u_s u_held u_aside u_before u_tape u_rows u_sortOf u_sizeOf u_numbers u_holdsWhat u_holdsWhich u_holdsMany u_bodies) := hD
  refine lv_aload_n hx hb dL_law_916 rfl (lv_at hl 2 rfl) ?_
  refine law_arg X' hi hS hl 1 (by decide) (by decide) dL_law_917 dL_law_918 dL_law_919 dL_law_920 dL_law_921 ?_
  refine law_arg X' hi hS hl 2 (by decide) (by decide) dL_law_922 dL_law_923 dL_law_924 dL_law_925 dL_law_926 ?_
  refine lvw (o := some (.int A)) (As := [.int (xs (i + 1)), .int (xs (i + 2))]) (rest := [.int A]) (stk := [.int A, .int A]) ⟨hx, hb, hml, hown, hts⟩ (mX7_strangersFor l D cy st sk sv s.heap.size (qm 0) (qm 1) (qm 2) (qm 3) (qm 4) (qm 5) (qm 6) (qm 7) (qm 8) (qm 9) (qm 10) (qm 11) (qm 12) (qm 13) _ n uM.1 uM.2.1 uM.2.2.1 uM.2.2.2.1 uM.2.2.2.2.1 uM.2.2.2.2.2.1 uM.2.2.2.2.2.2.1 uM.2.2.2.2.2.2.2.1 uM.2.2.2.2.2.2.2.2.1 uM.2.2.2.2.2.2.2.2.2.1 uM.2.2.2.2.2.2.2.2.2.2.1 uM.2.2.2.2.2.2.2.2.2.2.2.1 uM.2.2.2.2.2.2.2.2.2.2.2.2 u_s u_aside (xs (i + 1)) (xs (i + 2)) (A, s', a') e2) (cwV 2 hts gL_law_X7_strangersFor rfl rfl rfl (by decide +kernel) ⟨Nat.le_of_ble_eq_true rfl, Nat.le_of_ble_eq_true rfl⟩) ⟨Nat.le_of_ble_eq_true rfl, Nat.le_of_ble_eq_true rfl⟩ hG hS hAB hA hP hD [39, 40, 42] (by decide) rfl rfl rfl rfl 0 7 rfl rfl rfl rfl hl.1 rfl (Nat.le_of_ble_eq_true rfl) dL_law_927 rfl (fun H locs hP hD hS => ?_)
  have hP : va_P D vwCl (WK cy qk uK uN Y' uE uA uW uS uF uG ++ WM cy qm uM s' u_held a' u_before u_tape u_rows u_sortOf u_sizeOf u_numbers u_holdsWhat u_holdsWhich u_holdsMany u_bodies) H := hP
  have hD : va_D (LQ s) (WK cy qk uK uN Y' uE uA uW uS uF uG ++ WM cy qm uM s' u_held a' u_before u_tape u_rows u_sortOf u_sizeOf u_numbers u_holdsWhat u_holdsWhich u_holdsMany u_bodies) := hD
  refine lv_icmp_eq (tgt := 1561) hx hb dL_law_930 (by decide) (fun _ => ?_) (fun c9 => absurd rfl c9)
  exact nx uK uN Y' uE uA uW uS uF uG uM s' u_held a' u_before u_tape u_rows u_sortOf u_sizeOf u_numbers u_holdsWhat u_holdsWhich u_holdsMany u_bodies ⟨rT1, rE, rA, rW, rS, rF, rG⟩ H locs ls hP hD hS hl
