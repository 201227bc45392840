set_option maxRecDepth 100000 in
set_option maxHeartbeats 100000000 in
theorem mX7_of (l : Launch) (D : va_G) (cy : Nat → ClassId) (st sk sv : Nat → Nat) (B : Nat) (am : Nat) (am0 : Nat) (am1 : Nat) (am2 : Nat) (am3 : Nat) (am4 : Nat) (am5 : Nat) (am6 : Nat) (am7 : Nat) (am8 : Nat) (am9 : Nat) (am10 : Nat) (am11 : Nat) (am12 : Nat) (n : Nat) (M_isHeld : Int32) (M_taped : Int32) (M_token : Int32) (M_from : Int32) (M_to : Int32) (M_value : Int32) (M_isWrong : Int32) (M_rowN : Int32) (M_ran : Int32) (M_actKind : Int32) (M_actN : Int32) (M_actA : Int32) (M_isParted : Int32) (u_s : (Nat → Int32)) (x1 : Int32) (x2 : Int32) (z : Int32) (hf : fX7_of n (M_isHeld, M_taped, M_token, M_from, M_to, M_value, M_isWrong, M_rowN, M_ran, M_actKind, M_actN, M_actA, M_isParted) u_s x1 x2 = some z) : Met l yX7_of wsX7_of ({ frames := 1, cells := 0, slots := 0, locals := 25 }) (PcR [.ref am, .int x1, .int x2] D cy st sk sv B [(am, .inr (7, [.ref am0, .ref am1, .ref am2, .ref am3, .int M_isHeld, .ref am4, .int M_taped, .int M_token, .int M_from, .int M_to, .int M_value, .int M_isWrong, .ref am5, .int M_rowN, .ref am6, .ref am7, .ref am8, .ref am9, .ref am10, .ref am11, .ref am12, .int M_ran, .int M_actKind, .int M_actN, .int M_actA, .int M_isParted])), (am0, .inl (cy 0, 48, .inl u_s))]) (Qr (some (.int z))) 0 0 (fun _ => False) := by
  refine Met.ofW (cc := cX7_of) (maxL := 3) (ret := (some .int)) (by decide) rfl ?_
  intro p e s m args below meth c s₁ Bd hml hv
  obtain ⟨rfl, hP, hG⟩ := hv
  have hx := Bd.exec
  have hb := Bd.bytes
  have hr := Bd.returns
  have hts := atoms_spec (ws := wsX7_of) Bd.pre
  have hown : s.vm.findClass RX7 = some m.cls := findClass_of_methodNamed Bd.named
  have hlocks := Bd.notSynchronized
  have hK := hG.1
  have hS : va_S (fun q => B ≤ q) s.heap s.heap [] := va_S.rf
  have hAB : ∀ q, (fun q => B ≤ q) q → B ≤ q := fun _ h => h
  have hl := lv_entry ([.ref am, .int x1, .int x2]) (n := 3) (Nat.le_of_ble_eq_true rfl)
  rw [lg_entry_eq]
  generalize (lg_sl ([.ref am, .int x1, .int x2]) ++ List.replicate (3 - (lg_sl ([.ref am, .int x1, .int x2])).length) Slot.unset).toArray = ls at hl ⊢
  have hl : lv_has ls 3 [(0, .ref am), (1, .int x1), (2, .int x2)] := hl
  have hf : ((fX7_isOne n (M_isHeld, M_taped, M_token, M_from, M_to, M_value, M_isWrong, M_rowN, M_ran, M_actKind, M_actN, M_actA, M_isParted) u_s x1).bind fun r2 => if r2 = 0 then (some (-1 : Int32)) else ((fX7_isIn n x2.toInt64 (0 : Int64) (4 : Int64)).bind fun r14 => if r14 = 0 then (some (-1 : Int32)) else ((fX7_its n (M_isHeld, M_taped, M_token, M_from, M_to, M_value, M_isWrong, M_rowN, M_ran, M_actKind, M_actN, M_actA, M_isParted) u_s x1 x2).bind fun r23 => some r23))) = some z := hf
  refine lv_aload_n hx hb dX7_of_0 rfl (lv_at hl 0 rfl) ?_
  refine lv_iload_n hx hb dX7_of_1 rfl (lv_at hl 1 rfl) ?_
  obtain ⟨r2, hc2, hf⟩ := zb hf
  refine zvr (o := some (.int r2)) (As := [.int x1]) (rest := []) (stk := [.int r2]) ⟨hx, hb, hml, hown, hts⟩ (mX7_isOne l D cy st sk sv B am am0 am1 am2 am3 am4 am5 am6 am7 am8 am9 am10 am11 am12 n M_isHeld M_taped M_token M_from M_to M_value M_isWrong M_rowN M_ran M_actKind M_actN M_actA M_isParted u_s x1 r2 hc2) (cwV 1 hts gX7_of_X7_isOne rfl rfl rfl (by decide +kernel) ⟨Nat.le_of_ble_eq_true rfl, Nat.le_of_ble_eq_true rfl⟩) hG hS hAB hP [0, 1] rfl 0 7 rfl rfl rfl rfl hl.1 rfl (Nat.le_of_ble_eq_true rfl) dX7_of_2 rfl ?_
  refine lv_if_eq (tgt := 29) hx hb dX7_of_5 (by decide) (fun c_5 => ?_) (fun c_5 => ?_)
  · have hf := zp hf c_5
    refine lv_iconst (v := (-1 : Int32)) hx hb dX7_of_29 (by decide) ?_
    cases hf
    exact W.iret hx hb hr (fun t ht hW => ⟨rfl, ht⟩) (fun q h => absurd h List.not_mem_nil) dX7_of_30
  · have hf := zn hf c_5
    refine lv_iload_n hx hb dX7_of_8 rfl (lv_at hl 2 rfl) ?_
    refine lv_i2l hx hb dX7_of_9 rfl ?_
    refine lv_lconst (v := (0 : Int64)) hx hb dX7_of_10 (by decide) ?_
    refine lv_ldc2 (v := (4 : Int64)) hx hb hown (hts (.constantLong RX7 165 (4)) (by decide +kernel)) dX7_of_11 ?_
    obtain ⟨r14, hc14, hf⟩ := zb hf
    refine zsr (o := some (.int r14)) (As := [.long x2.toInt64, .long (0 : Int64), .long (4 : Int64)]) (rest := []) (stk := [.int r14]) ⟨hx, hb, hml, hown, hts⟩ (mX7_isIn l D cy st sk sv B  n x2.toInt64 (0 : Int64) (4 : Int64) r14 hc14) (va_cwS 3 hts gX7_of_X7_isIn rfl rfl rfl (by decide +kernel) ⟨Nat.le_of_ble_eq_true rfl, Nat.le_of_ble_eq_true rfl⟩) hG hS hAB hP [] rfl rfl hl.1 rfl (Nat.le_of_ble_eq_true rfl) dX7_of_14 rfl ?_
    refine lv_if_eq (tgt := 29) hx hb dX7_of_17 (by decide) (fun c_17 => ?_) (fun c_17 => ?_)
    · have hf := zp hf c_17
      refine lv_iconst (v := (-1 : Int32)) hx hb dX7_of_29 (by decide) ?_
      cases hf
      exact W.iret hx hb hr (fun t ht hW => ⟨rfl, ht⟩) (fun q h => absurd h List.not_mem_nil) dX7_of_30
    · have hf := zn hf c_17
      refine lv_aload_n hx hb dX7_of_20 rfl (lv_at hl 0 rfl) ?_
      refine lv_iload_n hx hb dX7_of_21 rfl (lv_at hl 1 rfl) ?_
      refine lv_iload_n hx hb dX7_of_22 rfl (lv_at hl 2 rfl) ?_
      obtain ⟨r23, hc23, hf⟩ := zb hf
      refine zvr (o := some (.int r23)) (As := [.int x1, .int x2]) (rest := []) (stk := [.int r23]) ⟨hx, hb, hml, hown, hts⟩ (mX7_its l D cy st sk sv B am am0 am1 am2 am3 am4 am5 am6 am7 am8 am9 am10 am11 am12 n M_isHeld M_taped M_token M_from M_to M_value M_isWrong M_rowN M_ran M_actKind M_actN M_actA M_isParted u_s x1 x2 r23 hc23) (cwV 2 hts gX7_of_X7_its rfl rfl rfl (by decide +kernel) ⟨Nat.le_of_ble_eq_true rfl, Nat.le_of_ble_eq_true rfl⟩) hG hS hAB hP [0, 1] rfl 0 7 rfl rfl rfl rfl hl.1 rfl (Nat.le_of_ble_eq_true rfl) dX7_of_23 rfl ?_
      refine lv_goto (tgt := 30) hx hb dX7_of_26 (by decide) ?_
      cases hf
      exact W.iret hx hb hr (fun t ht hW => ⟨rfl, ht⟩) (fun q h => absurd h List.not_mem_nil) dX7_of_30
set_option maxRecDepth 100000 in
set_option maxHeartbeats 100000000 in
theorem mX7_does (l : Launch) (D : va_G) (cy : Nat → ClassId) (st sk sv : Nat → Nat) (B : Nat) (am : Nat) (am0 : Nat) (am1 : Nat) (am2 : Nat) (am3 : Nat) (am4 : Nat) (am5 : Nat) (am6 : Nat) (am7 : Nat) (am8 : Nat) (am9 : Nat) (am10 : Nat) (am11 : Nat) (am12 : Nat) (n : Nat) (M_isHeld : Int32) (M_taped : Int32) (M_token : Int32) (M_from : Int32) (M_to : Int32) (M_value : Int32) (M_isWrong : Int32) (M_rowN : Int32) (M_ran : Int32) (M_actKind : Int32) (M_actN : Int32) (M_actA : Int32) (M_isParted : Int32) (u_s : (Nat → Int32)) (x1 : Int32) (x2 : Int32) (z : Int32) (hf : fX7_does n (M_isHeld, M_taped, M_token, M_from, M_to, M_value, M_isWrong, M_rowN, M_ran, M_actKind, M_actN, M_actA, M_isParted) u_s x1 x2 = some z) : Met l yX7_does wsX7_does ({ frames := 2, cells := 0, slots := 0, locals := 44 }) (PcR [.ref am, .int x1, .int x2] D cy st sk sv B [(am, .inr (7, [.ref am0, .ref am1, .ref am2, .ref am3, .int M_isHeld, .ref am4, .int M_taped, .int M_token, .int M_from, .int M_to, .int M_value, .int M_isWrong, .ref am5, .int M_rowN, .ref am6, .ref am7, .ref am8, .ref am9, .ref am10, .ref am11, .ref am12, .int M_ran, .int M_actKind, .int M_actN, .int M_actA, .int M_isParted])), (am0, .inl (cy 0, 48, .inl u_s))]) (Qr (some (.int z))) 0 0 (fun _ => False) := by
  refine Met.ofW (cc := cX7_does) (maxL := 3) (ret := (some .int)) (by decide) rfl ?_
  intro p e s m args below meth c s₁ Bd hml hv
  obtain ⟨rfl, hP, hG⟩ := hv
  have hx := Bd.exec
  have hb := Bd.bytes
  have hr := Bd.returns
  have hts := atoms_spec (ws := wsX7_does) Bd.pre
  have hown : s.vm.findClass RX7 = some m.cls := findClass_of_methodNamed Bd.named
  have hlocks := Bd.notSynchronized
  have hK := hG.1
  have hS : va_S (fun q => B ≤ q) s.heap s.heap [] := va_S.rf
  have hAB : ∀ q, (fun q => B ≤ q) q → B ≤ q := fun _ h => h
  have hl := lv_entry ([.ref am, .int x1, .int x2]) (n := 3) (Nat.le_of_ble_eq_true rfl)
  rw [lg_entry_eq]
  generalize (lg_sl ([.ref am, .int x1, .int x2]) ++ List.replicate (3 - (lg_sl ([.ref am, .int x1, .int x2])).length) Slot.unset).toArray = ls at hl ⊢
  have hl : lv_has ls 3 [(0, .ref am), (1, .int x1), (2, .int x2)] := hl
  have hf : ((fX7_isOne n (M_isHeld, M_taped, M_token, M_from, M_to, M_value, M_isWrong, M_rowN, M_ran, M_actKind, M_actN, M_actA, M_isParted) u_s x1).bind fun r2 => if r2 = 0 then (some (-1 : Int32)) else ((fX7_isIn n x2.toInt64 (0 : Int64) (2 : Int64)).bind fun r14 => if r14 = 0 then (some (-1 : Int32)) else (if x2 = 0 then ((fX7_takes n (M_isHeld, M_taped, M_token, M_from, M_to, M_value, M_isWrong, M_rowN, M_ran, M_actKind, M_actN, M_actA, M_isParted) u_s x1).bind fun r31 => some ((1000 : Int32) + r31)) else (if x2 = (1 : Int32) then ((fX7_needsOf n (M_isHeld, M_taped, M_token, M_from, M_to, M_value, M_isWrong, M_rowN, M_ran, M_actKind, M_actN, M_actA, M_isParted) u_s x1).bind fun r44 => some ((1000 : Int32) + r44)) else ((fX7_costs n (M_isHeld, M_taped, M_token, M_from, M_to, M_value, M_isWrong, M_rowN, M_ran, M_actKind, M_actN, M_actA, M_isParted) u_s x1).bind fun r52 => some ((1000 : Int32) + r52)))))) = some z := hf
  refine lv_aload_n hx hb dX7_does_0 rfl (lv_at hl 0 rfl) ?_
  refine lv_iload_n hx hb dX7_does_1 rfl (lv_at hl 1 rfl) ?_
  obtain ⟨r2, hc2, hf⟩ := zb hf
  refine zvr (o := some (.int r2)) (As := [.int x1]) (rest := []) (stk := [.int r2]) ⟨hx, hb, hml, hown, hts⟩ (mX7_isOne l D cy st sk sv B am am0 am1 am2 am3 am4 am5 am6 am7 am8 am9 am10 am11 am12 n M_isHeld M_taped M_token M_from M_to M_value M_isWrong M_rowN M_ran M_actKind M_actN M_actA M_isParted u_s x1 r2 hc2) (cwV 1 hts gX7_does_X7_isOne rfl rfl rfl (by decide +kernel) ⟨Nat.le_of_ble_eq_true rfl, Nat.le_of_ble_eq_true rfl⟩) hG hS hAB hP [0, 1] rfl 0 7 rfl rfl rfl rfl hl.1 rfl (Nat.le_of_ble_eq_true rfl) dX7_does_2 rfl ?_
  refine lv_if_eq (tgt := 20) hx hb dX7_does_5 (by decide) (fun c_5 => ?_) (fun c_5 => ?_)
  · have hf := zp hf c_5
    refine lv_iconst (v := (-1 : Int32)) hx hb dX7_does_20 (by decide) ?_
    cases hf
    exact W.iret hx hb hr (fun t ht hW => ⟨rfl, ht⟩) (fun q h => absurd h List.not_mem_nil) dX7_does_21
  · have hf := zn hf c_5
    refine lv_iload_n hx hb dX7_does_8 rfl (lv_at hl 2 rfl) ?_
    refine lv_i2l hx hb dX7_does_9 rfl ?_
    refine lv_lconst (v := (0 : Int64)) hx hb dX7_does_10 (by decide) ?_
    refine lv_ldc2 (v := (2 : Int64)) hx hb hown (hts (.constantLong RX7 167 (2)) (by decide +kernel)) dX7_does_11 ?_
    obtain ⟨r14, hc14, hf⟩ := zb hf
    refine zsr (o := some (.int r14)) (As := [.long x2.toInt64, .long (0 : Int64), .long (2 : Int64)]) (rest := []) (stk := [.int r14]) ⟨hx, hb, hml, hown, hts⟩ (mX7_isIn l D cy st sk sv B  n x2.toInt64 (0 : Int64) (2 : Int64) r14 hc14) (va_cwS 3 hts gX7_does_X7_isIn rfl rfl rfl (by decide +kernel) ⟨Nat.le_of_ble_eq_true rfl, Nat.le_of_ble_eq_true rfl⟩) hG hS hAB hP [] rfl rfl hl.1 rfl (Nat.le_of_ble_eq_true rfl) dX7_does_14 rfl ?_
    refine lv_if_ne (tgt := 22) hx hb dX7_does_17 (by decide) (fun c_17 => ?_) (fun c_17 => ?_)
    · have hf := zn hf c_17
      refine lv_sipush (v := (1000 : Int32)) hx hb dX7_does_22 (by decide) ?_
      refine lv_iload_n hx hb dX7_does_25 rfl (lv_at hl 2 rfl) ?_
      refine lv_if_ne (tgt := 37) hx hb dX7_does_26 (by decide) (fun c_26 => ?_) (fun c_26 => ?_)
      · have hf := zn hf c_26
        refine lv_iload_n hx hb dX7_does_37 rfl (lv_at hl 2 rfl) ?_
        refine lv_iconst (v := (1 : Int32)) hx hb dX7_does_38 (by decide) ?_
        refine lv_icmp_ne (tgt := 50) hx hb dX7_does_39 (by decide) (fun c_39 => ?_) (fun c_39 => ?_)
        · have hf := zn hf c_39
          refine lv_aload_n hx hb dX7_does_50 rfl (lv_at hl 0 rfl) ?_
          refine lv_iload_n hx hb dX7_does_51 rfl (lv_at hl 1 rfl) ?_
          obtain ⟨r52, hc52, hf⟩ := zb hf
          refine zvr (o := some (.int r52)) (As := [.int x1]) (rest := [.int (1000 : Int32)]) (stk := [.int r52, .int (1000 : Int32)]) ⟨hx, hb, hml, hown, hts⟩ (mX7_costs l D cy st sk sv B am am0 am1 am2 am3 am4 am5 am6 am7 am8 am9 am10 am11 am12 n M_isHeld M_taped M_token M_from M_to M_value M_isWrong M_rowN M_ran M_actKind M_actN M_actA M_isParted u_s x1 r52 hc52) (cwV 1 hts gX7_does_X7_costs rfl rfl rfl (by decide +kernel) ⟨Nat.le_of_ble_eq_true rfl, Nat.le_of_ble_eq_true rfl⟩) hG hS hAB hP [0, 1] rfl 0 7 rfl rfl rfl rfl hl.1 rfl (Nat.le_of_ble_eq_true rfl) dX7_does_52 rfl ?_
          refine lv_iadd hx hb dX7_does_55 ?_
          cases hf
          exact W.iret hx hb hr (fun t ht hW => ⟨rfl, ht⟩) (fun q h => absurd h List.not_mem_nil) dX7_does_56
        · have hf := zp hf c_39
          refine lv_aload_n hx hb dX7_does_42 rfl (lv_at hl 0 rfl) ?_
          refine lv_iload_n hx hb dX7_does_43 rfl (lv_at hl 1 rfl) ?_
          obtain ⟨r44, hc44, hf⟩ := zb hf
          refine zvr (o := some (.int r44)) (As := [.int x1]) (rest := [.int (1000 : Int32)]) (stk := [.int r44, .int (1000 : Int32)]) ⟨hx, hb, hml, hown, hts⟩ (mX7_needsOf l D cy st sk sv B am am0 am1 am2 am3 am4 am5 am6 am7 am8 am9 am10 am11 am12 n M_isHeld M_taped M_token M_from M_to M_value M_isWrong M_rowN M_ran M_actKind M_actN M_actA M_isParted u_s x1 r44 hc44) (cwV 1 hts gX7_does_X7_needsOf rfl rfl rfl (by decide +kernel) ⟨Nat.le_of_ble_eq_true rfl, Nat.le_of_ble_eq_true rfl⟩) hG hS hAB hP [0, 1] rfl 0 7 rfl rfl rfl rfl hl.1 rfl (Nat.le_of_ble_eq_true rfl) dX7_does_44 rfl ?_
          refine lv_goto (tgt := 55) hx hb dX7_does_47 (by decide) ?_
          refine lv_iadd hx hb dX7_does_55 ?_
          cases hf
          exact W.iret hx hb hr (fun t ht hW => ⟨rfl, ht⟩) (fun q h => absurd h List.not_mem_nil) dX7_does_56
      · have hf := zp hf c_26
        refine lv_aload_n hx hb dX7_does_29 rfl (lv_at hl 0 rfl) ?_
        refine lv_iload_n hx hb dX7_does_30 rfl (lv_at hl 1 rfl) ?_
        obtain ⟨r31, hc31, hf⟩ := zb hf
        refine zvr (o := some (.int r31)) (As := [.int x1]) (rest := [.int (1000 : Int32)]) (stk := [.int r31, .int (1000 : Int32)]) ⟨hx, hb, hml, hown, hts⟩ (mX7_takes l D cy st sk sv B am am0 am1 am2 am3 am4 am5 am6 am7 am8 am9 am10 am11 am12 n M_isHeld M_taped M_token M_from M_to M_value M_isWrong M_rowN M_ran M_actKind M_actN M_actA M_isParted u_s x1 r31 hc31) (cwV 1 hts gX7_does_X7_takes rfl rfl rfl (by decide +kernel) ⟨Nat.le_of_ble_eq_true rfl, Nat.le_of_ble_eq_true rfl⟩) hG hS hAB hP [0, 1] rfl 0 7 rfl rfl rfl rfl hl.1 rfl (Nat.le_of_ble_eq_true rfl) dX7_does_31 rfl ?_
        refine lv_goto (tgt := 55) hx hb dX7_does_34 (by decide) ?_
        refine lv_iadd hx hb dX7_does_55 ?_
        cases hf
        exact W.iret hx hb hr (fun t ht hW => ⟨rfl, ht⟩) (fun q h => absurd h List.not_mem_nil) dX7_does_56
    · have hf := zp hf c_17
      refine lv_iconst (v := (-1 : Int32)) hx hb dX7_does_20 (by decide) ?_
      cases hf
      exact W.iret hx hb hr (fun t ht hW => ⟨rfl, ht⟩) (fun q h => absurd h List.not_mem_nil) dX7_does_21
set_option maxRecDepth 100000 in
set_option maxHeartbeats 100000000 in
theorem mX7_mind (l : Launch) (D : va_G) (cy : Nat → ClassId) (st sk sv : Nat → Nat) (B : Nat) (am : Nat) (am0 : Nat) (am1 : Nat) (am2 : Nat) (am3 : Nat) (am4 : Nat) (am5 : Nat) (am6 : Nat) (am7 : Nat) (am8 : Nat) (am9 : Nat) (am10 : Nat) (am11 : Nat) (am12 : Nat) (sz : Nat) (n : Nat) (M_isHeld : Int32) (M_taped : Int32) (M_token : Int32) (M_from : Int32) (M_to : Int32) (M_value : Int32) (M_isWrong : Int32) (M_rowN : Int32) (M_ran : Int32) (M_actKind : Int32) (M_actN : Int32) (M_actA : Int32) (M_isParted : Int32) (u_s : (Nat → Int32)) (x1 : Int32) (x2 : Int32) (z : Int32 × (Nat → Int32)) (hf : fX7_mind n (M_isHeld, M_taped, M_token, M_from, M_to, M_value, M_isWrong, M_rowN, M_ran, M_actKind, M_actN, M_actA, M_isParted) u_s x1 x2 = some z) : Met l yX7_mind wsX7_mind ({ frames := 1, cells := 0, slots := 0, locals := 25 }) (PcW [.ref am, .int x1, .int x2] D cy st sk sv B sz [(am, .inr (7, [.ref am0, .ref am1, .ref am2, .ref am3, .int M_isHeld, .ref am4, .int M_taped, .int M_token, .int M_from, .int M_to, .int M_value, .int M_isWrong, .ref am5, .int M_rowN, .ref am6, .ref am7, .ref am8, .ref am9, .ref am10, .ref am11, .ref am12, .int M_ran, .int M_actKind, .int M_actN, .int M_actA, .int M_isParted])), (am0, .inl (cy 0, 48, .inl u_s))]) (Qw (some (.int z.1)) D [(am, .inr (7, [.ref am0, .ref am1, .ref am2, .ref am3, .int M_isHeld, .ref am4, .int M_taped, .int M_token, .int M_from, .int M_to, .int M_value, .int M_isWrong, .ref am5, .int M_rowN, .ref am6, .ref am7, .ref am8, .ref am9, .ref am10, .ref am11, .ref am12, .int M_ran, .int M_actKind, .int M_actN, .int M_actA, .int M_isParted])), (am0, .inl (cy 0, 48, .inl z.2))] (va_A [(am, .inr (7, [.ref am0, .ref am1, .ref am2, .ref am3, .int M_isHeld, .ref am4, .int M_taped, .int M_token, .int M_from, .int M_to, .int M_value, .int M_isWrong, .ref am5, .int M_rowN, .ref am6, .ref am7, .ref am8, .ref am9, .ref am10, .ref am11, .ref am12, .int M_ran, .int M_actKind, .int M_actN, .int M_actA, .int M_isParted])), (am0, .inl (cy 0, 48, .inl u_s))] sz)) 0 0 (va_A [(am, .inr (7, [.ref am0, .ref am1, .ref am2, .ref am3, .int M_isHeld, .ref am4, .int M_taped, .int M_token, .int M_from, .int M_to, .int M_value, .int M_isWrong, .ref am5, .int M_rowN, .ref am6, .ref am7, .ref am8, .ref am9, .ref am10, .ref am11, .ref am12, .int M_ran, .int M_actKind, .int M_actN, .int M_actA, .int M_isParted])), (am0, .inl (cy 0, 48, .inl u_s))] sz) := by
  refine Met.ofW (cc := cX7_mind) (maxL := 3) (ret := (some .int)) (by decide) rfl ?_
  intro p e s m args below meth c s₁ Bd hml hv
  obtain ⟨rfl, hsz, hP, hD0, hBs, hG⟩ := hv
  have hx := Bd.exec
  have hb := Bd.bytes
  have hr := Bd.returns
  have hts := atoms_spec (ws := wsX7_mind) Bd.pre
  have hown : s.vm.findClass RX7 = some m.cls := findClass_of_methodNamed Bd.named
  have hlocks := Bd.notSynchronized
  have hK := hG.1
  subst hsz
  have hD := hD0.self (sz := s.heap.size)
  have hAB0 := zA hD0 hBs
  generalize hAe : va_A [(am, .inr (7, [.ref am0, .ref am1, .ref am2, .ref am3, .int M_isHeld, .ref am4, .int M_taped, .int M_token, .int M_from, .int M_to, .int M_value, .int M_isWrong, .ref am5, .int M_rowN, .ref am6, .ref am7, .ref am8, .ref am9, .ref am10, .ref am11, .ref am12, .int M_ran, .int M_actKind, .int M_actN, .int M_actA, .int M_isParted])), (am0, .inl (cy 0, 48, .inl u_s))] s.heap.size = A at hD hAB0 ⊢
  have hA : ∀ q : Nat, s.heap.size ≤ q → A q := fun q h => by rw [← hAe]; exact Or.inr h
  have hAB : ∀ q, A q → B ≤ q := hAB0
  have hS : va_S A s.heap s.heap [] := va_S.rf
  have hfin : ∀ (z0 : Int32) (u_s : (Nat → Int32)), some (z0, u_s) = some z → ∀ (H : Heap) (t : State), t.heap = H → va_P D vwCl [(am, .inr (7, [.ref am0, .ref am1, .ref am2, .ref am3, .int M_isHeld, .ref am4, .int M_taped, .int M_token, .int M_from, .int M_to, .int M_value, .int M_isWrong, .ref am5, .int M_rowN, .ref am6, .ref am7, .ref am8, .ref am9, .ref am10, .ref am11, .ref am12, .int M_ran, .int M_actKind, .int M_actN, .int M_actA, .int M_isParted])), (am0, .inl (cy 0, 48, .inl u_s))] H → va_F A s t → Qw (some (.int z.1)) D [(am, .inr (7, [.ref am0, .ref am1, .ref am2, .ref am3, .int M_isHeld, .ref am4, .int M_taped, .int M_token, .int M_from, .int M_to, .int M_value, .int M_isWrong, .ref am5, .int M_rowN, .ref am6, .ref am7, .ref am8, .ref am9, .ref am10, .ref am11, .ref am12, .int M_ran, .int M_actKind, .int M_actN, .int M_actA, .int M_isParted])), (am0, .inl (cy 0, 48, .inl z.2))] A ([.ref am, .int x1, .int x2] : List Value).toArray s (.returned (some (.int z0))) t := by
    intro z0 u_s h9 H t ht hP hF
    cases h9
    exact ⟨rfl, by rw [ht]; exact hP, hF⟩
  have hl := lv_entry ([.ref am, .int x1, .int x2]) (n := 3) (Nat.le_of_ble_eq_true rfl)
  rw [lg_entry_eq]
  generalize (lg_sl ([.ref am, .int x1, .int x2]) ++ List.replicate (3 - (lg_sl ([.ref am, .int x1, .int x2])).length) Slot.unset).toArray = ls at hl ⊢
  have hl : lv_has ls 3 [(0, .ref am), (1, .int x1), (2, .int x2)] := hl
  have hf : ((fX7_isOne n (M_isHeld, M_taped, M_token, M_from, M_to, M_value, M_isWrong, M_rowN, M_ran, M_actKind, M_actN, M_actA, M_isParted) u_s x1).bind fun r2 => if r2 = 0 then (some ((-1 : Int32), u_s)) else ((fX7_isIn n x2.toInt64 (0 : Int64) (5 : Int64)).bind fun r14 => if r14 = 0 then (some ((-1 : Int32), u_s)) else ((fX7_becomes n (M_isHeld, M_taped, M_token, M_from, M_to, M_value, M_isWrong, M_rowN, M_ran, M_actKind, M_actN, M_actA, M_isParted) u_s ((8 : Int32) + ((5 : Int32) * x1)) x2).bind fun r28 => some (r28.1, r28.2)))) = some z := hf
  refine lv_aload_n hx hb dX7_mind_0 rfl (lv_at hl 0 rfl) ?_
  refine lv_iload_n hx hb dX7_mind_1 rfl (lv_at hl 1 rfl) ?_
  obtain ⟨r2, hc2, hf⟩ := zb hf
  refine zvr (o := some (.int r2)) (As := [.int x1]) (rest := []) (stk := [.int r2]) ⟨hx, hb, hml, hown, hts⟩ (mX7_isOne l D cy st sk sv B am am0 am1 am2 am3 am4 am5 am6 am7 am8 am9 am10 am11 am12 n M_isHeld M_taped M_token M_from M_to M_value M_isWrong M_rowN M_ran M_actKind M_actN M_actA M_isParted u_s x1 r2 hc2) (cwV 1 hts gX7_mind_X7_isOne rfl rfl rfl (by decide +kernel) ⟨Nat.le_of_ble_eq_true rfl, Nat.le_of_ble_eq_true rfl⟩) hG hS hAB hP [0, 1] rfl 0 7 rfl rfl rfl rfl hl.1 rfl (Nat.le_of_ble_eq_true rfl) dX7_mind_2 rfl ?_
  refine lv_if_eq (tgt := 34) hx hb dX7_mind_5 (by decide) (fun c_5 => ?_) (fun c_5 => ?_)
  · have hf := zp hf c_5
    refine lv_iconst (v := (-1 : Int32)) hx hb dX7_mind_34 (by decide) ?_
    exact W.iret hx hb hr (fun t ht hW => hfin (-1 : Int32) u_s hf _ t ht hP (hS.F ht)) hS.2.2 dX7_mind_35
  · have hf := zn hf c_5
    refine lv_iload_n hx hb dX7_mind_8 rfl (lv_at hl 2 rfl) ?_
    refine lv_i2l hx hb dX7_mind_9 rfl ?_
    refine lv_lconst (v := (0 : Int64)) hx hb dX7_mind_10 (by decide) ?_
    refine lv_ldc2 (v := (5 : Int64)) hx hb hown (hts (.constantLong RX7 151 (5)) (by decide +kernel)) dX7_mind_11 ?_
    obtain ⟨r14, hc14, hf⟩ := zb hf
    refine zsr (o := some (.int r14)) (As := [.long x2.toInt64, .long (0 : Int64), .long (5 : Int64)]) (rest := []) (stk := [.int r14]) ⟨hx, hb, hml, hown, hts⟩ (mX7_isIn l D cy st sk sv B  n x2.toInt64 (0 : Int64) (5 : Int64) r14 hc14) (va_cwS 3 hts gX7_mind_X7_isIn rfl rfl rfl (by decide +kernel) ⟨Nat.le_of_ble_eq_true rfl, Nat.le_of_ble_eq_true rfl⟩) hG hS hAB hP [] rfl rfl hl.1 rfl (Nat.le_of_ble_eq_true rfl) dX7_mind_14 rfl ?_
    refine lv_if_eq (tgt := 34) hx hb dX7_mind_17 (by decide) (fun c_17 => ?_) (fun c_17 => ?_)
    · have hf := zp hf c_17
      refine lv_iconst (v := (-1 : Int32)) hx hb dX7_mind_34 (by decide) ?_
      exact W.iret hx hb hr (fun t ht hW => hfin (-1 : Int32) u_s hf _ t ht hP (hS.F ht)) hS.2.2 dX7_mind_35
    · have hf := zn hf c_17
      refine lv_aload_n hx hb dX7_mind_20 rfl (lv_at hl 0 rfl) ?_
      refine lv_bipush (v := (8 : Int32)) hx hb dX7_mind_21 (by decide) ?_
      refine lv_iconst (v := (5 : Int32)) hx hb dX7_mind_23 (by decide) ?_
      refine lv_iload_n hx hb dX7_mind_24 rfl (lv_at hl 1 rfl) ?_
      refine lv_imul hx hb dX7_mind_25 ?_
      refine lv_iadd hx hb dX7_mind_26 ?_
      refine lv_iload_n hx hb dX7_mind_27 rfl (lv_at hl 2 rfl) ?_
      obtain ⟨r28, hc28, hf⟩ := zb hf
      refine zvw (o := some (.int r28.1)) (As := [.int ((8 : Int32) + ((5 : Int32) * x1)), .int x2]) (rest := []) (stk := [.int r28.1]) ⟨hx, hb, hml, hown, hts⟩ (mX7_becomes l D cy st sk sv B am am0 am1 am2 am3 am4 am5 am6 am7 am8 am9 am10 am11 am12 _ n M_isHeld M_taped M_token M_from M_to M_value M_isWrong M_rowN M_ran M_actKind M_actN M_actA M_isParted u_s ((8 : Int32) + ((5 : Int32) * x1)) x2 r28 hc28) (cwV 2 hts gX7_mind_X7_becomes rfl rfl rfl (by decide +kernel) ⟨Nat.le_of_ble_eq_true rfl, Nat.le_of_ble_eq_true rfl⟩) hG hS hAB hA hP hD [0, 1] (by decide) rfl rfl rfl rfl 0 7 rfl rfl rfl rfl hl.1 rfl (Nat.le_of_ble_eq_true rfl) dX7_mind_28 rfl (fun H locs hP hD hS => ?_)
      have hP : va_P D vwCl [(am, .inr (7, [.ref am0, .ref am1, .ref am2, .ref am3, .int M_isHeld, .ref am4, .int M_taped, .int M_token, .int M_from, .int M_to, .int M_value, .int M_isWrong, .ref am5, .int M_rowN, .ref am6, .ref am7, .ref am8, .ref am9, .ref am10, .ref am11, .ref am12, .int M_ran, .int M_actKind, .int M_actN, .int M_actA, .int M_isParted])), (am0, .inl (cy 0, 48, .inl r28.2))] H := hP
      have hD : va_D A [(am, .inr (7, [.ref am0, .ref am1, .ref am2, .ref am3, .int M_isHeld, .ref am4, .int M_taped, .int M_token, .int M_from, .int M_to, .int M_value, .int M_isWrong, .ref am5, .int M_rowN, .ref am6, .ref am7, .ref am8, .ref am9, .ref am10, .ref am11, .ref am12, .int M_ran, .int M_actKind, .int M_actN, .int M_actA, .int M_isParted])), (am0, .inl (cy 0, 48, .inl r28.2))] := hD
      refine lv_goto (tgt := 35) hx hb dX7_mind_31 (by decide) ?_
      exact W.iret hx hb hr (fun t ht hW => hfin r28.1 r28.2 hf _ t ht hP (hS.F ht)) hS.2.2 dX7_mind_35
set_option maxRecDepth 100000 in
set_option maxHeartbeats 100000000 in
theorem mX7_give (l : Launch) (D : va_G) (cy : Nat → ClassId) (st sk sv : Nat → Nat) (B : Nat) (am : Nat) (am0 : Nat) (am1 : Nat) (am2 : Nat) (am3 : Nat) (am4 : Nat) (am5 : Nat) (am6 : Nat) (am7 : Nat) (am8 : Nat) (am9 : Nat) (am10 : Nat) (am11 : Nat) (am12 : Nat) (sz : Nat) (n : Nat) (M_isHeld : Int32) (M_taped : Int32) (M_token : Int32) (M_from : Int32) (M_to : Int32) (M_value : Int32) (M_isWrong : Int32) (M_rowN : Int32) (M_ran : Int32) (M_actKind : Int32) (M_actN : Int32) (M_actA : Int32) (M_isParted : Int32) (u_s : (Nat → Int32)) (x1 : Int32) (x2 : Int32) (z : Int32 × (Nat → Int32)) (hf : fX7_give n (M_isHeld, M_taped, M_token, M_from, M_to, M_value, M_isWrong, M_rowN, M_ran, M_actKind, M_actN, M_actA, M_isParted) u_s x1 x2 = some z) : Met l yX7_give wsX7_give ({ frames := 2, cells := 0, slots := 0, locals := 45 }) (PcW [.ref am, .int x1, .int x2] D cy st sk sv B sz [(am, .inr (7, [.ref am0, .ref am1, .ref am2, .ref am3, .int M_isHeld, .ref am4, .int M_taped, .int M_token, .int M_from, .int M_to, .int M_value, .int M_isWrong, .ref am5, .int M_rowN, .ref am6, .ref am7, .ref am8, .ref am9, .ref am10, .ref am11, .ref am12, .int M_ran, .int M_actKind, .int M_actN, .int M_actA, .int M_isParted])), (am0, .inl (cy 0, 48, .inl u_s))]) (Qw (some (.int z.1)) D [(am, .inr (7, [.ref am0, .ref am1, .ref am2, .ref am3, .int M_isHeld, .ref am4, .int M_taped, .int M_token, .int M_from, .int M_to, .int M_value, .int M_isWrong, .ref am5, .int M_rowN, .ref am6, .ref am7, .ref am8, .ref am9, .ref am10, .ref am11, .ref am12, .int M_ran, .int M_actKind, .int M_actN, .int M_actA, .int M_isParted])), (am0, .inl (cy 0, 48, .inl z.2))] (va_A [(am, .inr (7, [.ref am0, .ref am1, .ref am2, .ref am3, .int M_isHeld, .ref am4, .int M_taped, .int M_token, .int M_from, .int M_to, .int M_value, .int M_isWrong, .ref am5, .int M_rowN, .ref am6, .ref am7, .ref am8, .ref am9, .ref am10, .ref am11, .ref am12, .int M_ran, .int M_actKind, .int M_actN, .int M_actA, .int M_isParted])), (am0, .inl (cy 0, 48, .inl u_s))] sz)) 0 0 (va_A [(am, .inr (7, [.ref am0, .ref am1, .ref am2, .ref am3, .int M_isHeld, .ref am4, .int M_taped, .int M_token, .int M_from, .int M_to, .int M_value, .int M_isWrong, .ref am5, .int M_rowN, .ref am6, .ref am7, .ref am8, .ref am9, .ref am10, .ref am11, .ref am12, .int M_ran, .int M_actKind, .int M_actN, .int M_actA, .int M_isParted])), (am0, .inl (cy 0, 48, .inl u_s))] sz) := by
  refine Met.ofW (cc := cX7_give) (maxL := 3) (ret := (some .int)) (by decide) rfl ?_
  intro p e s m args below meth c s₁ Bd hml hv
  obtain ⟨rfl, hsz, hP, hD0, hBs, hG⟩ := hv
  have hx := Bd.exec
  have hb := Bd.bytes
  have hr := Bd.returns
  have hts := atoms_spec (ws := wsX7_give) Bd.pre
  have hown : s.vm.findClass RX7 = some m.cls := findClass_of_methodNamed Bd.named
  have hlocks := Bd.notSynchronized
  have hK := hG.1
  subst hsz
  have hD := hD0.self (sz := s.heap.size)
  have hAB0 := zA hD0 hBs
  generalize hAe : va_A [(am, .inr (7, [.ref am0, .ref am1, .ref am2, .ref am3, .int M_isHeld, .ref am4, .int M_taped, .int M_token, .int M_from, .int M_to, .int M_value, .int M_isWrong, .ref am5, .int M_rowN, .ref am6, .ref am7, .ref am8, .ref am9, .ref am10, .ref am11, .ref am12, .int M_ran, .int M_actKind, .int M_actN, .int M_actA, .int M_isParted])), (am0, .inl (cy 0, 48, .inl u_s))] s.heap.size = A at hD hAB0 ⊢
  have hA : ∀ q : Nat, s.heap.size ≤ q → A q := fun q h => by rw [← hAe]; exact Or.inr h
  have hAB : ∀ q, A q → B ≤ q := hAB0
  have hS : va_S A s.heap s.heap [] := va_S.rf
  have hfin : ∀ (z0 : Int32) (u_s : (Nat → Int32)), some (z0, u_s) = some z → ∀ (H : Heap) (t : State), t.heap = H → va_P D vwCl [(am, .inr (7, [.ref am0, .ref am1, .ref am2, .ref am3, .int M_isHeld, .ref am4, .int M_taped, .int M_token, .int M_from, .int M_to, .int M_value, .int M_isWrong, .ref am5, .int M_rowN, .ref am6, .ref am7, .ref am8, .ref am9, .ref am10, .ref am11, .ref am12, .int M_ran, .int M_actKind, .int M_actN, .int M_actA, .int M_isParted])), (am0, .inl (cy 0, 48, .inl u_s))] H → va_F A s t → Qw (some (.int z.1)) D [(am, .inr (7, [.ref am0, .ref am1, .ref am2, .ref am3, .int M_isHeld, .ref am4, .int M_taped, .int M_token, .int M_from, .int M_to, .int M_value, .int M_isWrong, .ref am5, .int M_rowN, .ref am6, .ref am7, .ref am8, .ref am9, .ref am10, .ref am11, .ref am12, .int M_ran, .int M_actKind, .int M_actN, .int M_actA, .int M_isParted])), (am0, .inl (cy 0, 48, .inl z.2))] A ([.ref am, .int x1, .int x2] : List Value).toArray s (.returned (some (.int z0))) t := by
    intro z0 u_s h9 H t ht hP hF
    cases h9
    exact ⟨rfl, by rw [ht]; exact hP, hF⟩
  have hl := lv_entry ([.ref am, .int x1, .int x2]) (n := 3) (Nat.le_of_ble_eq_true rfl)
  rw [lg_entry_eq]
  generalize (lg_sl ([.ref am, .int x1, .int x2]) ++ List.replicate (3 - (lg_sl ([.ref am, .int x1, .int x2])).length) Slot.unset).toArray = ls at hl ⊢
  have hl : lv_has ls 3 [(0, .ref am), (1, .int x1), (2, .int x2)] := hl
  have hf : ((fX7_isOne n (M_isHeld, M_taped, M_token, M_from, M_to, M_value, M_isWrong, M_rowN, M_ran, M_actKind, M_actN, M_actA, M_isParted) u_s x1).bind fun r2 => if r2 = 0 then (some ((-1 : Int32), u_s)) else ((fX7_isPiece n x2).bind fun r9 => if r9 = 0 then (some ((-1 : Int32), u_s)) else ((fX7_becomes n (M_isHeld, M_taped, M_token, M_from, M_to, M_value, M_isWrong, M_rowN, M_ran, M_actKind, M_actN, M_actA, M_isParted) u_s (((8 : Int32) + ((5 : Int32) * x1)) + (1 : Int32)) x2).bind fun r25 => some (r25.1, r25.2)))) = some z := hf
  refine lv_aload_n hx hb dX7_give_0 rfl (lv_at hl 0 rfl) ?_
  refine lv_iload_n hx hb dX7_give_1 rfl (lv_at hl 1 rfl) ?_
  obtain ⟨r2, hc2, hf⟩ := zb hf
  refine zvr (o := some (.int r2)) (As := [.int x1]) (rest := []) (stk := [.int r2]) ⟨hx, hb, hml, hown, hts⟩ (mX7_isOne l D cy st sk sv B am am0 am1 am2 am3 am4 am5 am6 am7 am8 am9 am10 am11 am12 n M_isHeld M_taped M_token M_from M_to M_value M_isWrong M_rowN M_ran M_actKind M_actN M_actA M_isParted u_s x1 r2 hc2) (cwV 1 hts gX7_give_X7_isOne rfl rfl rfl (by decide +kernel) ⟨Nat.le_of_ble_eq_true rfl, Nat.le_of_ble_eq_true rfl⟩) hG hS hAB hP [0, 1] rfl 0 7 rfl rfl rfl rfl hl.1 rfl (Nat.le_of_ble_eq_true rfl) dX7_give_2 rfl ?_
  refine lv_if_eq (tgt := 31) hx hb dX7_give_5 (by decide) (fun c_5 => ?_) (fun c_5 => ?_)
  · have hf := zp hf c_5
    refine lv_iconst (v := (-1 : Int32)) hx hb dX7_give_31 (by decide) ?_
    exact W.iret hx hb hr (fun t ht hW => hfin (-1 : Int32) u_s hf _ t ht hP (hS.F ht)) hS.2.2 dX7_give_32
  · have hf := zn hf c_5
    refine lv_iload_n hx hb dX7_give_8 rfl (lv_at hl 2 rfl) ?_
    obtain ⟨r9, hc9, hf⟩ := zb hf
    refine zsr (o := some (.int r9)) (As := [.int x2]) (rest := []) (stk := [.int r9]) ⟨hx, hb, hml, hown, hts⟩ (mX7_isPiece l D cy st sk sv B  n x2 r9 hc9) (va_cwS 1 hts gX7_give_X7_isPiece rfl rfl rfl (by decide +kernel) ⟨Nat.le_of_ble_eq_true rfl, Nat.le_of_ble_eq_true rfl⟩) hG hS hAB hP [] rfl rfl hl.1 rfl (Nat.le_of_ble_eq_true rfl) dX7_give_9 rfl ?_
    refine lv_if_eq (tgt := 31) hx hb dX7_give_12 (by decide) (fun c_12 => ?_) (fun c_12 => ?_)
    · have hf := zp hf c_12
      refine lv_iconst (v := (-1 : Int32)) hx hb dX7_give_31 (by decide) ?_
      exact W.iret hx hb hr (fun t ht hW => hfin (-1 : Int32) u_s hf _ t ht hP (hS.F ht)) hS.2.2 dX7_give_32
    · have hf := zn hf c_12
      refine lv_aload_n hx hb dX7_give_15 rfl (lv_at hl 0 rfl) ?_
      refine lv_bipush (v := (8 : Int32)) hx hb dX7_give_16 (by decide) ?_
      refine lv_iconst (v := (5 : Int32)) hx hb dX7_give_18 (by decide) ?_
      refine lv_iload_n hx hb dX7_give_19 rfl (lv_at hl 1 rfl) ?_
      refine lv_imul hx hb dX7_give_20 ?_
      refine lv_iadd hx hb dX7_give_21 ?_
      refine lv_iconst (v := (1 : Int32)) hx hb dX7_give_22 (by decide) ?_
      refine lv_iadd hx hb dX7_give_23 ?_
      refine lv_iload_n hx hb dX7_give_24 rfl (lv_at hl 2 rfl) ?_
      obtain ⟨r25, hc25, hf⟩ := zb hf
      refine zvw (o := some (.int r25.1)) (As := [.int (((8 : Int32) + ((5 : Int32) * x1)) + (1 : Int32)), .int x2]) (rest := []) (stk := [.int r25.1]) ⟨hx, hb, hml, hown, hts⟩ (mX7_becomes l D cy st sk sv B am am0 am1 am2 am3 am4 am5 am6 am7 am8 am9 am10 am11 am12 _ n M_isHeld M_taped M_token M_from M_to M_value M_isWrong M_rowN M_ran M_actKind M_actN M_actA M_isParted u_s (((8 : Int32) + ((5 : Int32) * x1)) + (1 : Int32)) x2 r25 hc25) (cwV 2 hts gX7_give_X7_becomes rfl rfl rfl (by decide +kernel) ⟨Nat.le_of_ble_eq_true rfl, Nat.le_of_ble_eq_true rfl⟩) hG hS hAB hA hP hD [0, 1] (by decide) rfl rfl rfl rfl 0 7 rfl rfl rfl rfl hl.1 rfl (Nat.le_of_ble_eq_true rfl) dX7_give_25 rfl (fun H locs hP hD hS => ?_)
      have hP : va_P D vwCl [(am, .inr (7, [.ref am0, .ref am1, .ref am2, .ref am3, .int M_isHeld, .ref am4, .int M_taped, .int M_token, .int M_from, .int M_to, .int M_value, .int M_isWrong, .ref am5, .int M_rowN, .ref am6, .ref am7, .ref am8, .ref am9, .ref am10, .ref am11, .ref am12, .int M_ran, .int M_actKind, .int M_actN, .int M_actA, .int M_isParted])), (am0, .inl (cy 0, 48, .inl r25.2))] H := hP
      have hD : va_D A [(am, .inr (7, [.ref am0, .ref am1, .ref am2, .ref am3, .int M_isHeld, .ref am4, .int M_taped, .int M_token, .int M_from, .int M_to, .int M_value, .int M_isWrong, .ref am5, .int M_rowN, .ref am6, .ref am7, .ref am8, .ref am9, .ref am10, .ref am11, .ref am12, .int M_ran, .int M_actKind, .int M_actN, .int M_actA, .int M_isParted])), (am0, .inl (cy 0, 48, .inl r25.2))] := hD
      refine lv_goto (tgt := 32) hx hb dX7_give_28 (by decide) ?_
      exact W.iret hx hb hr (fun t ht hW => hfin r25.1 r25.2 hf _ t ht hP (hS.F ht)) hS.2.2 dX7_give_32
set_option maxRecDepth 100000 in
set_option maxHeartbeats 100000000 in
theorem mX7_sink (l : Launch) (D : va_G) (cy : Nat → ClassId) (st sk sv : Nat → Nat) (B : Nat) (am : Nat) (am0 : Nat) (am1 : Nat) (am2 : Nat) (am3 : Nat) (am4 : Nat) (am5 : Nat) (am6 : Nat) (am7 : Nat) (am8 : Nat) (am9 : Nat) (am10 : Nat) (am11 : Nat) (am12 : Nat) (sz : Nat) (n : Nat) (M_isHeld : Int32) (M_taped : Int32) (M_token : Int32) (M_from : Int32) (M_to : Int32) (M_value : Int32) (M_isWrong : Int32) (M_rowN : Int32) (M_ran : Int32) (M_actKind : Int32) (M_actN : Int32) (M_actA : Int32) (M_isParted : Int32) (u_s : (Nat → Int32)) (x1 : Int32) (x2 : Int32) (x3 : Int32) (z : Int32 × (Nat → Int32)) (hf : fX7_sink n (M_isHeld, M_taped, M_token, M_from, M_to, M_value, M_isWrong, M_rowN, M_ran, M_actKind, M_actN, M_actA, M_isParted) u_s x1 x2 x3 = some z) : Met l yX7_sink wsX7_sink ({ frames := 1, cells := 0, slots := 0, locals := 25 }) (PcW [.ref am, .int x1, .int x2, .int x3] D cy st sk sv B sz [(am, .inr (7, [.ref am0, .ref am1, .ref am2, .ref am3, .int M_isHeld, .ref am4, .int M_taped, .int M_token, .int M_from, .int M_to, .int M_value, .int M_isWrong, .ref am5, .int M_rowN, .ref am6, .ref am7, .ref am8, .ref am9, .ref am10, .ref am11, .ref am12, .int M_ran, .int M_actKind, .int M_actN, .int M_actA, .int M_isParted])), (am0, .inl (cy 0, 48, .inl u_s))]) (Qw (some (.int z.1)) D [(am, .inr (7, [.ref am0, .ref am1, .ref am2, .ref am3, .int M_isHeld, .ref am4, .int M_taped, .int M_token, .int M_from, .int M_to, .int M_value, .int M_isWrong, .ref am5, .int M_rowN, .ref am6, .ref am7, .ref am8, .ref am9, .ref am10, .ref am11, .ref am12, .int M_ran, .int M_actKind, .int M_actN, .int M_actA, .int M_isParted])), (am0, .inl (cy 0, 48, .inl z.2))] (va_A [(am, .inr (7, [.ref am0, .ref am1, .ref am2, .ref am3, .int M_isHeld, .ref am4, .int M_taped, .int M_token, .int M_from, .int M_to, .int M_value, .int M_isWrong, .ref am5, .int M_rowN, .ref am6, .ref am7, .ref am8, .ref am9, .ref am10, .ref am11, .ref am12, .int M_ran, .int M_actKind, .int M_actN, .int M_actA, .int M_isParted])), (am0, .inl (cy 0, 48, .inl u_s))] sz)) 0 0 (va_A [(am, .inr (7, [.ref am0, .ref am1, .ref am2, .ref am3, .int M_isHeld, .ref am4, .int M_taped, .int M_token, .int M_from, .int M_to, .int M_value, .int M_isWrong, .ref am5, .int M_rowN, .ref am6, .ref am7, .ref am8, .ref am9, .ref am10, .ref am11, .ref am12, .int M_ran, .int M_actKind, .int M_actN, .int M_actA, .int M_isParted])), (am0, .inl (cy 0, 48, .inl u_s))] sz) := by
  refine Met.ofW (cc := cX7_sink) (maxL := 4) (ret := (some .int)) (by decide) rfl ?_
  intro p e s m args below meth c s₁ Bd hml hv
  obtain ⟨rfl, hsz, hP, hD0, hBs, hG⟩ := hv
  have hx := Bd.exec
  have hb := Bd.bytes
  have hr := Bd.returns
  have hts := atoms_spec (ws := wsX7_sink) Bd.pre
  have hown : s.vm.findClass RX7 = some m.cls := findClass_of_methodNamed Bd.named
  have hlocks := Bd.notSynchronized
  have hK := hG.1
  subst hsz
  have hD := hD0.self (sz := s.heap.size)
  have hAB0 := zA hD0 hBs
  generalize hAe : va_A [(am, .inr (7, [.ref am0, .ref am1, .ref am2, .ref am3, .int M_isHeld, .ref am4, .int M_taped, .int M_token, .int M_from, .int M_to, .int M_value, .int M_isWrong, .ref am5, .int M_rowN, .ref am6, .ref am7, .ref am8, .ref am9, .ref am10, .ref am11, .ref am12, .int M_ran, .int M_actKind, .int M_actN, .int M_actA, .int M_isParted])), (am0, .inl (cy 0, 48, .inl u_s))] s.heap.size = A at hD hAB0 ⊢
  have hA : ∀ q : Nat, s.heap.size ≤ q → A q := fun q h => by rw [← hAe]; exact Or.inr h
  have hAB : ∀ q, A q → B ≤ q := hAB0
  have hS : va_S A s.heap s.heap [] := va_S.rf
  have hfin : ∀ (z0 : Int32) (u_s : (Nat → Int32)), some (z0, u_s) = some z → ∀ (H : Heap) (t : State), t.heap = H → va_P D vwCl [(am, .inr (7, [.ref am0, .ref am1, .ref am2, .ref am3, .int M_isHeld, .ref am4, .int M_taped, .int M_token, .int M_from, .int M_to, .int M_value, .int M_isWrong, .ref am5, .int M_rowN, .ref am6, .ref am7, .ref am8, .ref am9, .ref am10, .ref am11, .ref am12, .int M_ran, .int M_actKind, .int M_actN, .int M_actA, .int M_isParted])), (am0, .inl (cy 0, 48, .inl u_s))] H → va_F A s t → Qw (some (.int z.1)) D [(am, .inr (7, [.ref am0, .ref am1, .ref am2, .ref am3, .int M_isHeld, .ref am4, .int M_taped, .int M_token, .int M_from, .int M_to, .int M_value, .int M_isWrong, .ref am5, .int M_rowN, .ref am6, .ref am7, .ref am8, .ref am9, .ref am10, .ref am11, .ref am12, .int M_ran, .int M_actKind, .int M_actN, .int M_actA, .int M_isParted])), (am0, .inl (cy 0, 48, .inl z.2))] A ([.ref am, .int x1, .int x2, .int x3] : List Value).toArray s (.returned (some (.int z0))) t := by
    intro z0 u_s h9 H t ht hP hF
    cases h9
    exact ⟨rfl, by rw [ht]; exact hP, hF⟩
  have hB56 : ∀ (u_s : (Nat → Int32)) (w1 : Int32) (w2 : Int32), fX7_sink_b56 n (M_isHeld, M_taped, M_token, M_from, M_to, M_value, M_isWrong, M_rowN, M_ran, M_actKind, M_actN, M_actA, M_isParted) x1 x2 x3  u_s w1 w2 = some z → ∀ (H : Heap) (locs : List Loc), va_P D vwCl [(am, .inr (7, [.ref am0, .ref am1, .ref am2, .ref am3, .int M_isHeld, .ref am4, .int M_taped, .int M_token, .int M_from, .int M_to, .int M_value, .int M_isWrong, .ref am5, .int M_rowN, .ref am6, .ref am7, .ref am8, .ref am9, .ref am10, .ref am11, .ref am12, .int M_ran, .int M_actKind, .int M_actN, .int M_actA, .int M_isParted])), (am0, .inl (cy 0, 48, .inl u_s))] H → va_D A [(am, .inr (7, [.ref am0, .ref am1, .ref am2, .ref am3, .int M_isHeld, .ref am4, .int M_taped, .int M_token, .int M_from, .int M_to, .int M_value, .int M_isWrong, .ref am5, .int M_rowN, .ref am6, .ref am7, .ref am8, .ref am9, .ref am10, .ref am11, .ref am12, .int M_ran, .int M_actKind, .int M_actN, .int M_actA, .int M_isParted])), (am0, .inl (cy 0, 48, .inl u_s))] → va_S A s.heap H locs → ∀ (ls : Array Slot), lv_has ls 4 [(0, .ref am), (1, .int x1), (2, .int x2), (3, .int x3)] → W p l e (headSpec wsX7_sink ({ frames := 1, cells := 0, slots := 0, locals := 25 })).room s m ([.ref am, .int x1, .int x2, .int x3] : List Value).toArray below meth c H locs 0 0 (MQ below (Qw (some (.int z.1)) D [(am, .inr (7, [.ref am0, .ref am1, .ref am2, .ref am3, .int M_isHeld, .ref am4, .int M_taped, .int M_token, .int M_from, .int M_to, .int M_value, .int M_isWrong, .ref am5, .int M_rowN, .ref am6, .ref am7, .ref am8, .ref am9, .ref am10, .ref am11, .ref am12, .int M_ran, .int M_actKind, .int M_actN, .int M_actA, .int M_isParted])), (am0, .inl (cy 0, 48, .inl z.2))] A) ([.ref am, .int x1, .int x2, .int x3] : List Value).toArray s 0 0 A) (F0 m 56 ls [.int w2, .int w1, .ref am]) := by
    intro u_s w1 w2 hf H locs hP hD hS ls hl
    have hf : ((fX7_becomes n (M_isHeld, M_taped, M_token, M_from, M_to, M_value, M_isWrong, M_rowN, M_ran, M_actKind, M_actN, M_actA, M_isParted) u_s (w1 + w2) x3).bind fun r58 => some (r58.1, r58.2)) = some z := hf
    refine lv_iadd hx hb dX7_sink_56 ?_
    refine lv_iload_n hx hb dX7_sink_57 rfl (lv_at hl 3 rfl) ?_
    obtain ⟨r58, hc58, hf⟩ := zb hf
    refine zvw (o := some (.int r58.1)) (As := [.int (w1 + w2), .int x3]) (rest := []) (stk := [.int r58.1]) ⟨hx, hb, hml, hown, hts⟩ (mX7_becomes l D cy st sk sv B am am0 am1 am2 am3 am4 am5 am6 am7 am8 am9 am10 am11 am12 _ n M_isHeld M_taped M_token M_from M_to M_value M_isWrong M_rowN M_ran M_actKind M_actN M_actA M_isParted u_s (w1 + w2) x3 r58 hc58) (cwV 2 hts gX7_sink_X7_becomes rfl rfl rfl (by decide +kernel) ⟨Nat.le_of_ble_eq_true rfl, Nat.le_of_ble_eq_true rfl⟩) hG hS hAB hA hP hD [0, 1] (by decide) rfl rfl rfl rfl 0 7 rfl rfl rfl rfl hl.1 rfl (Nat.le_of_ble_eq_true rfl) dX7_sink_58 rfl (fun H locs hP hD hS => ?_)
    have hP : va_P D vwCl [(am, .inr (7, [.ref am0, .ref am1, .ref am2, .ref am3, .int M_isHeld, .ref am4, .int M_taped, .int M_token, .int M_from, .int M_to, .int M_value, .int M_isWrong, .ref am5, .int M_rowN, .ref am6, .ref am7, .ref am8, .ref am9, .ref am10, .ref am11, .ref am12, .int M_ran, .int M_actKind, .int M_actN, .int M_actA, .int M_isParted])), (am0, .inl (cy 0, 48, .inl r58.2))] H := hP
    have hD : va_D A [(am, .inr (7, [.ref am0, .ref am1, .ref am2, .ref am3, .int M_isHeld, .ref am4, .int M_taped, .int M_token, .int M_from, .int M_to, .int M_value, .int M_isWrong, .ref am5, .int M_rowN, .ref am6, .ref am7, .ref am8, .ref am9, .ref am10, .ref am11, .ref am12, .int M_ran, .int M_actKind, .int M_actN, .int M_actA, .int M_isParted])), (am0, .inl (cy 0, 48, .inl r58.2))] := hD
    exact W.iret hx hb hr (fun t ht hW => hfin r58.1 r58.2 hf _ t ht hP (hS.F ht)) hS.2.2 dX7_sink_61
  have hB32 : ∀ (u_s : (Nat → Int32)) (w0 : Int64) (w1 : Int64) (w2 : Int64), fX7_sink_b32 n (M_isHeld, M_taped, M_token, M_from, M_to, M_value, M_isWrong, M_rowN, M_ran, M_actKind, M_actN, M_actA, M_isParted) x1 x2 x3  u_s w0 w1 w2 = some z → ∀ (H : Heap) (locs : List Loc), va_P D vwCl [(am, .inr (7, [.ref am0, .ref am1, .ref am2, .ref am3, .int M_isHeld, .ref am4, .int M_taped, .int M_token, .int M_from, .int M_to, .int M_value, .int M_isWrong, .ref am5, .int M_rowN, .ref am6, .ref am7, .ref am8, .ref am9, .ref am10, .ref am11, .ref am12, .int M_ran, .int M_actKind, .int M_actN, .int M_actA, .int M_isParted])), (am0, .inl (cy 0, 48, .inl u_s))] H → va_D A [(am, .inr (7, [.ref am0, .ref am1, .ref am2, .ref am3, .int M_isHeld, .ref am4, .int M_taped, .int M_token, .int M_from, .int M_to, .int M_value, .int M_isWrong, .ref am5, .int M_rowN, .ref am6, .ref am7, .ref am8, .ref am9, .ref am10, .ref am11, .ref am12, .int M_ran, .int M_actKind, .int M_actN, .int M_actA, .int M_isParted])), (am0, .inl (cy 0, 48, .inl u_s))] → va_S A s.heap H locs → ∀ (ls : Array Slot), lv_has ls 4 [(0, .ref am), (1, .int x1), (2, .int x2), (3, .int x3)] → W p l e (headSpec wsX7_sink ({ frames := 1, cells := 0, slots := 0, locals := 25 })).room s m ([.ref am, .int x1, .int x2, .int x3] : List Value).toArray below meth c H locs 0 0 (MQ below (Qw (some (.int z.1)) D [(am, .inr (7, [.ref am0, .ref am1, .ref am2, .ref am3, .int M_isHeld, .ref am4, .int M_taped, .int M_token, .int M_from, .int M_to, .int M_value, .int M_isWrong, .ref am5, .int M_rowN, .ref am6, .ref am7, .ref am8, .ref am9, .ref am10, .ref am11, .ref am12, .int M_ran, .int M_actKind, .int M_actN, .int M_actA, .int M_isParted])), (am0, .inl (cy 0, 48, .inl z.2))] A) ([.ref am, .int x1, .int x2, .int x3] : List Value).toArray s 0 0 A) (F0 m 32 ls [.long w2, .long w1, .long w0]) := by
    intro u_s w0 w1 w2 hf H locs hP hD hS ls hl
    have hf : ((fX7_isIn n w0 w1 w2).bind fun r32 => if r32 = 0 then (some ((-1 : Int32), u_s)) else (if x2 = 0 then (fX7_sink_b56 n (M_isHeld, M_taped, M_token, M_from, M_to, M_value, M_isWrong, M_rowN, M_ran, M_actKind, M_actN, M_actA, M_isParted) x1 x2 x3  u_s ((8 : Int32) + ((5 : Int32) * x1)) (2 : Int32)) else (fX7_sink_b56 n (M_isHeld, M_taped, M_token, M_from, M_to, M_value, M_isWrong, M_rowN, M_ran, M_actKind, M_actN, M_actA, M_isParted) x1 x2 x3  u_s ((8 : Int32) + ((5 : Int32) * x1)) (4 : Int32)))) = some z := hf
    obtain ⟨r32, hc32, hf⟩ := zb hf
    refine zsr (o := some (.int r32)) (As := [.long w0, .long w1, .long w2]) (rest := []) (stk := [.int r32]) ⟨hx, hb, hml, hown, hts⟩ (mX7_isIn l D cy st sk sv B  n w0 w1 w2 r32 hc32) (va_cwS 3 hts gX7_sink_X7_isIn rfl rfl rfl (by decide +kernel) ⟨Nat.le_of_ble_eq_true rfl, Nat.le_of_ble_eq_true rfl⟩) hG hS hAB hP [] rfl rfl hl.1 rfl (Nat.le_of_ble_eq_true rfl) dX7_sink_32 rfl ?_
    refine lv_if_ne (tgt := 40) hx hb dX7_sink_35 (by decide) (fun c_35 => ?_) (fun c_35 => ?_)
    · have hf := zn hf c_35
      refine lv_aload_n hx hb dX7_sink_40 rfl (lv_at hl 0 rfl) ?_
      refine lv_bipush (v := (8 : Int32)) hx hb dX7_sink_41 (by decide) ?_
      refine lv_iconst (v := (5 : Int32)) hx hb dX7_sink_43 (by decide) ?_
      refine lv_iload_n hx hb dX7_sink_44 rfl (lv_at hl 1 rfl) ?_
      refine lv_imul hx hb dX7_sink_45 ?_
      refine lv_iadd hx hb dX7_sink_46 ?_
      refine lv_iload_n hx hb dX7_sink_47 rfl (lv_at hl 2 rfl) ?_
      refine lv_if_ne (tgt := 55) hx hb dX7_sink_48 (by decide) (fun c_48 => ?_) (fun c_48 => ?_)
      · have hf := zn hf c_48
        refine lv_iconst (v := (4 : Int32)) hx hb dX7_sink_55 (by decide) ?_
        exact hB56 u_s ((8 : Int32) + ((5 : Int32) * x1)) (4 : Int32) hf _ _ hP hD hS _ (lv_sub hl [0, 1, 2, 3] rfl)
      · have hf := zp hf c_48
        refine lv_iconst (v := (2 : Int32)) hx hb dX7_sink_51 (by decide) ?_
        refine lv_goto (tgt := 56) hx hb dX7_sink_52 (by decide) ?_
        exact hB56 u_s ((8 : Int32) + ((5 : Int32) * x1)) (2 : Int32) hf _ _ hP hD hS _ (lv_sub hl [0, 1, 2, 3] rfl)
    · have hf := zp hf c_35
      refine lv_iconst (v := (-1 : Int32)) hx hb dX7_sink_38 (by decide) ?_
      exact W.iret hx hb hr (fun t ht hW => hfin (-1 : Int32) u_s hf _ t ht hP (hS.F ht)) hS.2.2 dX7_sink_39
  have hl := lv_entry ([.ref am, .int x1, .int x2, .int x3]) (n := 4) (Nat.le_of_ble_eq_true rfl)
  rw [lg_entry_eq]
  generalize (lg_sl ([.ref am, .int x1, .int x2, .int x3]) ++ List.replicate (4 - (lg_sl ([.ref am, .int x1, .int x2, .int x3])).length) Slot.unset).toArray = ls at hl ⊢
  have hl : lv_has ls 4 [(0, .ref am), (1, .int x1), (2, .int x2), (3, .int x3)] := hl
  have hf : ((fX7_isOne n (M_isHeld, M_taped, M_token, M_from, M_to, M_value, M_isWrong, M_rowN, M_ran, M_actKind, M_actN, M_actA, M_isParted) u_s x1).bind fun r2 => if r2 = 0 then (some ((-1 : Int32), u_s)) else ((fX7_isIn n x2.toInt64 (0 : Int64) (1 : Int64)).bind fun r12 => if r12 = 0 then (some ((-1 : Int32), u_s)) else (if x2 = 0 then (fX7_sink_b32 n (M_isHeld, M_taped, M_token, M_from, M_to, M_value, M_isWrong, M_rowN, M_ran, M_actKind, M_actN, M_actA, M_isParted) x1 x2 x3  u_s x3.toInt64 (0 : Int64) (99 : Int64)) else (fX7_sink_b32 n (M_isHeld, M_taped, M_token, M_from, M_to, M_value, M_isWrong, M_rowN, M_ran, M_actKind, M_actN, M_actA, M_isParted) x1 x2 x3  u_s x3.toInt64 (0 : Int64) (1 : Int64))))) = some z := hf
  refine lv_aload_n hx hb dX7_sink_0 rfl (lv_at hl 0 rfl) ?_
  refine lv_iload_n hx hb dX7_sink_1 rfl (lv_at hl 1 rfl) ?_
  obtain ⟨r2, hc2, hf⟩ := zb hf
  refine zvr (o := some (.int r2)) (As := [.int x1]) (rest := []) (stk := [.int r2]) ⟨hx, hb, hml, hown, hts⟩ (mX7_isOne l D cy st sk sv B am am0 am1 am2 am3 am4 am5 am6 am7 am8 am9 am10 am11 am12 n M_isHeld M_taped M_token M_from M_to M_value M_isWrong M_rowN M_ran M_actKind M_actN M_actA M_isParted u_s x1 r2 hc2) (cwV 1 hts gX7_sink_X7_isOne rfl rfl rfl (by decide +kernel) ⟨Nat.le_of_ble_eq_true rfl, Nat.le_of_ble_eq_true rfl⟩) hG hS hAB hP [0, 1] rfl 0 7 rfl rfl rfl rfl hl.1 rfl (Nat.le_of_ble_eq_true rfl) dX7_sink_2 rfl ?_
  refine lv_if_eq (tgt := 38) hx hb dX7_sink_5 (by decide) (fun c_5 => ?_) (fun c_5 => ?_)
  · have hf := zp hf c_5
    refine lv_iconst (v := (-1 : Int32)) hx hb dX7_sink_38 (by decide) ?_
    exact W.iret hx hb hr (fun t ht hW => hfin (-1 : Int32) u_s hf _ t ht hP (hS.F ht)) hS.2.2 dX7_sink_39
  · have hf := zn hf c_5
    refine lv_iload_n hx hb dX7_sink_8 rfl (lv_at hl 2 rfl) ?_
    refine lv_i2l hx hb dX7_sink_9 rfl ?_
    refine lv_lconst (v := (0 : Int64)) hx hb dX7_sink_10 (by decide) ?_
    refine lv_lconst (v := (1 : Int64)) hx hb dX7_sink_11 (by decide) ?_
    obtain ⟨r12, hc12, hf⟩ := zb hf
    refine zsr (o := some (.int r12)) (As := [.long x2.toInt64, .long (0 : Int64), .long (1 : Int64)]) (rest := []) (stk := [.int r12]) ⟨hx, hb, hml, hown, hts⟩ (mX7_isIn l D cy st sk sv B  n x2.toInt64 (0 : Int64) (1 : Int64) r12 hc12) (va_cwS 3 hts gX7_sink_X7_isIn rfl rfl rfl (by decide +kernel) ⟨Nat.le_of_ble_eq_true rfl, Nat.le_of_ble_eq_true rfl⟩) hG hS hAB hP [] rfl rfl hl.1 rfl (Nat.le_of_ble_eq_true rfl) dX7_sink_12 rfl ?_
    refine lv_if_eq (tgt := 38) hx hb dX7_sink_15 (by decide) (fun c_15 => ?_) (fun c_15 => ?_)
    · have hf := zp hf c_15
      refine lv_iconst (v := (-1 : Int32)) hx hb dX7_sink_38 (by decide) ?_
      exact W.iret hx hb hr (fun t ht hW => hfin (-1 : Int32) u_s hf _ t ht hP (hS.F ht)) hS.2.2 dX7_sink_39
    · have hf := zn hf c_15
      refine lv_iload_n hx hb dX7_sink_18 rfl (lv_at hl 3 rfl) ?_
      refine lv_i2l hx hb dX7_sink_19 rfl ?_
      refine lv_lconst (v := (0 : Int64)) hx hb dX7_sink_20 (by decide) ?_
      refine lv_iload_n hx hb dX7_sink_21 rfl (lv_at hl 2 rfl) ?_
      refine lv_if_ne (tgt := 31) hx hb dX7_sink_22 (by decide) (fun c_22 => ?_) (fun c_22 => ?_)
      · have hf := zn hf c_22
        refine lv_lconst (v := (1 : Int64)) hx hb dX7_sink_31 (by decide) ?_
        exact hB32 u_s x3.toInt64 (0 : Int64) (1 : Int64) hf _ _ hP hD hS _ (lv_sub hl [0, 1, 2, 3] rfl)
      · have hf := zp hf c_22
        refine lv_ldc2 (v := (99 : Int64)) hx hb hown (hts (.constantLong RX7 178 (99)) (by decide +kernel)) dX7_sink_25 ?_
        refine lv_goto (tgt := 32) hx hb dX7_sink_28 (by decide) ?_
        exact hB32 u_s x3.toInt64 (0 : Int64) (99 : Int64) hf _ _ hP hD hS _ (lv_sub hl [0, 1, 2, 3] rfl)
set_option maxRecDepth 100000 in
set_option maxHeartbeats 100000000 in
theorem mX7_teller (l : Launch) (D : va_G) (cy : Nat → ClassId) (st sk sv : Nat → Nat) (B : Nat) (am : Nat) (am0 : Nat) (am1 : Nat) (am2 : Nat) (am3 : Nat) (am4 : Nat) (am5 : Nat) (am6 : Nat) (am7 : Nat) (am8 : Nat) (am9 : Nat) (am10 : Nat) (am11 : Nat) (am12 : Nat) (n : Nat) (M_isHeld : Int32) (M_taped : Int32) (M_token : Int32) (M_from : Int32) (M_to : Int32) (M_value : Int32) (M_isWrong : Int32) (M_rowN : Int32) (M_ran : Int32) (M_actKind : Int32) (M_actN : Int32) (M_actA : Int32) (M_isParted : Int32) (u_s : (Nat → Int32))  (z : Int32) (hf : fX7_teller n (M_isHeld, M_taped, M_token, M_from, M_to, M_value, M_isWrong, M_rowN, M_ran, M_actKind, M_actN, M_actA, M_isParted) u_s = some z) : Met l yX7_teller wsX7_teller ({ frames := 2, cells := 0, slots := 0, locals := 43 }) (PcR [.ref am] D cy st sk sv B [(am, .inr (7, [.ref am0, .ref am1, .ref am2, .ref am3, .int M_isHeld, .ref am4, .int M_taped, .int M_token, .int M_from, .int M_to, .int M_value, .int M_isWrong, .ref am5, .int M_rowN, .ref am6, .ref am7, .ref am8, .ref am9, .ref am10, .ref am11, .ref am12, .int M_ran, .int M_actKind, .int M_actN, .int M_actA, .int M_isParted])), (am0, .inl (cy 0, 48, .inl u_s))]) (Qr (some (.int z))) 0 0 (fun _ => False) := by
  refine Met.ofW (cc := cX7_teller) (maxL := 3) (ret := (some .int)) (by decide) rfl ?_
  intro p e s m args below meth c s₁ Bd hml hv
  obtain ⟨rfl, hP, hG⟩ := hv
  have hx := Bd.exec
  have hb := Bd.bytes
  have hr := Bd.returns
  have hts := atoms_spec (ws := wsX7_teller) Bd.pre
  have hown : s.vm.findClass RX7 = some m.cls := findClass_of_methodNamed Bd.named
  have hlocks := Bd.notSynchronized
  have hK := hG.1
  have hS : va_S (fun q => B ≤ q) s.heap s.heap [] := va_S.rf
  have hAB : ∀ q, (fun q => B ≤ q) q → B ≤ q := fun _ h => h
  have hin7 : ∀ w ∈ u_ws RX7 TX7 26, w ∈ wsX7_teller := by decide +kernel
  have fl7 := hts (.fieldLink RX7 7 "KinCutleryModel" "s" "[I") (by decide +kernel)
  have hL7 : ∀ (n0 : Nat) (y1 : Int32) (y2 : Int32), lpF (fX7_teller_F7 n (M_isHeld, M_taped, M_token, M_from, M_to, M_value, M_isWrong, M_rowN, M_ran, M_actKind, M_actN, M_actA, M_isParted) u_s ) n0 (y1, y2) = some z → ∀ (ls : Array Slot), lv_has ls 3 [(0, .ref am), (1, .int y1), (2, .int y2)] → W p l e (headSpec wsX7_teller ({ frames := 2, cells := 0, slots := 0, locals := 43 })).room s m ([.ref am] : List Value).toArray below meth c s.heap [] 0 0 (MQ below (Qr (some (.int z))) ([.ref am] : List Value).toArray s 0 0 (fun _ => False)) (F0 m 7 ls []) := by
    have key : ∀ (n0 : Nat) (v7 : Int32 × Int32), lpF (fX7_teller_F7 n (M_isHeld, M_taped, M_token, M_from, M_to, M_value, M_isWrong, M_rowN, M_ran, M_actKind, M_actN, M_actA, M_isParted) u_s ) n0 v7 = some z → ∀ (ls : Array Slot), lv_has ls 3 [(0, .ref am), (1, .int v7.1), (2, .int v7.2)] → W p l e (headSpec wsX7_teller ({ frames := 2, cells := 0, slots := 0, locals := 43 })).room s m ([.ref am] : List Value).toArray below meth c s.heap [] 0 0 (MQ below (Qr (some (.int z))) ([.ref am] : List Value).toArray s 0 0 (fun _ => False)) (F0 m 7 ls []) := by
      refine lpW ?_
      intro k7 hk70
      have hk7 : ∀ (y1 : Int32) (y2 : Int32), k7 (y1, y2) = some z → ∀ (ls : Array Slot), lv_has ls 3 [(0, .ref am), (1, .int y1), (2, .int y2)] → W p l e (headSpec wsX7_teller ({ frames := 2, cells := 0, slots := 0, locals := 43 })).room s m ([.ref am] : List Value).toArray below meth c s.heap [] 0 0 (MQ below (Qr (some (.int z))) ([.ref am] : List Value).toArray s 0 0 (fun _ => False)) (F0 m 7 ls []) := fun y1 y2 h9 => hk70 (y1, y2) h9
      have hB52 : ∀ (y1 : Int32) (y2 : Int32), fX7_teller_b52 n (M_isHeld, M_taped, M_token, M_from, M_to, M_value, M_isWrong, M_rowN, M_ran, M_actKind, M_actN, M_actA, M_isParted) u_s k7 y1 y2 = some z → ∀ (ls : Array Slot), lv_has ls 3 [(0, .ref am), (1, .int y1), (2, .int y2)] → W p l e (headSpec wsX7_teller ({ frames := 2, cells := 0, slots := 0, locals := 43 })).room s m ([.ref am] : List Value).toArray below meth c s.heap [] 0 0 (MQ below (Qr (some (.int z))) ([.ref am] : List Value).toArray s 0 0 (fun _ => False)) (F0 m 52 ls []) := by
        intro y1 y2 hf ls hl
        have hf : (k7 (y1, (y2 + (1 : Int32)))) = some z := hf
        refine lv_iinc (v := (y2 + (1 : Int32))) (lv' := [(2, .int (y2 + (1 : Int32))), (0, .ref am), (1, .int y1)]) hx hb dX7_teller_52 hl (k := 2) rfl rfl (by decide) rfl (fun ls hl => ?_)
        refine lv_goto (tgt := 7) hx hb dX7_teller_55 (by decide) ?_
        exact hk7 y1 (y2 + (1 : Int32)) hf _ (lv_sub hl [1, 2, 0] rfl)
      have hstep : ∀ (y1 : Int32) (y2 : Int32), fX7_teller_F7 n (M_isHeld, M_taped, M_token, M_from, M_to, M_value, M_isWrong, M_rowN, M_ran, M_actKind, M_actN, M_actA, M_isParted) u_s  k7 (y1, y2) = some z → ∀ (ls : Array Slot), lv_has ls 3 [(0, .ref am), (1, .int y1), (2, .int y2)] → W p l e (headSpec wsX7_teller ({ frames := 2, cells := 0, slots := 0, locals := 43 })).room s m ([.ref am] : List Value).toArray below meth c s.heap [] 0 0 (MQ below (Qr (some (.int z))) ([.ref am] : List Value).toArray s 0 0 (fun _ => False)) (F0 m 7 ls []) := by
        intro y1 y2 hf ls hl
        have hf : (if (u_s (0 : Int32).toNatClampNeg) ≤ y2 then (some (-1 : Int32)) else ((fX7_its n (M_isHeld, M_taped, M_token, M_from, M_to, M_value, M_isWrong, M_rowN, M_ran, M_actKind, M_actN, M_actA, M_isParted) u_s y2 (4 : Int32)).bind fun r20 => if r20 = 0 then ((fX7_its n (M_isHeld, M_taped, M_token, M_from, M_to, M_value, M_isWrong, M_rowN, M_ran, M_actKind, M_actN, M_actA, M_isParted) u_s y2 (1 : Int32)).bind fun r29 => if r29 = y1 then ((fX7_its n (M_isHeld, M_taped, M_token, M_from, M_to, M_value, M_isWrong, M_rowN, M_ran, M_actKind, M_actN, M_actA, M_isParted) u_s y2 (2 : Int32)).bind fun r39 => (fX7_needsOf n (M_isHeld, M_taped, M_token, M_from, M_to, M_value, M_isWrong, M_rowN, M_ran, M_actKind, M_actN, M_actA, M_isParted) u_s y2).bind fun r44 => if r39 < r44 then (fX7_teller_b52 n (M_isHeld, M_taped, M_token, M_from, M_to, M_value, M_isWrong, M_rowN, M_ran, M_actKind, M_actN, M_actA, M_isParted) u_s k7 y1 y2) else (some y2)) else (fX7_teller_b52 n (M_isHeld, M_taped, M_token, M_from, M_to, M_value, M_isWrong, M_rowN, M_ran, M_actKind, M_actN, M_actA, M_isParted) u_s k7 y1 y2)) else (fX7_teller_b52 n (M_isHeld, M_taped, M_token, M_from, M_to, M_value, M_isWrong, M_rowN, M_ran, M_actKind, M_actN, M_actA, M_isParted) u_s k7 y1 y2))) = some z := hf
        refine lv_iload_n hx hb dX7_teller_7 rfl (lv_at hl 2 rfl) ?_
        refine lv_aload_n hx hb dX7_teller_8 rfl (lv_at hl 0 rfl) ?_
        refine va_get (D := D) (ci := 7) (v := .ref am0) (C := RX7) (T := TX7) (N := 26) hx hb hts hin7 hown hK hP 0 rfl rfl 0 (by decide) fl7 (fun _ h9 => h9) rfl dX7_teller_9 ?_
        refine lv_iconst (v := (0 : Int32)) hx hb dX7_teller_12 (by decide) ?_
        refine va_iald hx hb hK hP 1 0 rfl rfl vi_0_48 dX7_teller_13 ?_
        refine lv_icmp_ge (tgt := 58) hx hb dX7_teller_14 (by decide) (fun c_14 => ?_) (fun c_14 => ?_)
        · have hf := zp hf c_14
          refine lv_iconst (v := (-1 : Int32)) hx hb dX7_teller_58 (by decide) ?_
          cases hf
          exact W.iret hx hb hr (fun t ht hW => ⟨rfl, ht⟩) (fun q h => absurd h List.not_mem_nil) dX7_teller_59
        · have hf := zn hf c_14
          refine lv_aload_n hx hb dX7_teller_17 rfl (lv_at hl 0 rfl) ?_
          refine lv_iload_n hx hb dX7_teller_18 rfl (lv_at hl 2 rfl) ?_
          refine lv_iconst (v := (4 : Int32)) hx hb dX7_teller_19 (by decide) ?_
          obtain ⟨r20, hc20, hf⟩ := zb hf
          refine zvr (o := some (.int r20)) (As := [.int y2, .int (4 : Int32)]) (rest := []) (stk := [.int r20]) ⟨hx, hb, hml, hown, hts⟩ (mX7_its l D cy st sk sv B am am0 am1 am2 am3 am4 am5 am6 am7 am8 am9 am10 am11 am12 n M_isHeld M_taped M_token M_from M_to M_value M_isWrong M_rowN M_ran M_actKind M_actN M_actA M_isParted u_s y2 (4 : Int32) r20 hc20) (cwV 2 hts gX7_teller_X7_its rfl rfl rfl (by decide +kernel) ⟨Nat.le_of_ble_eq_true rfl, Nat.le_of_ble_eq_true rfl⟩) hG hS hAB hP [0, 1] rfl 0 7 rfl rfl rfl rfl hl.1 rfl (Nat.le_of_ble_eq_true rfl) dX7_teller_20 rfl ?_
          refine lv_if_ne (tgt := 52) hx hb dX7_teller_23 (by decide) (fun c_23 => ?_) (fun c_23 => ?_)
          · have hf := zn hf c_23
            exact hB52 y1 y2 hf _ (lv_sub hl [0, 1, 2] rfl)
          · have hf := zp hf c_23
            refine lv_aload_n hx hb dX7_teller_26 rfl (lv_at hl 0 rfl) ?_
            refine lv_iload_n hx hb dX7_teller_27 rfl (lv_at hl 2 rfl) ?_
            refine lv_iconst (v := (1 : Int32)) hx hb dX7_teller_28 (by decide) ?_
            obtain ⟨r29, hc29, hf⟩ := zb hf
            refine zvr (o := some (.int r29)) (As := [.int y2, .int (1 : Int32)]) (rest := []) (stk := [.int r29]) ⟨hx, hb, hml, hown, hts⟩ (mX7_its l D cy st sk sv B am am0 am1 am2 am3 am4 am5 am6 am7 am8 am9 am10 am11 am12 n M_isHeld M_taped M_token M_from M_to M_value M_isWrong M_rowN M_ran M_actKind M_actN M_actA M_isParted u_s y2 (1 : Int32) r29 hc29) (cwV 2 hts gX7_teller_X7_its rfl rfl rfl (by decide +kernel) ⟨Nat.le_of_ble_eq_true rfl, Nat.le_of_ble_eq_true rfl⟩) hG hS hAB hP [0, 1] rfl 0 7 rfl rfl rfl rfl hl.1 rfl (Nat.le_of_ble_eq_true rfl) dX7_teller_29 rfl ?_
            refine lv_iload_n hx hb dX7_teller_32 rfl (lv_at hl 1 rfl) ?_
            refine lv_icmp_ne (tgt := 52) hx hb dX7_teller_33 (by decide) (fun c_33 => ?_) (fun c_33 => ?_)
            · have hf := zn hf c_33
              exact hB52 y1 y2 hf _ (lv_sub hl [0, 1, 2] rfl)
            · have hf := zp hf c_33
              refine lv_aload_n hx hb dX7_teller_36 rfl (lv_at hl 0 rfl) ?_
              refine lv_iload_n hx hb dX7_teller_37 rfl (lv_at hl 2 rfl) ?_
              refine lv_iconst (v := (2 : Int32)) hx hb dX7_teller_38 (by decide) ?_
              obtain ⟨r39, hc39, hf⟩ := zb hf
              refine zvr (o := some (.int r39)) (As := [.int y2, .int (2 : Int32)]) (rest := []) (stk := [.int r39]) ⟨hx, hb, hml, hown, hts⟩ (mX7_its l D cy st sk sv B am am0 am1 am2 am3 am4 am5 am6 am7 am8 am9 am10 am11 am12 n M_isHeld M_taped M_token M_from M_to M_value M_isWrong M_rowN M_ran M_actKind M_actN M_actA M_isParted u_s y2 (2 : Int32) r39 hc39) (cwV 2 hts gX7_teller_X7_its rfl rfl rfl (by decide +kernel) ⟨Nat.le_of_ble_eq_true rfl, Nat.le_of_ble_eq_true rfl⟩) hG hS hAB hP [0, 1] rfl 0 7 rfl rfl rfl rfl hl.1 rfl (Nat.le_of_ble_eq_true rfl) dX7_teller_39 rfl ?_
              refine lv_aload_n hx hb dX7_teller_42 rfl (lv_at hl 0 rfl) ?_
              refine lv_iload_n hx hb dX7_teller_43 rfl (lv_at hl 2 rfl) ?_
              obtain ⟨r44, hc44, hf⟩ := zb hf
              refine zvr (o := some (.int r44)) (As := [.int y2]) (rest := [.int r39]) (stk := [.int r44, .int r39]) ⟨hx, hb, hml, hown, hts⟩ (mX7_needsOf l D cy st sk sv B am am0 am1 am2 am3 am4 am5 am6 am7 am8 am9 am10 am11 am12 n M_isHeld M_taped M_token M_from M_to M_value M_isWrong M_rowN M_ran M_actKind M_actN M_actA M_isParted u_s y2 r44 hc44) (cwV 1 hts gX7_teller_X7_needsOf rfl rfl rfl (by decide +kernel) ⟨Nat.le_of_ble_eq_true rfl, Nat.le_of_ble_eq_true rfl⟩) hG hS hAB hP [0, 1] rfl 0 7 rfl rfl rfl rfl hl.1 rfl (Nat.le_of_ble_eq_true rfl) dX7_teller_44 rfl ?_
              refine lv_icmp_lt (tgt := 52) hx hb dX7_teller_47 (by decide) (fun c_47 => ?_) (fun c_47 => ?_)
              · have hf := zp hf c_47
                exact hB52 y1 y2 hf _ (lv_sub hl [0, 1, 2] rfl)
              · have hf := zn hf c_47
                refine lv_iload_n hx hb dX7_teller_50 rfl (lv_at hl 2 rfl) ?_
                cases hf
                exact W.iret hx hb hr (fun t ht hW => ⟨rfl, ht⟩) (fun q h => absurd h List.not_mem_nil) dX7_teller_51
      exact fun v7 h9 => hstep v7.1 v7.2 h9
    exact fun n0 y1 y2 h9 => key n0 (y1, y2) h9
  have hl := lv_entry ([.ref am]) (n := 3) (Nat.le_of_ble_eq_true rfl)
  rw [lg_entry_eq]
  generalize (lg_sl ([.ref am]) ++ List.replicate (3 - (lg_sl ([.ref am])).length) Slot.unset).toArray = ls at hl ⊢
  have hl : lv_has ls 3 [(0, .ref am)] := hl
  have hf : ((fX7_next n (M_isHeld, M_taped, M_token, M_from, M_to, M_value, M_isWrong, M_rowN, M_ran, M_actKind, M_actN, M_actA, M_isParted) u_s).bind fun r1 => lpF (fX7_teller_F7 n (M_isHeld, M_taped, M_token, M_from, M_to, M_value, M_isWrong, M_rowN, M_ran, M_actKind, M_actN, M_actA, M_isParted) u_s ) n (r1, (0 : Int32))) = some z := hf
  refine lv_aload_n hx hb dX7_teller_0 rfl (lv_at hl 0 rfl) ?_
  obtain ⟨r1, hc1, hf⟩ := zb hf
  refine zvr (o := some (.int r1)) (As := []) (rest := []) (stk := [.int r1]) ⟨hx, hb, hml, hown, hts⟩ (mX7_next l D cy st sk sv B am am0 am1 am2 am3 am4 am5 am6 am7 am8 am9 am10 am11 am12 n M_isHeld M_taped M_token M_from M_to M_value M_isWrong M_rowN M_ran M_actKind M_actN M_actA M_isParted u_s r1 hc1) (cwV 0 hts gX7_teller_X7_next rfl rfl rfl (by decide +kernel) ⟨Nat.le_of_ble_eq_true rfl, Nat.le_of_ble_eq_true rfl⟩) hG hS hAB hP [0, 1] rfl 0 7 rfl rfl rfl rfl hl.1 rfl (Nat.le_of_ble_eq_true rfl) dX7_teller_1 rfl ?_
  refine lv_istore_n (lv' := [(1, .int r1), (0, .ref am)]) hx hb dX7_teller_4 rfl hl (by decide) rfl (fun ls hl => ?_)
  refine lv_iconst (v := (0 : Int32)) hx hb dX7_teller_5 (by decide) ?_
  refine lv_istore_n (lv' := [(2, .int (0 : Int32)), (1, .int r1), (0, .ref am)]) hx hb dX7_teller_6 rfl hl (by decide) rfl (fun ls hl => ?_)
  exact hL7 n r1 (0 : Int32) hf _ (lv_sub hl [2, 1, 0] rfl)
set_option maxRecDepth 100000 in
set_option maxHeartbeats 100000000 in
theorem mX7_tellsNext (l : Launch) (D : va_G) (cy : Nat → ClassId) (st sk sv : Nat → Nat) (B : Nat) (am : Nat) (am0 : Nat) (am1 : Nat) (am2 : Nat) (am3 : Nat) (am4 : Nat) (am5 : Nat) (am6 : Nat) (am7 : Nat) (am8 : Nat) (am9 : Nat) (am10 : Nat) (am11 : Nat) (am12 : Nat) (sz : Nat) (n : Nat) (M_isHeld : Int32) (M_taped : Int32) (M_token : Int32) (M_from : Int32) (M_to : Int32) (M_value : Int32) (M_isWrong : Int32) (M_rowN : Int32) (M_ran : Int32) (M_actKind : Int32) (M_actN : Int32) (M_actA : Int32) (M_isParted : Int32) (u_s : (Nat → Int32)) (x1 : Int32) (z : (Nat → Int32)) (hf : fX7_tellsNext n (M_isHeld, M_taped, M_token, M_from, M_to, M_value, M_isWrong, M_rowN, M_ran, M_actKind, M_actN, M_actA, M_isParted) u_s x1 = some z) : Met l yX7_tellsNext wsX7_tellsNext ({ frames := 2, cells := 0, slots := 0, locals := 43 }) (PcW [.ref am, .int x1] D cy st sk sv B sz [(am, .inr (7, [.ref am0, .ref am1, .ref am2, .ref am3, .int M_isHeld, .ref am4, .int M_taped, .int M_token, .int M_from, .int M_to, .int M_value, .int M_isWrong, .ref am5, .int M_rowN, .ref am6, .ref am7, .ref am8, .ref am9, .ref am10, .ref am11, .ref am12, .int M_ran, .int M_actKind, .int M_actN, .int M_actA, .int M_isParted])), (am0, .inl (cy 0, 48, .inl u_s))]) (Qw (none) D [(am, .inr (7, [.ref am0, .ref am1, .ref am2, .ref am3, .int M_isHeld, .ref am4, .int M_taped, .int M_token, .int M_from, .int M_to, .int M_value, .int M_isWrong, .ref am5, .int M_rowN, .ref am6, .ref am7, .ref am8, .ref am9, .ref am10, .ref am11, .ref am12, .int M_ran, .int M_actKind, .int M_actN, .int M_actA, .int M_isParted])), (am0, .inl (cy 0, 48, .inl z))] (va_A [(am, .inr (7, [.ref am0, .ref am1, .ref am2, .ref am3, .int M_isHeld, .ref am4, .int M_taped, .int M_token, .int M_from, .int M_to, .int M_value, .int M_isWrong, .ref am5, .int M_rowN, .ref am6, .ref am7, .ref am8, .ref am9, .ref am10, .ref am11, .ref am12, .int M_ran, .int M_actKind, .int M_actN, .int M_actA, .int M_isParted])), (am0, .inl (cy 0, 48, .inl u_s))] sz)) 0 0 (va_A [(am, .inr (7, [.ref am0, .ref am1, .ref am2, .ref am3, .int M_isHeld, .ref am4, .int M_taped, .int M_token, .int M_from, .int M_to, .int M_value, .int M_isWrong, .ref am5, .int M_rowN, .ref am6, .ref am7, .ref am8, .ref am9, .ref am10, .ref am11, .ref am12, .int M_ran, .int M_actKind, .int M_actN, .int M_actA, .int M_isParted])), (am0, .inl (cy 0, 48, .inl u_s))] sz) := by
  refine Met.ofW (cc := cX7_tellsNext) (maxL := 4) (ret := none) (by decide) rfl ?_
  intro p e s m args below meth c s₁ Bd hml hv
  obtain ⟨rfl, hsz, hP, hD0, hBs, hG⟩ := hv
  have hx := Bd.exec
  have hb := Bd.bytes
  have hr := Bd.returns
  have hts := atoms_spec (ws := wsX7_tellsNext) Bd.pre
  have hown : s.vm.findClass RX7 = some m.cls := findClass_of_methodNamed Bd.named
  have hlocks := Bd.notSynchronized
  have hK := hG.1
  subst hsz
  have hD := hD0.self (sz := s.heap.size)
  have hAB0 := zA hD0 hBs
  generalize hAe : va_A [(am, .inr (7, [.ref am0, .ref am1, .ref am2, .ref am3, .int M_isHeld, .ref am4, .int M_taped, .int M_token, .int M_from, .int M_to, .int M_value, .int M_isWrong, .ref am5, .int M_rowN, .ref am6, .ref am7, .ref am8, .ref am9, .ref am10, .ref am11, .ref am12, .int M_ran, .int M_actKind, .int M_actN, .int M_actA, .int M_isParted])), (am0, .inl (cy 0, 48, .inl u_s))] s.heap.size = A at hD hAB0 ⊢
  have hA : ∀ q : Nat, s.heap.size ≤ q → A q := fun q h => by rw [← hAe]; exact Or.inr h
  have hAB : ∀ q, A q → B ≤ q := hAB0
  have hS : va_S A s.heap s.heap [] := va_S.rf
  have hfin : ∀ (u_s : (Nat → Int32)), some u_s = some z → ∀ (H : Heap) (t : State), t.heap = H → va_P D vwCl [(am, .inr (7, [.ref am0, .ref am1, .ref am2, .ref am3, .int M_isHeld, .ref am4, .int M_taped, .int M_token, .int M_from, .int M_to, .int M_value, .int M_isWrong, .ref am5, .int M_rowN, .ref am6, .ref am7, .ref am8, .ref am9, .ref am10, .ref am11, .ref am12, .int M_ran, .int M_actKind, .int M_actN, .int M_actA, .int M_isParted])), (am0, .inl (cy 0, 48, .inl u_s))] H → va_F A s t → Qw (none) D [(am, .inr (7, [.ref am0, .ref am1, .ref am2, .ref am3, .int M_isHeld, .ref am4, .int M_taped, .int M_token, .int M_from, .int M_to, .int M_value, .int M_isWrong, .ref am5, .int M_rowN, .ref am6, .ref am7, .ref am8, .ref am9, .ref am10, .ref am11, .ref am12, .int M_ran, .int M_actKind, .int M_actN, .int M_actA, .int M_isParted])), (am0, .inl (cy 0, 48, .inl z))] A ([.ref am, .int x1] : List Value).toArray s (.returned (none)) t := by
    intro u_s h9 H t ht hP hF
    cases h9
    exact ⟨rfl, by rw [ht]; exact hP, hF⟩
  have hin7 : ∀ w ∈ u_ws RX7 TX7 26, w ∈ wsX7_tellsNext := by decide +kernel
  have fl7 := hts (.fieldLink RX7 7 "KinCutleryModel" "s" "[I") (by decide +kernel)
  have hl := lv_entry ([.ref am, .int x1]) (n := 4) (Nat.le_of_ble_eq_true rfl)
  rw [lg_entry_eq]
  generalize (lg_sl ([.ref am, .int x1]) ++ List.replicate (4 - (lg_sl ([.ref am, .int x1])).length) Slot.unset).toArray = ls at hl ⊢
  have hl : lv_has ls 4 [(0, .ref am), (1, .int x1)] := hl
  have hf : ((fX7_costs n (M_isHeld, M_taped, M_token, M_from, M_to, M_value, M_isWrong, M_rowN, M_ran, M_actKind, M_actN, M_actA, M_isParted) u_s x1).bind fun r9 => (fX7_least n (99999 : Int32) ((u_s (3 : Int32).toNatClampNeg) + (1 : Int32))).bind fun r28 => if (((8 : Int32) + ((5 : Int32) * x1)) + (3 : Int32)) < 0 ∨ 48 ≤ (((8 : Int32) + ((5 : Int32) * x1)) + (3 : Int32)).toNatClampNeg then none else (fX7_least n (9999 : Int32) (((upd u_s (3 : Int32).toNatClampNeg r28) (((8 : Int32) + ((5 : Int32) * x1)) + (3 : Int32)).toNatClampNeg) + (1 : Int32))).bind fun r52 => if (((8 : Int32) + ((5 : Int32) * x1)) + (3 : Int32)) < 0 ∨ 48 ≤ (((8 : Int32) + ((5 : Int32) * x1)) + (3 : Int32)).toNatClampNeg then none else if (((8 : Int32) + ((5 : Int32) * x1)) + (2 : Int32)) < 0 ∨ 48 ≤ (((8 : Int32) + ((5 : Int32) * x1)) + (2 : Int32)).toNatClampNeg then none else (fX7_within n (((upd (upd u_s (3 : Int32).toNatClampNeg r28) (((8 : Int32) + ((5 : Int32) * x1)) + (3 : Int32)).toNatClampNeg r52) (((8 : Int32) + ((5 : Int32) * x1)) + (2 : Int32)).toNatClampNeg) - r9)).bind fun r73 => if (((8 : Int32) + ((5 : Int32) * x1)) + (2 : Int32)) < 0 ∨ 48 ≤ (((8 : Int32) + ((5 : Int32) * x1)) + (2 : Int32)).toNatClampNeg then none else some (upd (upd (upd u_s (3 : Int32).toNatClampNeg r28) (((8 : Int32) + ((5 : Int32) * x1)) + (3 : Int32)).toNatClampNeg r52) (((8 : Int32) + ((5 : Int32) * x1)) + (2 : Int32)).toNatClampNeg r73)) = some z := hf
  refine lv_bipush (v := (8 : Int32)) hx hb dX7_tellsNext_0 (by decide) ?_
  refine lv_iconst (v := (5 : Int32)) hx hb dX7_tellsNext_2 (by decide) ?_
  refine lv_iload_n hx hb dX7_tellsNext_3 rfl (lv_at hl 1 rfl) ?_
  refine lv_imul hx hb dX7_tellsNext_4 ?_
  refine lv_iadd hx hb dX7_tellsNext_5 ?_
  refine lv_istore_n (lv' := [(2, .int ((8 : Int32) + ((5 : Int32) * x1))), (0, .ref am), (1, .int x1)]) hx hb dX7_tellsNext_6 rfl hl (by decide) rfl (fun ls hl => ?_)
  refine lv_aload_n hx hb dX7_tellsNext_7 rfl (lv_at hl 1 rfl) ?_
  refine lv_iload_n hx hb dX7_tellsNext_8 rfl (lv_at hl 2 rfl) ?_
  obtain ⟨r9, hc9, hf⟩ := zb hf
  refine zvr (o := some (.int r9)) (As := [.int x1]) (rest := []) (stk := [.int r9]) ⟨hx, hb, hml, hown, hts⟩ (mX7_costs l D cy st sk sv B am am0 am1 am2 am3 am4 am5 am6 am7 am8 am9 am10 am11 am12 n M_isHeld M_taped M_token M_from M_to M_value M_isWrong M_rowN M_ran M_actKind M_actN M_actA M_isParted u_s x1 r9 hc9) (cwV 1 hts gX7_tellsNext_X7_costs rfl rfl rfl (by decide +kernel) ⟨Nat.le_of_ble_eq_true rfl, Nat.le_of_ble_eq_true rfl⟩) hG hS hAB hP [0, 1] rfl 0 7 rfl rfl rfl rfl hl.1 rfl (Nat.le_of_ble_eq_true rfl) dX7_tellsNext_9 rfl ?_
  refine lv_istore_n (lv' := [(3, .int r9), (2, .int ((8 : Int32) + ((5 : Int32) * x1))), (0, .ref am), (1, .int x1)]) hx hb dX7_tellsNext_12 rfl hl (by decide) rfl (fun ls hl => ?_)
  refine lv_aload_n hx hb dX7_tellsNext_13 rfl (lv_at hl 2 rfl) ?_
  refine va_get (D := D) (ci := 7) (v := .ref am0) (C := RX7) (T := TX7) (N := 26) hx hb hts hin7 hown hK hP 0 rfl rfl 0 (by decide) fl7 (fun _ h9 => h9) rfl dX7_tellsNext_14 ?_
  refine lv_iconst (v := (3 : Int32)) hx hb dX7_tellsNext_17 (by decide) ?_
  refine lv_ldc (v := (99999 : Int32)) hx hb hown (hts (.constant RX7 180 (99999)) (by decide +kernel)) dX7_tellsNext_18 ?_
  refine lv_aload_n hx hb dX7_tellsNext_20 rfl (lv_at hl 2 rfl) ?_
  refine va_get (D := D) (ci := 7) (v := .ref am0) (C := RX7) (T := TX7) (N := 26) hx hb hts hin7 hown hK hP 0 rfl rfl 0 (by decide) fl7 (fun _ h9 => h9) rfl dX7_tellsNext_21 ?_
  refine lv_iconst (v := (3 : Int32)) hx hb dX7_tellsNext_24 (by decide) ?_
  refine va_iald hx hb hK hP 1 0 rfl rfl vi_3_48 dX7_tellsNext_25 ?_
  refine lv_iconst (v := (1 : Int32)) hx hb dX7_tellsNext_26 (by decide) ?_
  refine lv_iadd hx hb dX7_tellsNext_27 ?_
  obtain ⟨r28, hc28, hf⟩ := zb hf
  refine zsr (o := some (.int r28)) (As := [.int (99999 : Int32), .int ((u_s (3 : Int32).toNatClampNeg) + (1 : Int32))]) (rest := [.int (3 : Int32), .ref am0]) (stk := [.int r28, .int (3 : Int32), .ref am0]) ⟨hx, hb, hml, hown, hts⟩ (mX7_least l D cy st sk sv B  n (99999 : Int32) ((u_s (3 : Int32).toNatClampNeg) + (1 : Int32)) r28 hc28) (va_cwS 2 hts gX7_tellsNext_X7_least rfl rfl rfl (by decide +kernel) ⟨Nat.le_of_ble_eq_true rfl, Nat.le_of_ble_eq_true rfl⟩) hG hS hAB hP [] rfl rfl hl.1 rfl (Nat.le_of_ble_eq_true rfl) dX7_tellsNext_28 rfl ?_
  refine va_iast hx hb hK hP hD hS 1 0 rfl rfl vi_3_48 dX7_tellsNext_31 (fun H locs hP hD hS => ?_)
  have hP : va_P D vwCl [(am, .inr (7, [.ref am0, .ref am1, .ref am2, .ref am3, .int M_isHeld, .ref am4, .int M_taped, .int M_token, .int M_from, .int M_to, .int M_value, .int M_isWrong, .ref am5, .int M_rowN, .ref am6, .ref am7, .ref am8, .ref am9, .ref am10, .ref am11, .ref am12, .int M_ran, .int M_actKind, .int M_actN, .int M_actA, .int M_isParted])), (am0, .inl (cy 0, 48, .inl (upd u_s (3 : Int32).toNatClampNeg r28)))] H := hP
  have hD : va_D A [(am, .inr (7, [.ref am0, .ref am1, .ref am2, .ref am3, .int M_isHeld, .ref am4, .int M_taped, .int M_token, .int M_from, .int M_to, .int M_value, .int M_isWrong, .ref am5, .int M_rowN, .ref am6, .ref am7, .ref am8, .ref am9, .ref am10, .ref am11, .ref am12, .int M_ran, .int M_actKind, .int M_actN, .int M_actA, .int M_isParted])), (am0, .inl (cy 0, 48, .inl (upd u_s (3 : Int32).toNatClampNeg r28)))] := hD
  refine lv_aload_n hx hb dX7_tellsNext_32 rfl (lv_at hl 2 rfl) ?_
  refine va_get (D := D) (ci := 7) (v := .ref am0) (C := RX7) (T := TX7) (N := 26) hx hb hts hin7 hown hK hP 0 rfl rfl 0 (by decide) fl7 (fun _ h9 => h9) rfl dX7_tellsNext_33 ?_
  refine lv_iload_n hx hb dX7_tellsNext_36 rfl (lv_at hl 1 rfl) ?_
  refine lv_iconst (v := (3 : Int32)) hx hb dX7_tellsNext_37 (by decide) ?_
  refine lv_iadd hx hb dX7_tellsNext_38 ?_
  refine lv_sipush (v := (9999 : Int32)) hx hb dX7_tellsNext_39 (by decide) ?_
  refine lv_aload_n hx hb dX7_tellsNext_42 rfl (lv_at hl 2 rfl) ?_
  refine va_get (D := D) (ci := 7) (v := .ref am0) (C := RX7) (T := TX7) (N := 26) hx hb hts hin7 hown hK hP 0 rfl rfl 0 (by decide) fl7 (fun _ h9 => h9) rfl dX7_tellsNext_43 ?_
  refine lv_iload_n hx hb dX7_tellsNext_46 rfl (lv_at hl 1 rfl) ?_
  refine lv_iconst (v := (3 : Int32)) hx hb dX7_tellsNext_47 (by decide) ?_
  refine lv_iadd hx hb dX7_tellsNext_48 ?_
  obtain ⟨h_49, hf⟩ := zg hf
  refine va_iald hx hb hK hP 1 0 rfl rfl h_49 dX7_tellsNext_49 ?_
  refine lv_iconst (v := (1 : Int32)) hx hb dX7_tellsNext_50 (by decide) ?_
  refine lv_iadd hx hb dX7_tellsNext_51 ?_
  obtain ⟨r52, hc52, hf⟩ := zb hf
  refine zsr (o := some (.int r52)) (As := [.int (9999 : Int32), .int (((upd u_s (3 : Int32).toNatClampNeg r28) (((8 : Int32) + ((5 : Int32) * x1)) + (3 : Int32)).toNatClampNeg) + (1 : Int32))]) (rest := [.int (((8 : Int32) + ((5 : Int32) * x1)) + (3 : Int32)), .ref am0]) (stk := [.int r52, .int (((8 : Int32) + ((5 : Int32) * x1)) + (3 : Int32)), .ref am0]) ⟨hx, hb, hml, hown, hts⟩ (mX7_least l D cy st sk sv B  n (9999 : Int32) (((upd u_s (3 : Int32).toNatClampNeg r28) (((8 : Int32) + ((5 : Int32) * x1)) + (3 : Int32)).toNatClampNeg) + (1 : Int32)) r52 hc52) (va_cwS 2 hts gX7_tellsNext_X7_least rfl rfl rfl (by decide +kernel) ⟨Nat.le_of_ble_eq_true rfl, Nat.le_of_ble_eq_true rfl⟩) hG hS hAB hP [] rfl rfl hl.1 rfl (Nat.le_of_ble_eq_true rfl) dX7_tellsNext_52 rfl ?_
  obtain ⟨h_55, hf⟩ := zg hf
  refine va_iast hx hb hK hP hD hS 1 0 rfl rfl h_55 dX7_tellsNext_55 (fun H locs hP hD hS => ?_)
  have hP : va_P D vwCl [(am, .inr (7, [.ref am0, .ref am1, .ref am2, .ref am3, .int M_isHeld, .ref am4, .int M_taped, .int M_token, .int M_from, .int M_to, .int M_value, .int M_isWrong, .ref am5, .int M_rowN, .ref am6, .ref am7, .ref am8, .ref am9, .ref am10, .ref am11, .ref am12, .int M_ran, .int M_actKind, .int M_actN, .int M_actA, .int M_isParted])), (am0, .inl (cy 0, 48, .inl (upd (upd u_s (3 : Int32).toNatClampNeg r28) (((8 : Int32) + ((5 : Int32) * x1)) + (3 : Int32)).toNatClampNeg r52)))] H := hP
  have hD : va_D A [(am, .inr (7, [.ref am0, .ref am1, .ref am2, .ref am3, .int M_isHeld, .ref am4, .int M_taped, .int M_token, .int M_from, .int M_to, .int M_value, .int M_isWrong, .ref am5, .int M_rowN, .ref am6, .ref am7, .ref am8, .ref am9, .ref am10, .ref am11, .ref am12, .int M_ran, .int M_actKind, .int M_actN, .int M_actA, .int M_isParted])), (am0, .inl (cy 0, 48, .inl (upd (upd u_s (3 : Int32).toNatClampNeg r28) (((8 : Int32) + ((5 : Int32) * x1)) + (3 : Int32)).toNatClampNeg r52)))] := hD
  refine lv_aload_n hx hb dX7_tellsNext_56 rfl (lv_at hl 2 rfl) ?_
  refine va_get (D := D) (ci := 7) (v := .ref am0) (C := RX7) (T := TX7) (N := 26) hx hb hts hin7 hown hK hP 0 rfl rfl 0 (by decide) fl7 (fun _ h9 => h9) rfl dX7_tellsNext_57 ?_
  refine lv_iload_n hx hb dX7_tellsNext_60 rfl (lv_at hl 1 rfl) ?_
  refine lv_iconst (v := (2 : Int32)) hx hb dX7_tellsNext_61 (by decide) ?_
  refine lv_iadd hx hb dX7_tellsNext_62 ?_
  refine lv_aload_n hx hb dX7_tellsNext_63 rfl (lv_at hl 2 rfl) ?_
  refine va_get (D := D) (ci := 7) (v := .ref am0) (C := RX7) (T := TX7) (N := 26) hx hb hts hin7 hown hK hP 0 rfl rfl 0 (by decide) fl7 (fun _ h9 => h9) rfl dX7_tellsNext_64 ?_
  refine lv_iload_n hx hb dX7_tellsNext_67 rfl (lv_at hl 1 rfl) ?_
  refine lv_iconst (v := (2 : Int32)) hx hb dX7_tellsNext_68 (by decide) ?_
  refine lv_iadd hx hb dX7_tellsNext_69 ?_
  obtain ⟨h_70, hf⟩ := zg hf
  refine va_iald hx hb hK hP 1 0 rfl rfl h_70 dX7_tellsNext_70 ?_
  refine lv_iload_n hx hb dX7_tellsNext_71 rfl (lv_at hl 0 rfl) ?_
  refine lv_isub hx hb dX7_tellsNext_72 ?_
  obtain ⟨r73, hc73, hf⟩ := zb hf
  refine zsr (o := some (.int r73)) (As := [.int (((upd (upd u_s (3 : Int32).toNatClampNeg r28) (((8 : Int32) + ((5 : Int32) * x1)) + (3 : Int32)).toNatClampNeg r52) (((8 : Int32) + ((5 : Int32) * x1)) + (2 : Int32)).toNatClampNeg) - r9)]) (rest := [.int (((8 : Int32) + ((5 : Int32) * x1)) + (2 : Int32)), .ref am0]) (stk := [.int r73, .int (((8 : Int32) + ((5 : Int32) * x1)) + (2 : Int32)), .ref am0]) ⟨hx, hb, hml, hown, hts⟩ (mX7_within l D cy st sk sv B  n (((upd (upd u_s (3 : Int32).toNatClampNeg r28) (((8 : Int32) + ((5 : Int32) * x1)) + (3 : Int32)).toNatClampNeg r52) (((8 : Int32) + ((5 : Int32) * x1)) + (2 : Int32)).toNatClampNeg) - r9) r73 hc73) (va_cwS 1 hts gX7_tellsNext_X7_within rfl rfl rfl (by decide +kernel) ⟨Nat.le_of_ble_eq_true rfl, Nat.le_of_ble_eq_true rfl⟩) hG hS hAB hP [] rfl rfl hl.1 rfl (Nat.le_of_ble_eq_true rfl) dX7_tellsNext_73 rfl ?_
  obtain ⟨h_76, hf⟩ := zg hf
  refine va_iast hx hb hK hP hD hS 1 0 rfl rfl h_76 dX7_tellsNext_76 (fun H locs hP hD hS => ?_)
  have hP : va_P D vwCl [(am, .inr (7, [.ref am0, .ref am1, .ref am2, .ref am3, .int M_isHeld, .ref am4, .int M_taped, .int M_token, .int M_from, .int M_to, .int M_value, .int M_isWrong, .ref am5, .int M_rowN, .ref am6, .ref am7, .ref am8, .ref am9, .ref am10, .ref am11, .ref am12, .int M_ran, .int M_actKind, .int M_actN, .int M_actA, .int M_isParted])), (am0, .inl (cy 0, 48, .inl (upd (upd (upd u_s (3 : Int32).toNatClampNeg r28) (((8 : Int32) + ((5 : Int32) * x1)) + (3 : Int32)).toNatClampNeg r52) (((8 : Int32) + ((5 : Int32) * x1)) + (2 : Int32)).toNatClampNeg r73)))] H := hP
  have hD : va_D A [(am, .inr (7, [.ref am0, .ref am1, .ref am2, .ref am3, .int M_isHeld, .ref am4, .int M_taped, .int M_token, .int M_from, .int M_to, .int M_value, .int M_isWrong, .ref am5, .int M_rowN, .ref am6, .ref am7, .ref am8, .ref am9, .ref am10, .ref am11, .ref am12, .int M_ran, .int M_actKind, .int M_actN, .int M_actA, .int M_isParted])), (am0, .inl (cy 0, 48, .inl (upd (upd (upd u_s (3 : Int32).toNatClampNeg r28) (((8 : Int32) + ((5 : Int32) * x1)) + (3 : Int32)).toNatClampNeg r52) (((8 : Int32) + ((5 : Int32) * x1)) + (2 : Int32)).toNatClampNeg r73)))] := hD
  exact W.vret hx hb hr (fun t ht hW => hfin (upd (upd (upd u_s (3 : Int32).toNatClampNeg r28) (((8 : Int32) + ((5 : Int32) * x1)) + (3 : Int32)).toNatClampNeg r52) (((8 : Int32) + ((5 : Int32) * x1)) + (2 : Int32)).toNatClampNeg r73) hf _ t ht hP (hS.F ht)) hS.2.2 dX7_tellsNext_77
set_option maxRecDepth 100000 in
set_option maxHeartbeats 100000000 in
theorem mX7_goesOn (l : Launch) (D : va_G) (cy : Nat → ClassId) (st sk sv : Nat → Nat) (B : Nat) (am : Nat) (am0 : Nat) (am1 : Nat) (am2 : Nat) (am3 : Nat) (am4 : Nat) (am5 : Nat) (am6 : Nat) (am7 : Nat) (am8 : Nat) (am9 : Nat) (am10 : Nat) (am11 : Nat) (am12 : Nat) (sz : Nat) (n : Nat) (M_isHeld : Int32) (M_taped : Int32) (M_token : Int32) (M_from : Int32) (M_to : Int32) (M_value : Int32) (M_isWrong : Int32) (M_rowN : Int32) (M_ran : Int32) (M_actKind : Int32) (M_actN : Int32) (M_actA : Int32) (M_isParted : Int32) (u_s : (Nat → Int32))  (z : (Nat → Int32)) (hf : fX7_goesOn n (M_isHeld, M_taped, M_token, M_from, M_to, M_value, M_isWrong, M_rowN, M_ran, M_actKind, M_actN, M_actA, M_isParted) u_s = some z) : Met l yX7_goesOn wsX7_goesOn ({ frames := 3, cells := 0, slots := 0, locals := 66 }) (PcW [.ref am] D cy st sk sv B sz [(am, .inr (7, [.ref am0, .ref am1, .ref am2, .ref am3, .int M_isHeld, .ref am4, .int M_taped, .int M_token, .int M_from, .int M_to, .int M_value, .int M_isWrong, .ref am5, .int M_rowN, .ref am6, .ref am7, .ref am8, .ref am9, .ref am10, .ref am11, .ref am12, .int M_ran, .int M_actKind, .int M_actN, .int M_actA, .int M_isParted])), (am0, .inl (cy 0, 48, .inl u_s))]) (Qw (none) D [(am, .inr (7, [.ref am0, .ref am1, .ref am2, .ref am3, .int M_isHeld, .ref am4, .int M_taped, .int M_token, .int M_from, .int M_to, .int M_value, .int M_isWrong, .ref am5, .int M_rowN, .ref am6, .ref am7, .ref am8, .ref am9, .ref am10, .ref am11, .ref am12, .int M_ran, .int M_actKind, .int M_actN, .int M_actA, .int M_isParted])), (am0, .inl (cy 0, 48, .inl z))] (va_A [(am, .inr (7, [.ref am0, .ref am1, .ref am2, .ref am3, .int M_isHeld, .ref am4, .int M_taped, .int M_token, .int M_from, .int M_to, .int M_value, .int M_isWrong, .ref am5, .int M_rowN, .ref am6, .ref am7, .ref am8, .ref am9, .ref am10, .ref am11, .ref am12, .int M_ran, .int M_actKind, .int M_actN, .int M_actA, .int M_isParted])), (am0, .inl (cy 0, 48, .inl u_s))] sz)) 0 0 (va_A [(am, .inr (7, [.ref am0, .ref am1, .ref am2, .ref am3, .int M_isHeld, .ref am4, .int M_taped, .int M_token, .int M_from, .int M_to, .int M_value, .int M_isWrong, .ref am5, .int M_rowN, .ref am6, .ref am7, .ref am8, .ref am9, .ref am10, .ref am11, .ref am12, .int M_ran, .int M_actKind, .int M_actN, .int M_actA, .int M_isParted])), (am0, .inl (cy 0, 48, .inl u_s))] sz) := by
  refine Met.ofW (cc := cX7_goesOn) (maxL := 3) (ret := none) (by decide) rfl ?_
  intro p e s m args below meth c s₁ Bd hml hv
  obtain ⟨rfl, hsz, hP, hD0, hBs, hG⟩ := hv
  have hx := Bd.exec
  have hb := Bd.bytes
  have hr := Bd.returns
  have hts := atoms_spec (ws := wsX7_goesOn) Bd.pre
  have hown : s.vm.findClass RX7 = some m.cls := findClass_of_methodNamed Bd.named
  have hlocks := Bd.notSynchronized
  have hK := hG.1
  subst hsz
  have hD := hD0.self (sz := s.heap.size)
  have hAB0 := zA hD0 hBs
  generalize hAe : va_A [(am, .inr (7, [.ref am0, .ref am1, .ref am2, .ref am3, .int M_isHeld, .ref am4, .int M_taped, .int M_token, .int M_from, .int M_to, .int M_value, .int M_isWrong, .ref am5, .int M_rowN, .ref am6, .ref am7, .ref am8, .ref am9, .ref am10, .ref am11, .ref am12, .int M_ran, .int M_actKind, .int M_actN, .int M_actA, .int M_isParted])), (am0, .inl (cy 0, 48, .inl u_s))] s.heap.size = A at hD hAB0 ⊢
  have hA : ∀ q : Nat, s.heap.size ≤ q → A q := fun q h => by rw [← hAe]; exact Or.inr h
  have hAB : ∀ q, A q → B ≤ q := hAB0
  have hS : va_S A s.heap s.heap [] := va_S.rf
  have hfin : ∀ (u_s : (Nat → Int32)), some u_s = some z → ∀ (H : Heap) (t : State), t.heap = H → va_P D vwCl [(am, .inr (7, [.ref am0, .ref am1, .ref am2, .ref am3, .int M_isHeld, .ref am4, .int M_taped, .int M_token, .int M_from, .int M_to, .int M_value, .int M_isWrong, .ref am5, .int M_rowN, .ref am6, .ref am7, .ref am8, .ref am9, .ref am10, .ref am11, .ref am12, .int M_ran, .int M_actKind, .int M_actN, .int M_actA, .int M_isParted])), (am0, .inl (cy 0, 48, .inl u_s))] H → va_F A s t → Qw (none) D [(am, .inr (7, [.ref am0, .ref am1, .ref am2, .ref am3, .int M_isHeld, .ref am4, .int M_taped, .int M_token, .int M_from, .int M_to, .int M_value, .int M_isWrong, .ref am5, .int M_rowN, .ref am6, .ref am7, .ref am8, .ref am9, .ref am10, .ref am11, .ref am12, .int M_ran, .int M_actKind, .int M_actN, .int M_actA, .int M_isParted])), (am0, .inl (cy 0, 48, .inl z))] A ([.ref am] : List Value).toArray s (.returned (none)) t := by
    intro u_s h9 H t ht hP hF
    cases h9
    exact ⟨rfl, by rw [ht]; exact hP, hF⟩
  have hin7 : ∀ w ∈ u_ws RX7 TX7 26, w ∈ wsX7_goesOn := by decide +kernel
  have fl7 := hts (.fieldLink RX7 7 "KinCutleryModel" "s" "[I") (by decide +kernel)
  have hL115 : ∀ (n0 : Nat) (u_s : (Nat → Int32)) (y2 : Int32), lpF (fX7_goesOn_F115 n (M_isHeld, M_taped, M_token, M_from, M_to, M_value, M_isWrong, M_rowN, M_ran, M_actKind, M_actN, M_actA, M_isParted) ) n0 (u_s, y2) = some z → ∀ (H : Heap) (locs : List Loc), va_P D vwCl [(am, .inr (7, [.ref am0, .ref am1, .ref am2, .ref am3, .int M_isHeld, .ref am4, .int M_taped, .int M_token, .int M_from, .int M_to, .int M_value, .int M_isWrong, .ref am5, .int M_rowN, .ref am6, .ref am7, .ref am8, .ref am9, .ref am10, .ref am11, .ref am12, .int M_ran, .int M_actKind, .int M_actN, .int M_actA, .int M_isParted])), (am0, .inl (cy 0, 48, .inl u_s))] H → va_D A [(am, .inr (7, [.ref am0, .ref am1, .ref am2, .ref am3, .int M_isHeld, .ref am4, .int M_taped, .int M_token, .int M_from, .int M_to, .int M_value, .int M_isWrong, .ref am5, .int M_rowN, .ref am6, .ref am7, .ref am8, .ref am9, .ref am10, .ref am11, .ref am12, .int M_ran, .int M_actKind, .int M_actN, .int M_actA, .int M_isParted])), (am0, .inl (cy 0, 48, .inl u_s))] → va_S A s.heap H locs → ∀ (ls : Array Slot), lv_has ls 3 [(0, .ref am), (2, .int y2)] → W p l e (headSpec wsX7_goesOn ({ frames := 3, cells := 0, slots := 0, locals := 66 })).room s m ([.ref am] : List Value).toArray below meth c H locs 0 0 (MQ below (Qw (none) D [(am, .inr (7, [.ref am0, .ref am1, .ref am2, .ref am3, .int M_isHeld, .ref am4, .int M_taped, .int M_token, .int M_from, .int M_to, .int M_value, .int M_isWrong, .ref am5, .int M_rowN, .ref am6, .ref am7, .ref am8, .ref am9, .ref am10, .ref am11, .ref am12, .int M_ran, .int M_actKind, .int M_actN, .int M_actA, .int M_isParted])), (am0, .inl (cy 0, 48, .inl z))] A) ([.ref am] : List Value).toArray s 0 0 A) (F0 m 115 ls []) := by
    have key : ∀ (n0 : Nat) (v115 : (Nat → Int32) × Int32), lpF (fX7_goesOn_F115 n (M_isHeld, M_taped, M_token, M_from, M_to, M_value, M_isWrong, M_rowN, M_ran, M_actKind, M_actN, M_actA, M_isParted) ) n0 v115 = some z → ∀ (H : Heap) (locs : List Loc), va_P D vwCl [(am, .inr (7, [.ref am0, .ref am1, .ref am2, .ref am3, .int M_isHeld, .ref am4, .int M_taped, .int M_token, .int M_from, .int M_to, .int M_value, .int M_isWrong, .ref am5, .int M_rowN, .ref am6, .ref am7, .ref am8, .ref am9, .ref am10, .ref am11, .ref am12, .int M_ran, .int M_actKind, .int M_actN, .int M_actA, .int M_isParted])), (am0, .inl (cy 0, 48, .inl v115.1))] H → va_D A [(am, .inr (7, [.ref am0, .ref am1, .ref am2, .ref am3, .int M_isHeld, .ref am4, .int M_taped, .int M_token, .int M_from, .int M_to, .int M_value, .int M_isWrong, .ref am5, .int M_rowN, .ref am6, .ref am7, .ref am8, .ref am9, .ref am10, .ref am11, .ref am12, .int M_ran, .int M_actKind, .int M_actN, .int M_actA, .int M_isParted])), (am0, .inl (cy 0, 48, .inl v115.1))] → va_S A s.heap H locs → ∀ (ls : Array Slot), lv_has ls 3 [(0, .ref am), (2, .int v115.2)] → W p l e (headSpec wsX7_goesOn ({ frames := 3, cells := 0, slots := 0, locals := 66 })).room s m ([.ref am] : List Value).toArray below meth c H locs 0 0 (MQ below (Qw (none) D [(am, .inr (7, [.ref am0, .ref am1, .ref am2, .ref am3, .int M_isHeld, .ref am4, .int M_taped, .int M_token, .int M_from, .int M_to, .int M_value, .int M_isWrong, .ref am5, .int M_rowN, .ref am6, .ref am7, .ref am8, .ref am9, .ref am10, .ref am11, .ref am12, .int M_ran, .int M_actKind, .int M_actN, .int M_actA, .int M_isParted])), (am0, .inl (cy 0, 48, .inl z))] A) ([.ref am] : List Value).toArray s 0 0 A) (F0 m 115 ls []) := by
      refine lpW ?_
      intro k115 hk1150
      have hk115 : ∀ (u_s : (Nat → Int32)) (y2 : Int32), k115 (u_s, y2) = some z → ∀ (H : Heap) (locs : List Loc), va_P D vwCl [(am, .inr (7, [.ref am0, .ref am1, .ref am2, .ref am3, .int M_isHeld, .ref am4, .int M_taped, .int M_token, .int M_from, .int M_to, .int M_value, .int M_isWrong, .ref am5, .int M_rowN, .ref am6, .ref am7, .ref am8, .ref am9, .ref am10, .ref am11, .ref am12, .int M_ran, .int M_actKind, .int M_actN, .int M_actA, .int M_isParted])), (am0, .inl (cy 0, 48, .inl u_s))] H → va_D A [(am, .inr (7, [.ref am0, .ref am1, .ref am2, .ref am3, .int M_isHeld, .ref am4, .int M_taped, .int M_token, .int M_from, .int M_to, .int M_value, .int M_isWrong, .ref am5, .int M_rowN, .ref am6, .ref am7, .ref am8, .ref am9, .ref am10, .ref am11, .ref am12, .int M_ran, .int M_actKind, .int M_actN, .int M_actA, .int M_isParted])), (am0, .inl (cy 0, 48, .inl u_s))] → va_S A s.heap H locs → ∀ (ls : Array Slot), lv_has ls 3 [(0, .ref am), (2, .int y2)] → W p l e (headSpec wsX7_goesOn ({ frames := 3, cells := 0, slots := 0, locals := 66 })).room s m ([.ref am] : List Value).toArray below meth c H locs 0 0 (MQ below (Qw (none) D [(am, .inr (7, [.ref am0, .ref am1, .ref am2, .ref am3, .int M_isHeld, .ref am4, .int M_taped, .int M_token, .int M_from, .int M_to, .int M_value, .int M_isWrong, .ref am5, .int M_rowN, .ref am6, .ref am7, .ref am8, .ref am9, .ref am10, .ref am11, .ref am12, .int M_ran, .int M_actKind, .int M_actN, .int M_actA, .int M_isParted])), (am0, .inl (cy 0, 48, .inl z))] A) ([.ref am] : List Value).toArray s 0 0 A) (F0 m 115 ls []) := fun u_s y2 h9 => hk1150 (u_s, y2) h9
      have hB160 : ∀ (u_s : (Nat → Int32)) (y2 : Int32) (w1 : Int32) (w2 : Int32) (w3 : Int32), fX7_goesOn_b160 n (M_isHeld, M_taped, M_token, M_from, M_to, M_value, M_isWrong, M_rowN, M_ran, M_actKind, M_actN, M_actA, M_isParted) k115 u_s y2 w1 w2 w3 = some z → ∀ (H : Heap) (locs : List Loc), va_P D vwCl [(am, .inr (7, [.ref am0, .ref am1, .ref am2, .ref am3, .int M_isHeld, .ref am4, .int M_taped, .int M_token, .int M_from, .int M_to, .int M_value, .int M_isWrong, .ref am5, .int M_rowN, .ref am6, .ref am7, .ref am8, .ref am9, .ref am10, .ref am11, .ref am12, .int M_ran, .int M_actKind, .int M_actN, .int M_actA, .int M_isParted])), (am0, .inl (cy 0, 48, .inl u_s))] H → va_D A [(am, .inr (7, [.ref am0, .ref am1, .ref am2, .ref am3, .int M_isHeld, .ref am4, .int M_taped, .int M_token, .int M_from, .int M_to, .int M_value, .int M_isWrong, .ref am5, .int M_rowN, .ref am6, .ref am7, .ref am8, .ref am9, .ref am10, .ref am11, .ref am12, .int M_ran, .int M_actKind, .int M_actN, .int M_actA, .int M_isParted])), (am0, .inl (cy 0, 48, .inl u_s))] → va_S A s.heap H locs → ∀ (ls : Array Slot), lv_has ls 3 [(0, .ref am), (2, .int y2)] → W p l e (headSpec wsX7_goesOn ({ frames := 3, cells := 0, slots := 0, locals := 66 })).room s m ([.ref am] : List Value).toArray below meth c H locs 0 0 (MQ below (Qw (none) D [(am, .inr (7, [.ref am0, .ref am1, .ref am2, .ref am3, .int M_isHeld, .ref am4, .int M_taped, .int M_token, .int M_from, .int M_to, .int M_value, .int M_isWrong, .ref am5, .int M_rowN, .ref am6, .ref am7, .ref am8, .ref am9, .ref am10, .ref am11, .ref am12, .int M_ran, .int M_actKind, .int M_actN, .int M_actA, .int M_isParted])), (am0, .inl (cy 0, 48, .inl z))] A) ([.ref am] : List Value).toArray s 0 0 A) (F0 m 160 ls [.int w3, .int w2, .int w1, .ref am0]) := by
        intro u_s y2 w1 w2 w3 hf H locs hP hD hS ls hl
        have hf : (if w1 < 0 ∨ 48 ≤ w1.toNatClampNeg then none else k115 ((upd u_s w1.toNatClampNeg (w2 ||| w3)), (y2 + (1 : Int32)))) = some z := hf
        refine lv_ior hx hb dX7_goesOn_160 ?_
        obtain ⟨h_161, hf⟩ := zg hf
        refine va_iast hx hb hK hP hD hS 1 0 rfl rfl h_161 dX7_goesOn_161 (fun H locs hP hD hS => ?_)
        have hP : va_P D vwCl [(am, .inr (7, [.ref am0, .ref am1, .ref am2, .ref am3, .int M_isHeld, .ref am4, .int M_taped, .int M_token, .int M_from, .int M_to, .int M_value, .int M_isWrong, .ref am5, .int M_rowN, .ref am6, .ref am7, .ref am8, .ref am9, .ref am10, .ref am11, .ref am12, .int M_ran, .int M_actKind, .int M_actN, .int M_actA, .int M_isParted])), (am0, .inl (cy 0, 48, .inl (upd u_s w1.toNatClampNeg (w2 ||| w3))))] H := hP
        have hD : va_D A [(am, .inr (7, [.ref am0, .ref am1, .ref am2, .ref am3, .int M_isHeld, .ref am4, .int M_taped, .int M_token, .int M_from, .int M_to, .int M_value, .int M_isWrong, .ref am5, .int M_rowN, .ref am6, .ref am7, .ref am8, .ref am9, .ref am10, .ref am11, .ref am12, .int M_ran, .int M_actKind, .int M_actN, .int M_actA, .int M_isParted])), (am0, .inl (cy 0, 48, .inl (upd u_s w1.toNatClampNeg (w2 ||| w3))))] := hD
        refine lv_iinc (v := (y2 + (1 : Int32))) (lv' := [(2, .int (y2 + (1 : Int32))), (0, .ref am)]) hx hb dX7_goesOn_162 hl (k := 1) rfl rfl (by decide) rfl (fun ls hl => ?_)
        refine lv_goto (tgt := 115) hx hb dX7_goesOn_165 (by decide) ?_
        exact hk115 (upd u_s w1.toNatClampNeg (w2 ||| w3)) (y2 + (1 : Int32)) hf _ _ hP hD hS _ (lv_sub hl [1, 0] rfl)
      have hstep : ∀ (u_s : (Nat → Int32)) (y2 : Int32), fX7_goesOn_F115 n (M_isHeld, M_taped, M_token, M_from, M_to, M_value, M_isWrong, M_rowN, M_ran, M_actKind, M_actN, M_actA, M_isParted)  k115 (u_s, y2) = some z → ∀ (H : Heap) (locs : List Loc), va_P D vwCl [(am, .inr (7, [.ref am0, .ref am1, .ref am2, .ref am3, .int M_isHeld, .ref am4, .int M_taped, .int M_token, .int M_from, .int M_to, .int M_value, .int M_isWrong, .ref am5, .int M_rowN, .ref am6, .ref am7, .ref am8, .ref am9, .ref am10, .ref am11, .ref am12, .int M_ran, .int M_actKind, .int M_actN, .int M_actA, .int M_isParted])), (am0, .inl (cy 0, 48, .inl u_s))] H → va_D A [(am, .inr (7, [.ref am0, .ref am1, .ref am2, .ref am3, .int M_isHeld, .ref am4, .int M_taped, .int M_token, .int M_from, .int M_to, .int M_value, .int M_isWrong, .ref am5, .int M_rowN, .ref am6, .ref am7, .ref am8, .ref am9, .ref am10, .ref am11, .ref am12, .int M_ran, .int M_actKind, .int M_actN, .int M_actA, .int M_isParted])), (am0, .inl (cy 0, 48, .inl u_s))] → va_S A s.heap H locs → ∀ (ls : Array Slot), lv_has ls 3 [(0, .ref am), (2, .int y2)] → W p l e (headSpec wsX7_goesOn ({ frames := 3, cells := 0, slots := 0, locals := 66 })).room s m ([.ref am] : List Value).toArray below meth c H locs 0 0 (MQ below (Qw (none) D [(am, .inr (7, [.ref am0, .ref am1, .ref am2, .ref am3, .int M_isHeld, .ref am4, .int M_taped, .int M_token, .int M_from, .int M_to, .int M_value, .int M_isWrong, .ref am5, .int M_rowN, .ref am6, .ref am7, .ref am8, .ref am9, .ref am10, .ref am11, .ref am12, .int M_ran, .int M_actKind, .int M_actN, .int M_actA, .int M_isParted])), (am0, .inl (cy 0, 48, .inl z))] A) ([.ref am] : List Value).toArray s 0 0 A) (F0 m 115 ls []) := by
        intro u_s y2 hf H locs hP hD hS ls hl
        have hf : (if (u_s (0 : Int32).toNatClampNeg) ≤ y2 then (some (upd u_s (1 : Int32).toNatClampNeg ((u_s (1 : Int32).toNatClampNeg) + (1 : Int32)))) else (if (((8 : Int32) + ((5 : Int32) * y2)) + (4 : Int32)) < 0 ∨ 48 ≤ (((8 : Int32) + ((5 : Int32) * y2)) + (4 : Int32)).toNatClampNeg then none else (fX7_its n (M_isHeld, M_taped, M_token, M_from, M_to, M_value, M_isWrong, M_rowN, M_ran, M_actKind, M_actN, M_actA, M_isParted) u_s y2 (2 : Int32)).bind fun r142 => if r142 ≤ (u_s (6 : Int32).toNatClampNeg) then (fX7_goesOn_b160 n (M_isHeld, M_taped, M_token, M_from, M_to, M_value, M_isWrong, M_rowN, M_ran, M_actKind, M_actN, M_actA, M_isParted) k115 u_s y2 (((8 : Int32) + ((5 : Int32) * y2)) + (4 : Int32)) (u_s (((8 : Int32) + ((5 : Int32) * y2)) + (4 : Int32)).toNatClampNeg) (0 : Int32)) else (fX7_goesOn_b160 n (M_isHeld, M_taped, M_token, M_from, M_to, M_value, M_isWrong, M_rowN, M_ran, M_actKind, M_actN, M_actA, M_isParted) k115 u_s y2 (((8 : Int32) + ((5 : Int32) * y2)) + (4 : Int32)) (u_s (((8 : Int32) + ((5 : Int32) * y2)) + (4 : Int32)).toNatClampNeg) (1 : Int32)))) = some z := hf
        refine lv_iload_n hx hb dX7_goesOn_115 rfl (lv_at hl 1 rfl) ?_
        refine lv_aload_n hx hb dX7_goesOn_116 rfl (lv_at hl 0 rfl) ?_
        refine va_get (D := D) (ci := 7) (v := .ref am0) (C := RX7) (T := TX7) (N := 26) hx hb hts hin7 hown hK hP 0 rfl rfl 0 (by decide) fl7 (fun _ h9 => h9) rfl dX7_goesOn_117 ?_
        refine lv_iconst (v := (0 : Int32)) hx hb dX7_goesOn_120 (by decide) ?_
        refine va_iald hx hb hK hP 1 0 rfl rfl vi_0_48 dX7_goesOn_121 ?_
        refine lv_icmp_ge (tgt := 168) hx hb dX7_goesOn_122 (by decide) (fun c_122 => ?_) (fun c_122 => ?_)
        · have hf := zp hf c_122
          refine lv_aload_n hx hb dX7_goesOn_168 rfl (lv_at hl 0 rfl) ?_
          refine va_get (D := D) (ci := 7) (v := .ref am0) (C := RX7) (T := TX7) (N := 26) hx hb hts hin7 hown hK hP 0 rfl rfl 0 (by decide) fl7 (fun _ h9 => h9) rfl dX7_goesOn_169 ?_
          refine lv_iconst (v := (1 : Int32)) hx hb dX7_goesOn_172 (by decide) ?_
          refine lv_dup2_11 hx hb dX7_goesOn_173 rfl rfl ?_
          refine va_iald hx hb hK hP 1 0 rfl rfl vi_1_48 dX7_goesOn_174 ?_
          refine lv_iconst (v := (1 : Int32)) hx hb dX7_goesOn_175 (by decide) ?_
          refine lv_iadd hx hb dX7_goesOn_176 ?_
          refine va_iast hx hb hK hP hD hS 1 0 rfl rfl vi_1_48 dX7_goesOn_177 (fun H locs hP hD hS => ?_)
          have hP : va_P D vwCl [(am, .inr (7, [.ref am0, .ref am1, .ref am2, .ref am3, .int M_isHeld, .ref am4, .int M_taped, .int M_token, .int M_from, .int M_to, .int M_value, .int M_isWrong, .ref am5, .int M_rowN, .ref am6, .ref am7, .ref am8, .ref am9, .ref am10, .ref am11, .ref am12, .int M_ran, .int M_actKind, .int M_actN, .int M_actA, .int M_isParted])), (am0, .inl (cy 0, 48, .inl (upd u_s (1 : Int32).toNatClampNeg ((u_s (1 : Int32).toNatClampNeg) + (1 : Int32)))))] H := hP
          have hD : va_D A [(am, .inr (7, [.ref am0, .ref am1, .ref am2, .ref am3, .int M_isHeld, .ref am4, .int M_taped, .int M_token, .int M_from, .int M_to, .int M_value, .int M_isWrong, .ref am5, .int M_rowN, .ref am6, .ref am7, .ref am8, .ref am9, .ref am10, .ref am11, .ref am12, .int M_ran, .int M_actKind, .int M_actN, .int M_actA, .int M_isParted])), (am0, .inl (cy 0, 48, .inl (upd u_s (1 : Int32).toNatClampNeg ((u_s (1 : Int32).toNatClampNeg) + (1 : Int32)))))] := hD
          exact W.vret hx hb hr (fun t ht hW => hfin (upd u_s (1 : Int32).toNatClampNeg ((u_s (1 : Int32).toNatClampNeg) + (1 : Int32))) hf _ t ht hP (hS.F ht)) hS.2.2 dX7_goesOn_178
        · have hf := zn hf c_122
          refine lv_aload_n hx hb dX7_goesOn_125 rfl (lv_at hl 0 rfl) ?_
          refine va_get (D := D) (ci := 7) (v := .ref am0) (C := RX7) (T := TX7) (N := 26) hx hb hts hin7 hown hK hP 0 rfl rfl 0 (by decide) fl7 (fun _ h9 => h9) rfl dX7_goesOn_126 ?_
          refine lv_bipush (v := (8 : Int32)) hx hb dX7_goesOn_129 (by decide) ?_
          refine lv_iconst (v := (5 : Int32)) hx hb dX7_goesOn_131 (by decide) ?_
          refine lv_iload_n hx hb dX7_goesOn_132 rfl (lv_at hl 1 rfl) ?_
          refine lv_imul hx hb dX7_goesOn_133 ?_
          refine lv_iadd hx hb dX7_goesOn_134 ?_
          refine lv_iconst (v := (4 : Int32)) hx hb dX7_goesOn_135 (by decide) ?_
          refine lv_iadd hx hb dX7_goesOn_136 ?_
          refine lv_dup2_11 hx hb dX7_goesOn_137 rfl rfl ?_
          obtain ⟨h_138, hf⟩ := zg hf
          refine va_iald hx hb hK hP 1 0 rfl rfl h_138 dX7_goesOn_138 ?_
          refine lv_aload_n hx hb dX7_goesOn_139 rfl (lv_at hl 0 rfl) ?_
          refine lv_iload_n hx hb dX7_goesOn_140 rfl (lv_at hl 1 rfl) ?_
          refine lv_iconst (v := (2 : Int32)) hx hb dX7_goesOn_141 (by decide) ?_
          obtain ⟨r142, hc142, hf⟩ := zb hf
          refine zvr (o := some (.int r142)) (As := [.int y2, .int (2 : Int32)]) (rest := [.int (u_s (((8 : Int32) + ((5 : Int32) * y2)) + (4 : Int32)).toNatClampNeg), .int (((8 : Int32) + ((5 : Int32) * y2)) + (4 : Int32)), .ref am0]) (stk := [.int r142, .int (u_s (((8 : Int32) + ((5 : Int32) * y2)) + (4 : Int32)).toNatClampNeg), .int (((8 : Int32) + ((5 : Int32) * y2)) + (4 : Int32)), .ref am0]) ⟨hx, hb, hml, hown, hts⟩ (mX7_its l D cy st sk sv B am am0 am1 am2 am3 am4 am5 am6 am7 am8 am9 am10 am11 am12 n M_isHeld M_taped M_token M_from M_to M_value M_isWrong M_rowN M_ran M_actKind M_actN M_actA M_isParted u_s y2 (2 : Int32) r142 hc142) (cwV 2 hts gX7_goesOn_X7_its rfl rfl rfl (by decide +kernel) ⟨Nat.le_of_ble_eq_true rfl, Nat.le_of_ble_eq_true rfl⟩) hG hS hAB hP [0, 1] rfl 0 7 rfl rfl rfl rfl hl.1 rfl (Nat.le_of_ble_eq_true rfl) dX7_goesOn_142 rfl ?_
          refine lv_aload_n hx hb dX7_goesOn_145 rfl (lv_at hl 0 rfl) ?_
          refine va_get (D := D) (ci := 7) (v := .ref am0) (C := RX7) (T := TX7) (N := 26) hx hb hts hin7 hown hK hP 0 rfl rfl 0 (by decide) fl7 (fun _ h9 => h9) rfl dX7_goesOn_146 ?_
          refine lv_bipush (v := (6 : Int32)) hx hb dX7_goesOn_149 (by decide) ?_
          refine va_iald hx hb hK hP 1 0 rfl rfl vi_6_48 dX7_goesOn_151 ?_
          refine lv_icmp_le (tgt := 159) hx hb dX7_goesOn_152 (by decide) (fun c_152 => ?_) (fun c_152 => ?_)
          · have hf := zp hf c_152
            refine lv_iconst (v := (0 : Int32)) hx hb dX7_goesOn_159 (by decide) ?_
            exact hB160 u_s y2 (((8 : Int32) + ((5 : Int32) * y2)) + (4 : Int32)) (u_s (((8 : Int32) + ((5 : Int32) * y2)) + (4 : Int32)).toNatClampNeg) (0 : Int32) hf _ _ hP hD hS _ (lv_sub hl [0, 1] rfl)
          · have hf := zn hf c_152
            refine lv_iconst (v := (1 : Int32)) hx hb dX7_goesOn_155 (by decide) ?_
            refine lv_goto (tgt := 160) hx hb dX7_goesOn_156 (by decide) ?_
            exact hB160 u_s y2 (((8 : Int32) + ((5 : Int32) * y2)) + (4 : Int32)) (u_s (((8 : Int32) + ((5 : Int32) * y2)) + (4 : Int32)).toNatClampNeg) (1 : Int32) hf _ _ hP hD hS _ (lv_sub hl [0, 1] rfl)
      exact fun v115 h9 => hstep v115.1 v115.2 h9
    exact fun n0 u_s y2 h9 => key n0 (u_s, y2) h9
  have hL80 : ∀ (n0 : Nat) (u_s : (Nat → Int32)) (y1 : Int32), lpF (fX7_goesOn_F80 n (M_isHeld, M_taped, M_token, M_from, M_to, M_value, M_isWrong, M_rowN, M_ran, M_actKind, M_actN, M_actA, M_isParted) ) n0 (u_s, y1) = some z → ∀ (H : Heap) (locs : List Loc), va_P D vwCl [(am, .inr (7, [.ref am0, .ref am1, .ref am2, .ref am3, .int M_isHeld, .ref am4, .int M_taped, .int M_token, .int M_from, .int M_to, .int M_value, .int M_isWrong, .ref am5, .int M_rowN, .ref am6, .ref am7, .ref am8, .ref am9, .ref am10, .ref am11, .ref am12, .int M_ran, .int M_actKind, .int M_actN, .int M_actA, .int M_isParted])), (am0, .inl (cy 0, 48, .inl u_s))] H → va_D A [(am, .inr (7, [.ref am0, .ref am1, .ref am2, .ref am3, .int M_isHeld, .ref am4, .int M_taped, .int M_token, .int M_from, .int M_to, .int M_value, .int M_isWrong, .ref am5, .int M_rowN, .ref am6, .ref am7, .ref am8, .ref am9, .ref am10, .ref am11, .ref am12, .int M_ran, .int M_actKind, .int M_actN, .int M_actA, .int M_isParted])), (am0, .inl (cy 0, 48, .inl u_s))] → va_S A s.heap H locs → ∀ (ls : Array Slot), lv_has ls 3 [(0, .ref am), (1, .int y1)] → W p l e (headSpec wsX7_goesOn ({ frames := 3, cells := 0, slots := 0, locals := 66 })).room s m ([.ref am] : List Value).toArray below meth c H locs 0 0 (MQ below (Qw (none) D [(am, .inr (7, [.ref am0, .ref am1, .ref am2, .ref am3, .int M_isHeld, .ref am4, .int M_taped, .int M_token, .int M_from, .int M_to, .int M_value, .int M_isWrong, .ref am5, .int M_rowN, .ref am6, .ref am7, .ref am8, .ref am9, .ref am10, .ref am11, .ref am12, .int M_ran, .int M_actKind, .int M_actN, .int M_actA, .int M_isParted])), (am0, .inl (cy 0, 48, .inl z))] A) ([.ref am] : List Value).toArray s 0 0 A) (F0 m 80 ls []) := by
    have key : ∀ (n0 : Nat) (v80 : (Nat → Int32) × Int32), lpF (fX7_goesOn_F80 n (M_isHeld, M_taped, M_token, M_from, M_to, M_value, M_isWrong, M_rowN, M_ran, M_actKind, M_actN, M_actA, M_isParted) ) n0 v80 = some z → ∀ (H : Heap) (locs : List Loc), va_P D vwCl [(am, .inr (7, [.ref am0, .ref am1, .ref am2, .ref am3, .int M_isHeld, .ref am4, .int M_taped, .int M_token, .int M_from, .int M_to, .int M_value, .int M_isWrong, .ref am5, .int M_rowN, .ref am6, .ref am7, .ref am8, .ref am9, .ref am10, .ref am11, .ref am12, .int M_ran, .int M_actKind, .int M_actN, .int M_actA, .int M_isParted])), (am0, .inl (cy 0, 48, .inl v80.1))] H → va_D A [(am, .inr (7, [.ref am0, .ref am1, .ref am2, .ref am3, .int M_isHeld, .ref am4, .int M_taped, .int M_token, .int M_from, .int M_to, .int M_value, .int M_isWrong, .ref am5, .int M_rowN, .ref am6, .ref am7, .ref am8, .ref am9, .ref am10, .ref am11, .ref am12, .int M_ran, .int M_actKind, .int M_actN, .int M_actA, .int M_isParted])), (am0, .inl (cy 0, 48, .inl v80.1))] → va_S A s.heap H locs → ∀ (ls : Array Slot), lv_has ls 3 [(0, .ref am), (1, .int v80.2)] → W p l e (headSpec wsX7_goesOn ({ frames := 3, cells := 0, slots := 0, locals := 66 })).room s m ([.ref am] : List Value).toArray below meth c H locs 0 0 (MQ below (Qw (none) D [(am, .inr (7, [.ref am0, .ref am1, .ref am2, .ref am3, .int M_isHeld, .ref am4, .int M_taped, .int M_token, .int M_from, .int M_to, .int M_value, .int M_isWrong, .ref am5, .int M_rowN, .ref am6, .ref am7, .ref am8, .ref am9, .ref am10, .ref am11, .ref am12, .int M_ran, .int M_actKind, .int M_actN, .int M_actA, .int M_isParted])), (am0, .inl (cy 0, 48, .inl z))] A) ([.ref am] : List Value).toArray s 0 0 A) (F0 m 80 ls []) := by
      refine lpW ?_
      intro k80 hk800
      have hk80 : ∀ (u_s : (Nat → Int32)) (y1 : Int32), k80 (u_s, y1) = some z → ∀ (H : Heap) (locs : List Loc), va_P D vwCl [(am, .inr (7, [.ref am0, .ref am1, .ref am2, .ref am3, .int M_isHeld, .ref am4, .int M_taped, .int M_token, .int M_from, .int M_to, .int M_value, .int M_isWrong, .ref am5, .int M_rowN, .ref am6, .ref am7, .ref am8, .ref am9, .ref am10, .ref am11, .ref am12, .int M_ran, .int M_actKind, .int M_actN, .int M_actA, .int M_isParted])), (am0, .inl (cy 0, 48, .inl u_s))] H → va_D A [(am, .inr (7, [.ref am0, .ref am1, .ref am2, .ref am3, .int M_isHeld, .ref am4, .int M_taped, .int M_token, .int M_from, .int M_to, .int M_value, .int M_isWrong, .ref am5, .int M_rowN, .ref am6, .ref am7, .ref am8, .ref am9, .ref am10, .ref am11, .ref am12, .int M_ran, .int M_actKind, .int M_actN, .int M_actA, .int M_isParted])), (am0, .inl (cy 0, 48, .inl u_s))] → va_S A s.heap H locs → ∀ (ls : Array Slot), lv_has ls 3 [(0, .ref am), (1, .int y1)] → W p l e (headSpec wsX7_goesOn ({ frames := 3, cells := 0, slots := 0, locals := 66 })).room s m ([.ref am] : List Value).toArray below meth c H locs 0 0 (MQ below (Qw (none) D [(am, .inr (7, [.ref am0, .ref am1, .ref am2, .ref am3, .int M_isHeld, .ref am4, .int M_taped, .int M_token, .int M_from, .int M_to, .int M_value, .int M_isWrong, .ref am5, .int M_rowN, .ref am6, .ref am7, .ref am8, .ref am9, .ref am10, .ref am11, .ref am12, .int M_ran, .int M_actKind, .int M_actN, .int M_actA, .int M_isParted])), (am0, .inl (cy 0, 48, .inl z))] A) ([.ref am] : List Value).toArray s 0 0 A) (F0 m 80 ls []) := fun u_s y1 h9 => hk800 (u_s, y1) h9
      have hB110 : ∀ (u_s : (Nat → Int32)) (y1 : Int32), fX7_goesOn_b110 n (M_isHeld, M_taped, M_token, M_from, M_to, M_value, M_isWrong, M_rowN, M_ran, M_actKind, M_actN, M_actA, M_isParted) k80 u_s y1 = some z → ∀ (H : Heap) (locs : List Loc), va_P D vwCl [(am, .inr (7, [.ref am0, .ref am1, .ref am2, .ref am3, .int M_isHeld, .ref am4, .int M_taped, .int M_token, .int M_from, .int M_to, .int M_value, .int M_isWrong, .ref am5, .int M_rowN, .ref am6, .ref am7, .ref am8, .ref am9, .ref am10, .ref am11, .ref am12, .int M_ran, .int M_actKind, .int M_actN, .int M_actA, .int M_isParted])), (am0, .inl (cy 0, 48, .inl u_s))] H → va_D A [(am, .inr (7, [.ref am0, .ref am1, .ref am2, .ref am3, .int M_isHeld, .ref am4, .int M_taped, .int M_token, .int M_from, .int M_to, .int M_value, .int M_isWrong, .ref am5, .int M_rowN, .ref am6, .ref am7, .ref am8, .ref am9, .ref am10, .ref am11, .ref am12, .int M_ran, .int M_actKind, .int M_actN, .int M_actA, .int M_isParted])), (am0, .inl (cy 0, 48, .inl u_s))] → va_S A s.heap H locs → ∀ (ls : Array Slot), lv_has ls 3 [(0, .ref am), (1, .int y1)] → W p l e (headSpec wsX7_goesOn ({ frames := 3, cells := 0, slots := 0, locals := 66 })).room s m ([.ref am] : List Value).toArray below meth c H locs 0 0 (MQ below (Qw (none) D [(am, .inr (7, [.ref am0, .ref am1, .ref am2, .ref am3, .int M_isHeld, .ref am4, .int M_taped, .int M_token, .int M_from, .int M_to, .int M_value, .int M_isWrong, .ref am5, .int M_rowN, .ref am6, .ref am7, .ref am8, .ref am9, .ref am10, .ref am11, .ref am12, .int M_ran, .int M_actKind, .int M_actN, .int M_actA, .int M_isParted])), (am0, .inl (cy 0, 48, .inl z))] A) ([.ref am] : List Value).toArray s 0 0 A) (F0 m 110 ls []) := by
        intro u_s y1 hf H locs hP hD hS ls hl
        have hf : (k80 (u_s, y1)) = some z := hf
        refine lv_goto (tgt := 80) hx hb dX7_goesOn_110 (by decide) ?_
        exact hk80 u_s y1 hf _ _ hP hD hS _ (lv_sub hl [0, 1] rfl)
      have hB100 : ∀ (u_s : (Nat → Int32)) (y2 : Int32) (w0 : Int32), fX7_goesOn_b100 n (M_isHeld, M_taped, M_token, M_from, M_to, M_value, M_isWrong, M_rowN, M_ran, M_actKind, M_actN, M_actA, M_isParted) k80 u_s y2 w0 = some z → ∀ (H : Heap) (locs : List Loc), va_P D vwCl [(am, .inr (7, [.ref am0, .ref am1, .ref am2, .ref am3, .int M_isHeld, .ref am4, .int M_taped, .int M_token, .int M_from, .int M_to, .int M_value, .int M_isWrong, .ref am5, .int M_rowN, .ref am6, .ref am7, .ref am8, .ref am9, .ref am10, .ref am11, .ref am12, .int M_ran, .int M_actKind, .int M_actN, .int M_actA, .int M_isParted])), (am0, .inl (cy 0, 48, .inl u_s))] H → va_D A [(am, .inr (7, [.ref am0, .ref am1, .ref am2, .ref am3, .int M_isHeld, .ref am4, .int M_taped, .int M_token, .int M_from, .int M_to, .int M_value, .int M_isWrong, .ref am5, .int M_rowN, .ref am6, .ref am7, .ref am8, .ref am9, .ref am10, .ref am11, .ref am12, .int M_ran, .int M_actKind, .int M_actN, .int M_actA, .int M_isParted])), (am0, .inl (cy 0, 48, .inl u_s))] → va_S A s.heap H locs → ∀ (ls : Array Slot), lv_has ls 3 [(0, .ref am), (2, .int y2)] → W p l e (headSpec wsX7_goesOn ({ frames := 3, cells := 0, slots := 0, locals := 66 })).room s m ([.ref am] : List Value).toArray below meth c H locs 0 0 (MQ below (Qw (none) D [(am, .inr (7, [.ref am0, .ref am1, .ref am2, .ref am3, .int M_isHeld, .ref am4, .int M_taped, .int M_token, .int M_from, .int M_to, .int M_value, .int M_isWrong, .ref am5, .int M_rowN, .ref am6, .ref am7, .ref am8, .ref am9, .ref am10, .ref am11, .ref am12, .int M_ran, .int M_actKind, .int M_actN, .int M_actA, .int M_isParted])), (am0, .inl (cy 0, 48, .inl z))] A) ([.ref am] : List Value).toArray s 0 0 A) (F0 m 100 ls [.int w0]) := by
        intro u_s y2 w0 hf H locs hP hD hS ls hl
        have hf : (if y2 < 0 then (fX7_goesOn_b110 n (M_isHeld, M_taped, M_token, M_from, M_to, M_value, M_isWrong, M_rowN, M_ran, M_actKind, M_actN, M_actA, M_isParted) k80 u_s w0) else ((fX7_tellsNext n (M_isHeld, M_taped, M_token, M_from, M_to, M_value, M_isWrong, M_rowN, M_ran, M_actKind, M_actN, M_actA, M_isParted) u_s y2).bind fun r107 => fX7_goesOn_b110 n (M_isHeld, M_taped, M_token, M_from, M_to, M_value, M_isWrong, M_rowN, M_ran, M_actKind, M_actN, M_actA, M_isParted) k80 r107 w0)) = some z := hf
        refine lv_istore_n (lv' := [(1, .int w0), (0, .ref am), (2, .int y2)]) hx hb dX7_goesOn_100 rfl hl (by decide) rfl (fun ls hl => ?_)
        refine lv_iload_n hx hb dX7_goesOn_101 rfl (lv_at hl 2 rfl) ?_
        refine lv_if_lt (tgt := 110) hx hb dX7_goesOn_102 (by decide) (fun c_102 => ?_) (fun c_102 => ?_)
        · have hf := zp hf c_102
          exact hB110 u_s w0 hf _ _ hP hD hS _ (lv_sub hl [1, 0] rfl)
        · have hf := zn hf c_102
          refine lv_aload_n hx hb dX7_goesOn_105 rfl (lv_at hl 1 rfl) ?_
          refine lv_iload_n hx hb dX7_goesOn_106 rfl (lv_at hl 2 rfl) ?_
          obtain ⟨r107, hc107, hf⟩ := zb hf
          refine zvw (o := none) (As := [.int y2]) (rest := []) (stk := []) ⟨hx, hb, hml, hown, hts⟩ (mX7_tellsNext l D cy st sk sv B am am0 am1 am2 am3 am4 am5 am6 am7 am8 am9 am10 am11 am12 _ n M_isHeld M_taped M_token M_from M_to M_value M_isWrong M_rowN M_ran M_actKind M_actN M_actA M_isParted u_s y2 r107 hc107) (cwV 1 hts gX7_goesOn_X7_tellsNext rfl rfl rfl (by decide +kernel) ⟨Nat.le_of_ble_eq_true rfl, Nat.le_of_ble_eq_true rfl⟩) hG hS hAB hA hP hD [0, 1] (by decide) rfl rfl rfl rfl 0 7 rfl rfl rfl rfl hl.1 rfl (Nat.le_of_ble_eq_true rfl) dX7_goesOn_107 rfl (fun H locs hP hD hS => ?_)
          have hP : va_P D vwCl [(am, .inr (7, [.ref am0, .ref am1, .ref am2, .ref am3, .int M_isHeld, .ref am4, .int M_taped, .int M_token, .int M_from, .int M_to, .int M_value, .int M_isWrong, .ref am5, .int M_rowN, .ref am6, .ref am7, .ref am8, .ref am9, .ref am10, .ref am11, .ref am12, .int M_ran, .int M_actKind, .int M_actN, .int M_actA, .int M_isParted])), (am0, .inl (cy 0, 48, .inl r107))] H := hP
          have hD : va_D A [(am, .inr (7, [.ref am0, .ref am1, .ref am2, .ref am3, .int M_isHeld, .ref am4, .int M_taped, .int M_token, .int M_from, .int M_to, .int M_value, .int M_isWrong, .ref am5, .int M_rowN, .ref am6, .ref am7, .ref am8, .ref am9, .ref am10, .ref am11, .ref am12, .int M_ran, .int M_actKind, .int M_actN, .int M_actA, .int M_isParted])), (am0, .inl (cy 0, 48, .inl r107))] := hD
          exact hB110 r107 w0 hf _ _ hP hD hS _ (lv_sub hl [1, 0] rfl)
      have hstep : ∀ (u_s : (Nat → Int32)) (y1 : Int32), fX7_goesOn_F80 n (M_isHeld, M_taped, M_token, M_from, M_to, M_value, M_isWrong, M_rowN, M_ran, M_actKind, M_actN, M_actA, M_isParted)  k80 (u_s, y1) = some z → ∀ (H : Heap) (locs : List Loc), va_P D vwCl [(am, .inr (7, [.ref am0, .ref am1, .ref am2, .ref am3, .int M_isHeld, .ref am4, .int M_taped, .int M_token, .int M_from, .int M_to, .int M_value, .int M_isWrong, .ref am5, .int M_rowN, .ref am6, .ref am7, .ref am8, .ref am9, .ref am10, .ref am11, .ref am12, .int M_ran, .int M_actKind, .int M_actN, .int M_actA, .int M_isParted])), (am0, .inl (cy 0, 48, .inl u_s))] H → va_D A [(am, .inr (7, [.ref am0, .ref am1, .ref am2, .ref am3, .int M_isHeld, .ref am4, .int M_taped, .int M_token, .int M_from, .int M_to, .int M_value, .int M_isWrong, .ref am5, .int M_rowN, .ref am6, .ref am7, .ref am8, .ref am9, .ref am10, .ref am11, .ref am12, .int M_ran, .int M_actKind, .int M_actN, .int M_actA, .int M_isParted])), (am0, .inl (cy 0, 48, .inl u_s))] → va_S A s.heap H locs → ∀ (ls : Array Slot), lv_has ls 3 [(0, .ref am), (1, .int y1)] → W p l e (headSpec wsX7_goesOn ({ frames := 3, cells := 0, slots := 0, locals := 66 })).room s m ([.ref am] : List Value).toArray below meth c H locs 0 0 (MQ below (Qw (none) D [(am, .inr (7, [.ref am0, .ref am1, .ref am2, .ref am3, .int M_isHeld, .ref am4, .int M_taped, .int M_token, .int M_from, .int M_to, .int M_value, .int M_isWrong, .ref am5, .int M_rowN, .ref am6, .ref am7, .ref am8, .ref am9, .ref am10, .ref am11, .ref am12, .int M_ran, .int M_actKind, .int M_actN, .int M_actA, .int M_isParted])), (am0, .inl (cy 0, 48, .inl z))] A) ([.ref am] : List Value).toArray s 0 0 A) (F0 m 80 ls []) := by
        intro u_s y1 hf H locs hP hD hS ls hl
        have hf : (if y1 ≤ 0 then (lpF (fX7_goesOn_F115 n (M_isHeld, M_taped, M_token, M_from, M_to, M_value, M_isWrong, M_rowN, M_ran, M_actKind, M_actN, M_actA, M_isParted) ) n (u_s, (0 : Int32))) else ((fX7_teller n (M_isHeld, M_taped, M_token, M_from, M_to, M_value, M_isWrong, M_rowN, M_ran, M_actKind, M_actN, M_actA, M_isParted) u_s).bind fun r85 => if 0 ≤ r85 then (fX7_goesOn_b100 n (M_isHeld, M_taped, M_token, M_from, M_to, M_value, M_isWrong, M_rowN, M_ran, M_actKind, M_actN, M_actA, M_isParted) k80 u_s r85 (y1 - (1 : Int32))) else (fX7_goesOn_b100 n (M_isHeld, M_taped, M_token, M_from, M_to, M_value, M_isWrong, M_rowN, M_ran, M_actKind, M_actN, M_actA, M_isParted) k80 u_s r85 (0 : Int32)))) = some z := hf
        refine lv_iload_n hx hb dX7_goesOn_80 rfl (lv_at hl 1 rfl) ?_
        refine lv_if_le (tgt := 113) hx hb dX7_goesOn_81 (by decide) (fun c_81 => ?_) (fun c_81 => ?_)
        · have hf := zp hf c_81
          refine lv_iconst (v := (0 : Int32)) hx hb dX7_goesOn_113 (by decide) ?_
          refine lv_istore_n (lv' := [(2, .int (0 : Int32)), (0, .ref am), (1, .int y1)]) hx hb dX7_goesOn_114 rfl hl (by decide) rfl (fun ls hl => ?_)
          exact hL115 n u_s (0 : Int32) hf _ _ hP hD hS _ (lv_sub hl [1, 0] rfl)
        · have hf := zn hf c_81
          refine lv_aload_n hx hb dX7_goesOn_84 rfl (lv_at hl 0 rfl) ?_
          obtain ⟨r85, hc85, hf⟩ := zb hf
          refine zvr (o := some (.int r85)) (As := []) (rest := []) (stk := [.int r85]) ⟨hx, hb, hml, hown, hts⟩ (mX7_teller l D cy st sk sv B am am0 am1 am2 am3 am4 am5 am6 am7 am8 am9 am10 am11 am12 n M_isHeld M_taped M_token M_from M_to M_value M_isWrong M_rowN M_ran M_actKind M_actN M_actA M_isParted u_s r85 hc85) (cwV 0 hts gX7_goesOn_X7_teller rfl rfl rfl (by decide +kernel) ⟨Nat.le_of_ble_eq_true rfl, Nat.le_of_ble_eq_true rfl⟩) hG hS hAB hP [0, 1] rfl 0 7 rfl rfl rfl rfl hl.1 rfl (Nat.le_of_ble_eq_true rfl) dX7_goesOn_85 rfl ?_
          refine lv_istore_n (lv' := [(2, .int r85), (0, .ref am), (1, .int y1)]) hx hb dX7_goesOn_88 rfl hl (by decide) rfl (fun ls hl => ?_)
          refine lv_iload_n hx hb dX7_goesOn_89 rfl (lv_at hl 0 rfl) ?_
          refine lv_if_ge (tgt := 97) hx hb dX7_goesOn_90 (by decide) (fun c_90 => ?_) (fun c_90 => ?_)
          · have hf := zp hf c_90
            refine lv_iload_n hx hb dX7_goesOn_97 rfl (lv_at hl 2 rfl) ?_
            refine lv_iconst (v := (1 : Int32)) hx hb dX7_goesOn_98 (by decide) ?_
            refine lv_isub hx hb dX7_goesOn_99 ?_
            exact hB100 u_s r85 (y1 - (1 : Int32)) hf _ _ hP hD hS _ (lv_sub hl [1, 0] rfl)
          · have hf := zn hf c_90
            refine lv_iconst (v := (0 : Int32)) hx hb dX7_goesOn_93 (by decide) ?_
            refine lv_goto (tgt := 100) hx hb dX7_goesOn_94 (by decide) ?_
            exact hB100 u_s r85 (0 : Int32) hf _ _ hP hD hS _ (lv_sub hl [1, 0] rfl)
      exact fun v80 h9 => hstep v80.1 v80.2 h9
    exact fun n0 u_s y1 h9 => key n0 (u_s, y1) h9
  have hL2 : ∀ (n0 : Nat) (u_s : (Nat → Int32)) (y1 : Int32), lpF (fX7_goesOn_F2 n (M_isHeld, M_taped, M_token, M_from, M_to, M_value, M_isWrong, M_rowN, M_ran, M_actKind, M_actN, M_actA, M_isParted) ) n0 (u_s, y1) = some z → ∀ (H : Heap) (locs : List Loc), va_P D vwCl [(am, .inr (7, [.ref am0, .ref am1, .ref am2, .ref am3, .int M_isHeld, .ref am4, .int M_taped, .int M_token, .int M_from, .int M_to, .int M_value, .int M_isWrong, .ref am5, .int M_rowN, .ref am6, .ref am7, .ref am8, .ref am9, .ref am10, .ref am11, .ref am12, .int M_ran, .int M_actKind, .int M_actN, .int M_actA, .int M_isParted])), (am0, .inl (cy 0, 48, .inl u_s))] H → va_D A [(am, .inr (7, [.ref am0, .ref am1, .ref am2, .ref am3, .int M_isHeld, .ref am4, .int M_taped, .int M_token, .int M_from, .int M_to, .int M_value, .int M_isWrong, .ref am5, .int M_rowN, .ref am6, .ref am7, .ref am8, .ref am9, .ref am10, .ref am11, .ref am12, .int M_ran, .int M_actKind, .int M_actN, .int M_actA, .int M_isParted])), (am0, .inl (cy 0, 48, .inl u_s))] → va_S A s.heap H locs → ∀ (ls : Array Slot), lv_has ls 3 [(0, .ref am), (1, .int y1)] → W p l e (headSpec wsX7_goesOn ({ frames := 3, cells := 0, slots := 0, locals := 66 })).room s m ([.ref am] : List Value).toArray below meth c H locs 0 0 (MQ below (Qw (none) D [(am, .inr (7, [.ref am0, .ref am1, .ref am2, .ref am3, .int M_isHeld, .ref am4, .int M_taped, .int M_token, .int M_from, .int M_to, .int M_value, .int M_isWrong, .ref am5, .int M_rowN, .ref am6, .ref am7, .ref am8, .ref am9, .ref am10, .ref am11, .ref am12, .int M_ran, .int M_actKind, .int M_actN, .int M_actA, .int M_isParted])), (am0, .inl (cy 0, 48, .inl z))] A) ([.ref am] : List Value).toArray s 0 0 A) (F0 m 2 ls []) := by
    have key : ∀ (n0 : Nat) (v2 : (Nat → Int32) × Int32), lpF (fX7_goesOn_F2 n (M_isHeld, M_taped, M_token, M_from, M_to, M_value, M_isWrong, M_rowN, M_ran, M_actKind, M_actN, M_actA, M_isParted) ) n0 v2 = some z → ∀ (H : Heap) (locs : List Loc), va_P D vwCl [(am, .inr (7, [.ref am0, .ref am1, .ref am2, .ref am3, .int M_isHeld, .ref am4, .int M_taped, .int M_token, .int M_from, .int M_to, .int M_value, .int M_isWrong, .ref am5, .int M_rowN, .ref am6, .ref am7, .ref am8, .ref am9, .ref am10, .ref am11, .ref am12, .int M_ran, .int M_actKind, .int M_actN, .int M_actA, .int M_isParted])), (am0, .inl (cy 0, 48, .inl v2.1))] H → va_D A [(am, .inr (7, [.ref am0, .ref am1, .ref am2, .ref am3, .int M_isHeld, .ref am4, .int M_taped, .int M_token, .int M_from, .int M_to, .int M_value, .int M_isWrong, .ref am5, .int M_rowN, .ref am6, .ref am7, .ref am8, .ref am9, .ref am10, .ref am11, .ref am12, .int M_ran, .int M_actKind, .int M_actN, .int M_actA, .int M_isParted])), (am0, .inl (cy 0, 48, .inl v2.1))] → va_S A s.heap H locs → ∀ (ls : Array Slot), lv_has ls 3 [(0, .ref am), (1, .int v2.2)] → W p l e (headSpec wsX7_goesOn ({ frames := 3, cells := 0, slots := 0, locals := 66 })).room s m ([.ref am] : List Value).toArray below meth c H locs 0 0 (MQ below (Qw (none) D [(am, .inr (7, [.ref am0, .ref am1, .ref am2, .ref am3, .int M_isHeld, .ref am4, .int M_taped, .int M_token, .int M_from, .int M_to, .int M_value, .int M_isWrong, .ref am5, .int M_rowN, .ref am6, .ref am7, .ref am8, .ref am9, .ref am10, .ref am11, .ref am12, .int M_ran, .int M_actKind, .int M_actN, .int M_actA, .int M_isParted])), (am0, .inl (cy 0, 48, .inl z))] A) ([.ref am] : List Value).toArray s 0 0 A) (F0 m 2 ls []) := by
      refine lpW ?_
      intro k2 hk20
      have hk2 : ∀ (u_s : (Nat → Int32)) (y1 : Int32), k2 (u_s, y1) = some z → ∀ (H : Heap) (locs : List Loc), va_P D vwCl [(am, .inr (7, [.ref am0, .ref am1, .ref am2, .ref am3, .int M_isHeld, .ref am4, .int M_taped, .int M_token, .int M_from, .int M_to, .int M_value, .int M_isWrong, .ref am5, .int M_rowN, .ref am6, .ref am7, .ref am8, .ref am9, .ref am10, .ref am11, .ref am12, .int M_ran, .int M_actKind, .int M_actN, .int M_actA, .int M_isParted])), (am0, .inl (cy 0, 48, .inl u_s))] H → va_D A [(am, .inr (7, [.ref am0, .ref am1, .ref am2, .ref am3, .int M_isHeld, .ref am4, .int M_taped, .int M_token, .int M_from, .int M_to, .int M_value, .int M_isWrong, .ref am5, .int M_rowN, .ref am6, .ref am7, .ref am8, .ref am9, .ref am10, .ref am11, .ref am12, .int M_ran, .int M_actKind, .int M_actN, .int M_actA, .int M_isParted])), (am0, .inl (cy 0, 48, .inl u_s))] → va_S A s.heap H locs → ∀ (ls : Array Slot), lv_has ls 3 [(0, .ref am), (1, .int y1)] → W p l e (headSpec wsX7_goesOn ({ frames := 3, cells := 0, slots := 0, locals := 66 })).room s m ([.ref am] : List Value).toArray below meth c H locs 0 0 (MQ below (Qw (none) D [(am, .inr (7, [.ref am0, .ref am1, .ref am2, .ref am3, .int M_isHeld, .ref am4, .int M_taped, .int M_token, .int M_from, .int M_to, .int M_value, .int M_isWrong, .ref am5, .int M_rowN, .ref am6, .ref am7, .ref am8, .ref am9, .ref am10, .ref am11, .ref am12, .int M_ran, .int M_actKind, .int M_actN, .int M_actA, .int M_isParted])), (am0, .inl (cy 0, 48, .inl z))] A) ([.ref am] : List Value).toArray s 0 0 A) (F0 m 2 ls []) := fun u_s y1 h9 => hk20 (u_s, y1) h9
      have hB66 : ∀ (u_s : (Nat → Int32)) (y1 : Int32) (w1 : Int32) (w2 : Int32), fX7_goesOn_b66 n (M_isHeld, M_taped, M_token, M_from, M_to, M_value, M_isWrong, M_rowN, M_ran, M_actKind, M_actN, M_actA, M_isParted) k2 u_s y1 w1 w2 = some z → ∀ (H : Heap) (locs : List Loc), va_P D vwCl [(am, .inr (7, [.ref am0, .ref am1, .ref am2, .ref am3, .int M_isHeld, .ref am4, .int M_taped, .int M_token, .int M_from, .int M_to, .int M_value, .int M_isWrong, .ref am5, .int M_rowN, .ref am6, .ref am7, .ref am8, .ref am9, .ref am10, .ref am11, .ref am12, .int M_ran, .int M_actKind, .int M_actN, .int M_actA, .int M_isParted])), (am0, .inl (cy 0, 48, .inl u_s))] H → va_D A [(am, .inr (7, [.ref am0, .ref am1, .ref am2, .ref am3, .int M_isHeld, .ref am4, .int M_taped, .int M_token, .int M_from, .int M_to, .int M_value, .int M_isWrong, .ref am5, .int M_rowN, .ref am6, .ref am7, .ref am8, .ref am9, .ref am10, .ref am11, .ref am12, .int M_ran, .int M_actKind, .int M_actN, .int M_actA, .int M_isParted])), (am0, .inl (cy 0, 48, .inl u_s))] → va_S A s.heap H locs → ∀ (ls : Array Slot), lv_has ls 3 [(0, .ref am), (1, .int y1)] → W p l e (headSpec wsX7_goesOn ({ frames := 3, cells := 0, slots := 0, locals := 66 })).room s m ([.ref am] : List Value).toArray below meth c H locs 0 0 (MQ below (Qw (none) D [(am, .inr (7, [.ref am0, .ref am1, .ref am2, .ref am3, .int M_isHeld, .ref am4, .int M_taped, .int M_token, .int M_from, .int M_to, .int M_value, .int M_isWrong, .ref am5, .int M_rowN, .ref am6, .ref am7, .ref am8, .ref am9, .ref am10, .ref am11, .ref am12, .int M_ran, .int M_actKind, .int M_actN, .int M_actA, .int M_isParted])), (am0, .inl (cy 0, 48, .inl z))] A) ([.ref am] : List Value).toArray s 0 0 A) (F0 m 66 ls [.int w2, .int w1, .ref am0]) := by
        intro u_s y1 w1 w2 hf H locs hP hD hS ls hl
        have hf : (if w1 < 0 ∨ 48 ≤ w1.toNatClampNeg then none else k2 ((upd u_s w1.toNatClampNeg w2), (y1 + (1 : Int32)))) = some z := hf
        obtain ⟨h_66, hf⟩ := zg hf
        refine va_iast hx hb hK hP hD hS 1 0 rfl rfl h_66 dX7_goesOn_66 (fun H locs hP hD hS => ?_)
        have hP : va_P D vwCl [(am, .inr (7, [.ref am0, .ref am1, .ref am2, .ref am3, .int M_isHeld, .ref am4, .int M_taped, .int M_token, .int M_from, .int M_to, .int M_value, .int M_isWrong, .ref am5, .int M_rowN, .ref am6, .ref am7, .ref am8, .ref am9, .ref am10, .ref am11, .ref am12, .int M_ran, .int M_actKind, .int M_actN, .int M_actA, .int M_isParted])), (am0, .inl (cy 0, 48, .inl (upd u_s w1.toNatClampNeg w2)))] H := hP
        have hD : va_D A [(am, .inr (7, [.ref am0, .ref am1, .ref am2, .ref am3, .int M_isHeld, .ref am4, .int M_taped, .int M_token, .int M_from, .int M_to, .int M_value, .int M_isWrong, .ref am5, .int M_rowN, .ref am6, .ref am7, .ref am8, .ref am9, .ref am10, .ref am11, .ref am12, .int M_ran, .int M_actKind, .int M_actN, .int M_actA, .int M_isParted])), (am0, .inl (cy 0, 48, .inl (upd u_s w1.toNatClampNeg w2)))] := hD
        refine lv_iinc (v := (y1 + (1 : Int32))) (lv' := [(1, .int (y1 + (1 : Int32))), (0, .ref am)]) hx hb dX7_goesOn_67 hl (k := 1) rfl rfl (by decide) rfl (fun ls hl => ?_)
        refine lv_goto (tgt := 2) hx hb dX7_goesOn_70 (by decide) ?_
        exact hk2 (upd u_s w1.toNatClampNeg w2) (y1 + (1 : Int32)) hf _ _ hP hD hS _ (lv_sub hl [1, 0] rfl)
      have hstep : ∀ (u_s : (Nat → Int32)) (y1 : Int32), fX7_goesOn_F2 n (M_isHeld, M_taped, M_token, M_from, M_to, M_value, M_isWrong, M_rowN, M_ran, M_actKind, M_actN, M_actA, M_isParted)  k2 (u_s, y1) = some z → ∀ (H : Heap) (locs : List Loc), va_P D vwCl [(am, .inr (7, [.ref am0, .ref am1, .ref am2, .ref am3, .int M_isHeld, .ref am4, .int M_taped, .int M_token, .int M_from, .int M_to, .int M_value, .int M_isWrong, .ref am5, .int M_rowN, .ref am6, .ref am7, .ref am8, .ref am9, .ref am10, .ref am11, .ref am12, .int M_ran, .int M_actKind, .int M_actN, .int M_actA, .int M_isParted])), (am0, .inl (cy 0, 48, .inl u_s))] H → va_D A [(am, .inr (7, [.ref am0, .ref am1, .ref am2, .ref am3, .int M_isHeld, .ref am4, .int M_taped, .int M_token, .int M_from, .int M_to, .int M_value, .int M_isWrong, .ref am5, .int M_rowN, .ref am6, .ref am7, .ref am8, .ref am9, .ref am10, .ref am11, .ref am12, .int M_ran, .int M_actKind, .int M_actN, .int M_actA, .int M_isParted])), (am0, .inl (cy 0, 48, .inl u_s))] → va_S A s.heap H locs → ∀ (ls : Array Slot), lv_has ls 3 [(0, .ref am), (1, .int y1)] → W p l e (headSpec wsX7_goesOn ({ frames := 3, cells := 0, slots := 0, locals := 66 })).room s m ([.ref am] : List Value).toArray below meth c H locs 0 0 (MQ below (Qw (none) D [(am, .inr (7, [.ref am0, .ref am1, .ref am2, .ref am3, .int M_isHeld, .ref am4, .int M_taped, .int M_token, .int M_from, .int M_to, .int M_value, .int M_isWrong, .ref am5, .int M_rowN, .ref am6, .ref am7, .ref am8, .ref am9, .ref am10, .ref am11, .ref am12, .int M_ran, .int M_actKind, .int M_actN, .int M_actA, .int M_isParted])), (am0, .inl (cy 0, 48, .inl z))] A) ([.ref am] : List Value).toArray s 0 0 A) (F0 m 2 ls []) := by
        intro u_s y1 hf H locs hP hD hS ls hl
        have hf : (if (u_s (0 : Int32).toNatClampNeg) ≤ y1 then (lpF (fX7_goesOn_F80 n (M_isHeld, M_taped, M_token, M_from, M_to, M_value, M_isWrong, M_rowN, M_ran, M_actKind, M_actN, M_actA, M_isParted) ) n (u_s, (u_s (4 : Int32).toNatClampNeg))) else (if (((8 : Int32) + ((5 : Int32) * y1)) + (4 : Int32)) < 0 ∨ 48 ≤ (((8 : Int32) + ((5 : Int32) * y1)) + (4 : Int32)).toNatClampNeg then none else if (u_s (((8 : Int32) + ((5 : Int32) * y1)) + (4 : Int32)).toNatClampNeg) = (1 : Int32) then (if (((8 : Int32) + ((5 : Int32) * y1)) + (2 : Int32)) < 0 ∨ 48 ≤ (((8 : Int32) + ((5 : Int32) * y1)) + (2 : Int32)).toNatClampNeg then none else fX7_goesOn_b66 n (M_isHeld, M_taped, M_token, M_from, M_to, M_value, M_isWrong, M_rowN, M_ran, M_actKind, M_actN, M_actA, M_isParted) k2 u_s y1 (((8 : Int32) + ((5 : Int32) * y1)) + (2 : Int32)) (u_s (((8 : Int32) + ((5 : Int32) * y1)) + (2 : Int32)).toNatClampNeg)) else (if (((8 : Int32) + ((5 : Int32) * y1)) + (2 : Int32)) < 0 ∨ 48 ≤ (((8 : Int32) + ((5 : Int32) * y1)) + (2 : Int32)).toNatClampNeg then none else (fX7_takes n (M_isHeld, M_taped, M_token, M_from, M_to, M_value, M_isWrong, M_rowN, M_ran, M_actKind, M_actN, M_actA, M_isParted) u_s y1).bind fun r59 => (fX7_within n ((u_s (((8 : Int32) + ((5 : Int32) * y1)) + (2 : Int32)).toNatClampNeg) + r59)).bind fun r63 => fX7_goesOn_b66 n (M_isHeld, M_taped, M_token, M_from, M_to, M_value, M_isWrong, M_rowN, M_ran, M_actKind, M_actN, M_actA, M_isParted) k2 u_s y1 (((8 : Int32) + ((5 : Int32) * y1)) + (2 : Int32)) r63))) = some z := hf
        refine lv_iload_n hx hb dX7_goesOn_2 rfl (lv_at hl 1 rfl) ?_
        refine lv_aload_n hx hb dX7_goesOn_3 rfl (lv_at hl 0 rfl) ?_
        refine va_get (D := D) (ci := 7) (v := .ref am0) (C := RX7) (T := TX7) (N := 26) hx hb hts hin7 hown hK hP 0 rfl rfl 0 (by decide) fl7 (fun _ h9 => h9) rfl dX7_goesOn_4 ?_
        refine lv_iconst (v := (0 : Int32)) hx hb dX7_goesOn_7 (by decide) ?_
        refine va_iald hx hb hK hP 1 0 rfl rfl vi_0_48 dX7_goesOn_8 ?_
        refine lv_icmp_ge (tgt := 73) hx hb dX7_goesOn_9 (by decide) (fun c_9 => ?_) (fun c_9 => ?_)
        · have hf := zp hf c_9
          refine lv_aload_n hx hb dX7_goesOn_73 rfl (lv_at hl 0 rfl) ?_
          refine va_get (D := D) (ci := 7) (v := .ref am0) (C := RX7) (T := TX7) (N := 26) hx hb hts hin7 hown hK hP 0 rfl rfl 0 (by decide) fl7 (fun _ h9 => h9) rfl dX7_goesOn_74 ?_
          refine lv_iconst (v := (4 : Int32)) hx hb dX7_goesOn_77 (by decide) ?_
          refine va_iald hx hb hK hP 1 0 rfl rfl vi_4_48 dX7_goesOn_78 ?_
          refine lv_istore_n (lv' := [(1, .int (u_s (4 : Int32).toNatClampNeg)), (0, .ref am)]) hx hb dX7_goesOn_79 rfl hl (by decide) rfl (fun ls hl => ?_)
          exact hL80 n u_s (u_s (4 : Int32).toNatClampNeg) hf _ _ hP hD hS _ (lv_sub hl [1, 0] rfl)
        · have hf := zn hf c_9
          refine lv_bipush (v := (8 : Int32)) hx hb dX7_goesOn_12 (by decide) ?_
          refine lv_iconst (v := (5 : Int32)) hx hb dX7_goesOn_14 (by decide) ?_
          refine lv_iload_n hx hb dX7_goesOn_15 rfl (lv_at hl 1 rfl) ?_
          refine lv_imul hx hb dX7_goesOn_16 ?_
          refine lv_iadd hx hb dX7_goesOn_17 ?_
          refine lv_istore_n (lv' := [(2, .int ((8 : Int32) + ((5 : Int32) * y1))), (0, .ref am), (1, .int y1)]) hx hb dX7_goesOn_18 rfl hl (by decide) rfl (fun ls hl => ?_)
          refine lv_aload_n hx hb dX7_goesOn_19 rfl (lv_at hl 1 rfl) ?_
          refine va_get (D := D) (ci := 7) (v := .ref am0) (C := RX7) (T := TX7) (N := 26) hx hb hts hin7 hown hK hP 0 rfl rfl 0 (by decide) fl7 (fun _ h9 => h9) rfl dX7_goesOn_20 ?_
          refine lv_iload_n hx hb dX7_goesOn_23 rfl (lv_at hl 0 rfl) ?_
          refine lv_iconst (v := (2 : Int32)) hx hb dX7_goesOn_24 (by decide) ?_
          refine lv_iadd hx hb dX7_goesOn_25 ?_
          refine lv_aload_n hx hb dX7_goesOn_26 rfl (lv_at hl 1 rfl) ?_
          refine va_get (D := D) (ci := 7) (v := .ref am0) (C := RX7) (T := TX7) (N := 26) hx hb hts hin7 hown hK hP 0 rfl rfl 0 (by decide) fl7 (fun _ h9 => h9) rfl dX7_goesOn_27 ?_
          refine lv_iload_n hx hb dX7_goesOn_30 rfl (lv_at hl 0 rfl) ?_
          refine lv_iconst (v := (4 : Int32)) hx hb dX7_goesOn_31 (by decide) ?_
          refine lv_iadd hx hb dX7_goesOn_32 ?_
          obtain ⟨h_33, hf⟩ := zg hf
          refine va_iald hx hb hK hP 1 0 rfl rfl h_33 dX7_goesOn_33 ?_
          refine lv_iconst (v := (1 : Int32)) hx hb dX7_goesOn_34 (by decide) ?_
          refine lv_icmp_ne (tgt := 49) hx hb dX7_goesOn_35 (by decide) (fun c_35 => ?_) (fun c_35 => ?_)
          · have hf := zn hf c_35
            refine lv_aload_n hx hb dX7_goesOn_49 rfl (lv_at hl 1 rfl) ?_
            refine va_get (D := D) (ci := 7) (v := .ref am0) (C := RX7) (T := TX7) (N := 26) hx hb hts hin7 hown hK hP 0 rfl rfl 0 (by decide) fl7 (fun _ h9 => h9) rfl dX7_goesOn_50 ?_
            refine lv_iload_n hx hb dX7_goesOn_53 rfl (lv_at hl 0 rfl) ?_
            refine lv_iconst (v := (2 : Int32)) hx hb dX7_goesOn_54 (by decide) ?_
            refine lv_iadd hx hb dX7_goesOn_55 ?_
            obtain ⟨h_56, hf⟩ := zg hf
            refine va_iald hx hb hK hP 1 0 rfl rfl h_56 dX7_goesOn_56 ?_
            refine lv_aload_n hx hb dX7_goesOn_57 rfl (lv_at hl 1 rfl) ?_
            refine lv_iload_n hx hb dX7_goesOn_58 rfl (lv_at hl 2 rfl) ?_
            obtain ⟨r59, hc59, hf⟩ := zb hf
            refine zvr (o := some (.int r59)) (As := [.int y1]) (rest := [.int (u_s (((8 : Int32) + ((5 : Int32) * y1)) + (2 : Int32)).toNatClampNeg), .int (((8 : Int32) + ((5 : Int32) * y1)) + (2 : Int32)), .ref am0]) (stk := [.int r59, .int (u_s (((8 : Int32) + ((5 : Int32) * y1)) + (2 : Int32)).toNatClampNeg), .int (((8 : Int32) + ((5 : Int32) * y1)) + (2 : Int32)), .ref am0]) ⟨hx, hb, hml, hown, hts⟩ (mX7_takes l D cy st sk sv B am am0 am1 am2 am3 am4 am5 am6 am7 am8 am9 am10 am11 am12 n M_isHeld M_taped M_token M_from M_to M_value M_isWrong M_rowN M_ran M_actKind M_actN M_actA M_isParted u_s y1 r59 hc59) (cwV 1 hts gX7_goesOn_X7_takes rfl rfl rfl (by decide +kernel) ⟨Nat.le_of_ble_eq_true rfl, Nat.le_of_ble_eq_true rfl⟩) hG hS hAB hP [0, 1] rfl 0 7 rfl rfl rfl rfl hl.1 rfl (Nat.le_of_ble_eq_true rfl) dX7_goesOn_59 rfl ?_
            refine lv_iadd hx hb dX7_goesOn_62 ?_
            obtain ⟨r63, hc63, hf⟩ := zb hf
            refine zsr (o := some (.int r63)) (As := [.int ((u_s (((8 : Int32) + ((5 : Int32) * y1)) + (2 : Int32)).toNatClampNeg) + r59)]) (rest := [.int (((8 : Int32) + ((5 : Int32) * y1)) + (2 : Int32)), .ref am0]) (stk := [.int r63, .int (((8 : Int32) + ((5 : Int32) * y1)) + (2 : Int32)), .ref am0]) ⟨hx, hb, hml, hown, hts⟩ (mX7_within l D cy st sk sv B  n ((u_s (((8 : Int32) + ((5 : Int32) * y1)) + (2 : Int32)).toNatClampNeg) + r59) r63 hc63) (va_cwS 1 hts gX7_goesOn_X7_within rfl rfl rfl (by decide +kernel) ⟨Nat.le_of_ble_eq_true rfl, Nat.le_of_ble_eq_true rfl⟩) hG hS hAB hP [] rfl rfl hl.1 rfl (Nat.le_of_ble_eq_true rfl) dX7_goesOn_63 rfl ?_
            exact hB66 u_s y1 (((8 : Int32) + ((5 : Int32) * y1)) + (2 : Int32)) r63 hf _ _ hP hD hS _ (lv_sub hl [1, 2] rfl)
          · have hf := zp hf c_35
            refine lv_aload_n hx hb dX7_goesOn_38 rfl (lv_at hl 1 rfl) ?_
            refine va_get (D := D) (ci := 7) (v := .ref am0) (C := RX7) (T := TX7) (N := 26) hx hb hts hin7 hown hK hP 0 rfl rfl 0 (by decide) fl7 (fun _ h9 => h9) rfl dX7_goesOn_39 ?_
            refine lv_iload_n hx hb dX7_goesOn_42 rfl (lv_at hl 0 rfl) ?_
            refine lv_iconst (v := (2 : Int32)) hx hb dX7_goesOn_43 (by decide) ?_
            refine lv_iadd hx hb dX7_goesOn_44 ?_
            obtain ⟨h_45, hf⟩ := zg hf
            refine va_iald hx hb hK hP 1 0 rfl rfl h_45 dX7_goesOn_45 ?_
            refine lv_goto (tgt := 66) hx hb dX7_goesOn_46 (by decide) ?_
            exact hB66 u_s y1 (((8 : Int32) + ((5 : Int32) * y1)) + (2 : Int32)) (u_s (((8 : Int32) + ((5 : Int32) * y1)) + (2 : Int32)).toNatClampNeg) hf _ _ hP hD hS _ (lv_sub hl [1, 2] rfl)
      exact fun v2 h9 => hstep v2.1 v2.2 h9
    exact fun n0 u_s y1 h9 => key n0 (u_s, y1) h9
  have hl := lv_entry ([.ref am]) (n := 3) (Nat.le_of_ble_eq_true rfl)
  rw [lg_entry_eq]
  generalize (lg_sl ([.ref am]) ++ List.replicate (3 - (lg_sl ([.ref am])).length) Slot.unset).toArray = ls at hl ⊢
  have hl : lv_has ls 3 [(0, .ref am)] := hl
  have hf : (lpF (fX7_goesOn_F2 n (M_isHeld, M_taped, M_token, M_from, M_to, M_value, M_isWrong, M_rowN, M_ran, M_actKind, M_actN, M_actA, M_isParted) ) n (u_s, (0 : Int32))) = some z := hf
  refine lv_iconst (v := (0 : Int32)) hx hb dX7_goesOn_0 (by decide) ?_
  refine lv_istore_n (lv' := [(1, .int (0 : Int32)), (0, .ref am)]) hx hb dX7_goesOn_1 rfl hl (by decide) rfl (fun ls hl => ?_)
  exact hL2 n u_s (0 : Int32) hf _ _ hP hD hS _ (lv_sub hl [1, 0] rfl)
