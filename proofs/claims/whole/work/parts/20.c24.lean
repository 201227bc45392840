set_option maxRecDepth 100000 in
set_option maxHeartbeats 100000000 in
theorem mX7_row (l : Launch) (D : va_G) (cy : Nat → ClassId) (st sk sv : Nat → Nat) (B : Nat) (am : Nat) (am0 : Nat) (am1 : Nat) (am2 : Nat) (am3 : Nat) (am4 : Nat) (am5 : Nat) (am6 : Nat) (am7 : Nat) (am8 : Nat) (am9 : Nat) (am10 : Nat) (am11 : Nat) (am12 : Nat) (n : Nat) (M_isHeld : Int32) (M_taped : Int32) (M_token : Int32) (M_from : Int32) (M_to : Int32) (M_value : Int32) (M_isWrong : Int32) (M_rowN : Int32) (M_ran : Int32) (M_actKind : Int32) (M_actN : Int32) (M_actA : Int32) (M_isParted : Int32) (u_rows : (Nat → Int32)) (x1 : Int32) (x2 : Int32) (z : Int32) (hf : fX7_row n (M_isHeld, M_taped, M_token, M_from, M_to, M_value, M_isWrong, M_rowN, M_ran, M_actKind, M_actN, M_actA, M_isParted) u_rows x1 x2 = some z) : Met l yX7_row wsX7_row ({ frames := 2, cells := 0, slots := 0, locals := 47 }) (PcR [.ref am, .int x1, .int x2] D cy st sk sv B [(am, .inr (7, [.ref am0, .ref am1, .ref am2, .ref am3, .int M_isHeld, .ref am4, .int M_taped, .int M_token, .int M_from, .int M_to, .int M_value, .int M_isWrong, .ref am5, .int M_rowN, .ref am6, .ref am7, .ref am8, .ref am9, .ref am10, .ref am11, .ref am12, .int M_ran, .int M_actKind, .int M_actN, .int M_actA, .int M_isParted])), (am5, .inl (cy 0, 30, .inl u_rows))]) (Qr (some (.int z))) 0 0 (fun _ => False) := by
  refine Met.ofW (cc := cX7_row) (maxL := 3) (ret := (some .int)) (by decide) rfl ?_
  intro p e s m args below meth c s₁ Bd hml hv
  obtain ⟨rfl, hP, hG⟩ := hv
  have hx := Bd.exec
  have hb := Bd.bytes
  have hr := Bd.returns
  have hts := atoms_spec (ws := wsX7_row) Bd.pre
  have hown : s.vm.findClass RX7 = some m.cls := findClass_of_methodNamed Bd.named
  have hlocks := Bd.notSynchronized
  have hK := hG.1
  have hS : va_S (fun q => B ≤ q) s.heap s.heap [] := va_S.rf
  have hAB : ∀ q, (fun q => B ≤ q) q → B ≤ q := fun _ h => h
  have hin7 : ∀ w ∈ u_ws RX7 TX7 26, w ∈ wsX7_row := by decide +kernel
  have fl25 := hts (.fieldLink RX7 25 "KinCutleryModel" "rows" "[I") (by decide +kernel)
  have hl := lv_entry ([.ref am, .int x1, .int x2]) (n := 3) (Nat.le_of_ble_eq_true rfl)
  rw [lg_entry_eq]
  generalize (lg_sl ([.ref am, .int x1, .int x2]) ++ List.replicate (3 - (lg_sl ([.ref am, .int x1, .int x2])).length) Slot.unset).toArray = ls at hl ⊢
  have hl : lv_has ls 3 [(0, .ref am), (1, .int x1), (2, .int x2)] := hl
  have hf : ((fX7_isRow n (M_isHeld, M_taped, M_token, M_from, M_to, M_value, M_isWrong, M_rowN, M_ran, M_actKind, M_actN, M_actA, M_isParted) x1 x2).bind fun r3 => if r3 = 0 then (some (-9 : Int32)) else (if (((3 : Int32) * x1) + x2) < 0 ∨ 30 ≤ (((3 : Int32) * x1) + x2).toNatClampNeg then none else some (u_rows (((3 : Int32) * x1) + x2).toNatClampNeg))) = some z := hf
  refine lv_aload_n hx hb dX7_row_0 rfl (lv_at hl 0 rfl) ?_
  refine lv_iload_n hx hb dX7_row_1 rfl (lv_at hl 1 rfl) ?_
  refine lv_iload_n hx hb dX7_row_2 rfl (lv_at hl 2 rfl) ?_
  obtain ⟨r3, hc3, hf⟩ := zb hf
  refine zvr (o := some (.int r3)) (As := [.int x1, .int x2]) (rest := []) (stk := [.int r3]) ⟨hx, hb, hml, hown, hts⟩ (mX7_isRow l D cy st sk sv B am am0 am1 am2 am3 am4 am5 am6 am7 am8 am9 am10 am11 am12 n M_isHeld M_taped M_token M_from M_to M_value M_isWrong M_rowN M_ran M_actKind M_actN M_actA M_isParted x1 x2 r3 hc3) (cwV 2 hts gX7_row_X7_isRow rfl rfl rfl (by decide +kernel) ⟨Nat.le_of_ble_eq_true rfl, Nat.le_of_ble_eq_true rfl⟩) hG hS hAB hP [0] rfl 0 7 rfl rfl rfl rfl hl.1 rfl (Nat.le_of_ble_eq_true rfl) dX7_row_3 rfl ?_
  refine lv_if_eq (tgt := 22) hx hb dX7_row_6 (by decide) (fun c_6 => ?_) (fun c_6 => ?_)
  · have hf := zp hf c_6
    refine lv_bipush (v := (-9 : Int32)) hx hb dX7_row_22 (by decide) ?_
    cases hf
    exact W.iret hx hb hr (fun t ht hW => ⟨rfl, ht⟩) (fun q h => absurd h List.not_mem_nil) dX7_row_24
  · have hf := zn hf c_6
    refine lv_aload_n hx hb dX7_row_9 rfl (lv_at hl 0 rfl) ?_
    refine va_get (D := D) (ci := 7) (v := .ref am5) (C := RX7) (T := TX7) (N := 26) hx hb hts hin7 hown hK hP 0 rfl rfl 12 (by decide) fl25 (fun _ h9 => h9) rfl dX7_row_10 ?_
    refine lv_iconst (v := (3 : Int32)) hx hb dX7_row_13 (by decide) ?_
    refine lv_iload_n hx hb dX7_row_14 rfl (lv_at hl 1 rfl) ?_
    refine lv_imul hx hb dX7_row_15 ?_
    refine lv_iload_n hx hb dX7_row_16 rfl (lv_at hl 2 rfl) ?_
    refine lv_iadd hx hb dX7_row_17 ?_
    obtain ⟨h_18, hf⟩ := zg hf
    refine va_iald hx hb hK hP 1 0 rfl rfl h_18 dX7_row_18 ?_
    refine lv_goto (tgt := 24) hx hb dX7_row_19 (by decide) ?_
    cases hf
    exact W.iret hx hb hr (fun t ht hW => ⟨rfl, ht⟩) (fun q h => absurd h List.not_mem_nil) dX7_row_24
set_option maxRecDepth 100000 in
set_option maxHeartbeats 100000000 in
theorem mX7_alterRow (l : Launch) (D : va_G) (cy : Nat → ClassId) (st sk sv : Nat → Nat) (B : Nat) (am : Nat) (am0 : Nat) (am1 : Nat) (am2 : Nat) (am3 : Nat) (am4 : Nat) (am5 : Nat) (am6 : Nat) (am7 : Nat) (am8 : Nat) (am9 : Nat) (am10 : Nat) (am11 : Nat) (am12 : Nat) (sz : Nat) (n : Nat) (M_isHeld : Int32) (M_taped : Int32) (M_token : Int32) (M_from : Int32) (M_to : Int32) (M_value : Int32) (M_isWrong : Int32) (M_rowN : Int32) (M_ran : Int32) (M_actKind : Int32) (M_actN : Int32) (M_actA : Int32) (M_isParted : Int32) (u_rows : (Nat → Int32)) (x1 : Int32) (x2 : Int32) (x3 : Int32) (z : Int32 × (Nat → Int32)) (hf : fX7_alterRow n (M_isHeld, M_taped, M_token, M_from, M_to, M_value, M_isWrong, M_rowN, M_ran, M_actKind, M_actN, M_actA, M_isParted) u_rows x1 x2 x3 = some z) : Met l yX7_alterRow wsX7_alterRow ({ frames := 2, cells := 0, slots := 0, locals := 47 }) (PcW [.ref am, .int x1, .int x2, .int x3] D cy st sk sv B sz [(am, .inr (7, [.ref am0, .ref am1, .ref am2, .ref am3, .int M_isHeld, .ref am4, .int M_taped, .int M_token, .int M_from, .int M_to, .int M_value, .int M_isWrong, .ref am5, .int M_rowN, .ref am6, .ref am7, .ref am8, .ref am9, .ref am10, .ref am11, .ref am12, .int M_ran, .int M_actKind, .int M_actN, .int M_actA, .int M_isParted])), (am5, .inl (cy 0, 30, .inl u_rows))]) (Qw (some (.int z.1)) D [(am, .inr (7, [.ref am0, .ref am1, .ref am2, .ref am3, .int M_isHeld, .ref am4, .int M_taped, .int M_token, .int M_from, .int M_to, .int M_value, .int M_isWrong, .ref am5, .int M_rowN, .ref am6, .ref am7, .ref am8, .ref am9, .ref am10, .ref am11, .ref am12, .int M_ran, .int M_actKind, .int M_actN, .int M_actA, .int M_isParted])), (am5, .inl (cy 0, 30, .inl z.2))] (va_A [(am, .inr (7, [.ref am0, .ref am1, .ref am2, .ref am3, .int M_isHeld, .ref am4, .int M_taped, .int M_token, .int M_from, .int M_to, .int M_value, .int M_isWrong, .ref am5, .int M_rowN, .ref am6, .ref am7, .ref am8, .ref am9, .ref am10, .ref am11, .ref am12, .int M_ran, .int M_actKind, .int M_actN, .int M_actA, .int M_isParted])), (am5, .inl (cy 0, 30, .inl u_rows))] sz)) 0 0 (va_A [(am, .inr (7, [.ref am0, .ref am1, .ref am2, .ref am3, .int M_isHeld, .ref am4, .int M_taped, .int M_token, .int M_from, .int M_to, .int M_value, .int M_isWrong, .ref am5, .int M_rowN, .ref am6, .ref am7, .ref am8, .ref am9, .ref am10, .ref am11, .ref am12, .int M_ran, .int M_actKind, .int M_actN, .int M_actA, .int M_isParted])), (am5, .inl (cy 0, 30, .inl u_rows))] sz) := by
  refine Met.ofW (cc := cX7_alterRow) (maxL := 5) (ret := (some .int)) (by decide) rfl ?_
  intro p e s m args below meth c s₁ Bd hml hv
  obtain ⟨rfl, hsz, hP, hD0, hBs, hG⟩ := hv
  have hx := Bd.exec
  have hb := Bd.bytes
  have hr := Bd.returns
  have hts := atoms_spec (ws := wsX7_alterRow) Bd.pre
  have hown : s.vm.findClass RX7 = some m.cls := findClass_of_methodNamed Bd.named
  have hlocks := Bd.notSynchronized
  have hK := hG.1
  subst hsz
  have hD := hD0.self (sz := s.heap.size)
  have hAB0 := zA hD0 hBs
  generalize hAe : va_A [(am, .inr (7, [.ref am0, .ref am1, .ref am2, .ref am3, .int M_isHeld, .ref am4, .int M_taped, .int M_token, .int M_from, .int M_to, .int M_value, .int M_isWrong, .ref am5, .int M_rowN, .ref am6, .ref am7, .ref am8, .ref am9, .ref am10, .ref am11, .ref am12, .int M_ran, .int M_actKind, .int M_actN, .int M_actA, .int M_isParted])), (am5, .inl (cy 0, 30, .inl u_rows))] s.heap.size = A at hD hAB0 ⊢
  have hA : ∀ q : Nat, s.heap.size ≤ q → A q := fun q h => by rw [← hAe]; exact Or.inr h
  have hAB : ∀ q, A q → B ≤ q := hAB0
  have hS : va_S A s.heap s.heap [] := va_S.rf
  have hfin : ∀ (z0 : Int32) (u_rows : (Nat → Int32)), some (z0, u_rows) = some z → ∀ (H : Heap) (t : State), t.heap = H → va_P D vwCl [(am, .inr (7, [.ref am0, .ref am1, .ref am2, .ref am3, .int M_isHeld, .ref am4, .int M_taped, .int M_token, .int M_from, .int M_to, .int M_value, .int M_isWrong, .ref am5, .int M_rowN, .ref am6, .ref am7, .ref am8, .ref am9, .ref am10, .ref am11, .ref am12, .int M_ran, .int M_actKind, .int M_actN, .int M_actA, .int M_isParted])), (am5, .inl (cy 0, 30, .inl u_rows))] H → va_F A s t → Qw (some (.int z.1)) D [(am, .inr (7, [.ref am0, .ref am1, .ref am2, .ref am3, .int M_isHeld, .ref am4, .int M_taped, .int M_token, .int M_from, .int M_to, .int M_value, .int M_isWrong, .ref am5, .int M_rowN, .ref am6, .ref am7, .ref am8, .ref am9, .ref am10, .ref am11, .ref am12, .int M_ran, .int M_actKind, .int M_actN, .int M_actA, .int M_isParted])), (am5, .inl (cy 0, 30, .inl z.2))] A ([.ref am, .int x1, .int x2, .int x3] : List Value).toArray s (.returned (some (.int z0))) t := by
    intro z0 u_rows h9 H t ht hP hF
    cases h9
    exact ⟨rfl, by rw [ht]; exact hP, hF⟩
  have hin7 : ∀ w ∈ u_ws RX7 TX7 26, w ∈ wsX7_alterRow := by decide +kernel
  have fl25 := hts (.fieldLink RX7 25 "KinCutleryModel" "rows" "[I") (by decide +kernel)
  have hl := lv_entry ([.ref am, .int x1, .int x2, .int x3]) (n := 5) (Nat.le_of_ble_eq_true rfl)
  rw [lg_entry_eq]
  generalize (lg_sl ([.ref am, .int x1, .int x2, .int x3]) ++ List.replicate (5 - (lg_sl ([.ref am, .int x1, .int x2, .int x3])).length) Slot.unset).toArray = ls at hl ⊢
  have hl : lv_has ls 5 [(0, .ref am), (1, .int x1), (2, .int x2), (3, .int x3)] := hl
  have hf : ((fX7_isRow n (M_isHeld, M_taped, M_token, M_from, M_to, M_value, M_isWrong, M_rowN, M_ran, M_actKind, M_actN, M_actA, M_isParted) x1 x2).bind fun r3 => if r3 = 0 then (some ((-9 : Int32), u_rows)) else (if (((3 : Int32) * x1) + x2) < 0 ∨ 30 ≤ (((3 : Int32) * x1) + x2).toNatClampNeg then none else if (((3 : Int32) * x1) + x2) < 0 ∨ 30 ≤ (((3 : Int32) * x1) + x2).toNatClampNeg then none else some ((u_rows (((3 : Int32) * x1) + x2).toNatClampNeg), (upd u_rows (((3 : Int32) * x1) + x2).toNatClampNeg x3)))) = some z := hf
  refine lv_aload_n hx hb dX7_alterRow_0 rfl (lv_at hl 0 rfl) ?_
  refine lv_iload_n hx hb dX7_alterRow_1 rfl (lv_at hl 1 rfl) ?_
  refine lv_iload_n hx hb dX7_alterRow_2 rfl (lv_at hl 2 rfl) ?_
  obtain ⟨r3, hc3, hf⟩ := zb hf
  refine zvr (o := some (.int r3)) (As := [.int x1, .int x2]) (rest := []) (stk := [.int r3]) ⟨hx, hb, hml, hown, hts⟩ (mX7_isRow l D cy st sk sv B am am0 am1 am2 am3 am4 am5 am6 am7 am8 am9 am10 am11 am12 n M_isHeld M_taped M_token M_from M_to M_value M_isWrong M_rowN M_ran M_actKind M_actN M_actA M_isParted x1 x2 r3 hc3) (cwV 2 hts gX7_alterRow_X7_isRow rfl rfl rfl (by decide +kernel) ⟨Nat.le_of_ble_eq_true rfl, Nat.le_of_ble_eq_true rfl⟩) hG hS hAB hP [0] rfl 0 7 rfl rfl rfl rfl hl.1 rfl (Nat.le_of_ble_eq_true rfl) dX7_alterRow_3 rfl ?_
  refine lv_if_ne (tgt := 12) hx hb dX7_alterRow_6 (by decide) (fun c_6 => ?_) (fun c_6 => ?_)
  · have hf := zn hf c_6
    refine lv_aload_n hx hb dX7_alterRow_12 rfl (lv_at hl 0 rfl) ?_
    refine va_get (D := D) (ci := 7) (v := .ref am5) (C := RX7) (T := TX7) (N := 26) hx hb hts hin7 hown hK hP 0 rfl rfl 12 (by decide) fl25 (fun _ h9 => h9) rfl dX7_alterRow_13 ?_
    refine lv_iconst (v := (3 : Int32)) hx hb dX7_alterRow_16 (by decide) ?_
    refine lv_iload_n hx hb dX7_alterRow_17 rfl (lv_at hl 1 rfl) ?_
    refine lv_imul hx hb dX7_alterRow_18 ?_
    refine lv_iload_n hx hb dX7_alterRow_19 rfl (lv_at hl 2 rfl) ?_
    refine lv_iadd hx hb dX7_alterRow_20 ?_
    obtain ⟨h_21, hf⟩ := zg hf
    refine va_iald hx hb hK hP 1 0 rfl rfl h_21 dX7_alterRow_21 ?_
    refine lv_istore (lv' := [(4, .int (u_rows (((3 : Int32) * x1) + x2).toNatClampNeg)), (0, .ref am), (1, .int x1), (2, .int x2), (3, .int x3)]) hx hb dX7_alterRow_22 hl (by decide) rfl (fun ls hl => ?_)
    refine lv_aload_n hx hb dX7_alterRow_24 rfl (lv_at hl 1 rfl) ?_
    refine va_get (D := D) (ci := 7) (v := .ref am5) (C := RX7) (T := TX7) (N := 26) hx hb hts hin7 hown hK hP 0 rfl rfl 12 (by decide) fl25 (fun _ h9 => h9) rfl dX7_alterRow_25 ?_
    refine lv_iconst (v := (3 : Int32)) hx hb dX7_alterRow_28 (by decide) ?_
    refine lv_iload_n hx hb dX7_alterRow_29 rfl (lv_at hl 2 rfl) ?_
    refine lv_imul hx hb dX7_alterRow_30 ?_
    refine lv_iload_n hx hb dX7_alterRow_31 rfl (lv_at hl 3 rfl) ?_
    refine lv_iadd hx hb dX7_alterRow_32 ?_
    refine lv_iload_n hx hb dX7_alterRow_33 rfl (lv_at hl 4 rfl) ?_
    obtain ⟨h_34, hf⟩ := zg hf
    refine va_iast hx hb hK hP hD hS 1 0 rfl rfl h_34 dX7_alterRow_34 (fun H locs hP hD hS => ?_)
    have hP : va_P D vwCl [(am, .inr (7, [.ref am0, .ref am1, .ref am2, .ref am3, .int M_isHeld, .ref am4, .int M_taped, .int M_token, .int M_from, .int M_to, .int M_value, .int M_isWrong, .ref am5, .int M_rowN, .ref am6, .ref am7, .ref am8, .ref am9, .ref am10, .ref am11, .ref am12, .int M_ran, .int M_actKind, .int M_actN, .int M_actA, .int M_isParted])), (am5, .inl (cy 0, 30, .inl (upd u_rows (((3 : Int32) * x1) + x2).toNatClampNeg x3)))] H := hP
    have hD : va_D A [(am, .inr (7, [.ref am0, .ref am1, .ref am2, .ref am3, .int M_isHeld, .ref am4, .int M_taped, .int M_token, .int M_from, .int M_to, .int M_value, .int M_isWrong, .ref am5, .int M_rowN, .ref am6, .ref am7, .ref am8, .ref am9, .ref am10, .ref am11, .ref am12, .int M_ran, .int M_actKind, .int M_actN, .int M_actA, .int M_isParted])), (am5, .inl (cy 0, 30, .inl (upd u_rows (((3 : Int32) * x1) + x2).toNatClampNeg x3)))] := hD
    refine lv_iload hx hb dX7_alterRow_35 (lv_at hl 0 rfl) ?_
    exact W.iret hx hb hr (fun t ht hW => hfin (u_rows (((3 : Int32) * x1) + x2).toNatClampNeg) (upd u_rows (((3 : Int32) * x1) + x2).toNatClampNeg x3) hf _ t ht hP (hS.F ht)) hS.2.2 dX7_alterRow_37
  · have hf := zp hf c_6
    refine lv_bipush (v := (-9 : Int32)) hx hb dX7_alterRow_9 (by decide) ?_
    exact W.iret hx hb hr (fun t ht hW => hfin (-9 : Int32) u_rows hf _ t ht hP (hS.F ht)) hS.2.2 dX7_alterRow_11
set_option maxRecDepth 100000 in
set_option maxHeartbeats 100000000 in
theorem mX7_judge (l : Launch) (D : va_G) (cy : Nat → ClassId) (st sk sv : Nat → Nat) (B : Nat) (am : Nat) (am0 : Nat) (am1 : Nat) (am2 : Nat) (am3 : Nat) (am4 : Nat) (am5 : Nat) (am6 : Nat) (am7 : Nat) (am8 : Nat) (am9 : Nat) (am10 : Nat) (am11 : Nat) (am12 : Nat) (sz : Nat) (n : Nat) (M_isHeld : Int32) (M_taped : Int32) (M_token : Int32) (M_from : Int32) (M_to : Int32) (M_value : Int32) (M_isWrong : Int32) (M_rowN : Int32) (M_ran : Int32) (M_actKind : Int32) (M_actN : Int32) (M_actA : Int32) (M_isParted : Int32) (u_s : (Nat → Int32)) (u_aside : (Nat → Int32)) (u_rows : (Nat → Int32)) (x1 : Int32) (z : Int32 × (Nat → Int32) × (Nat → Int32)) (hf : fX7_judge n (M_isHeld, M_taped, M_token, M_from, M_to, M_value, M_isWrong, M_rowN, M_ran, M_actKind, M_actN, M_actA, M_isParted) u_s u_aside u_rows x1 = some z) : Met l yX7_judge wsX7_judge ({ frames := 4, cells := 0, slots := 0, locals := 88 }) (PcW [.ref am, .int x1] D cy st sk sv B sz [(am, .inr (7, [.ref am0, .ref am1, .ref am2, .ref am3, .int M_isHeld, .ref am4, .int M_taped, .int M_token, .int M_from, .int M_to, .int M_value, .int M_isWrong, .ref am5, .int M_rowN, .ref am6, .ref am7, .ref am8, .ref am9, .ref am10, .ref am11, .ref am12, .int M_ran, .int M_actKind, .int M_actN, .int M_actA, .int M_isParted])), (am0, .inl (cy 0, 48, .inl u_s)), (am2, .inl (cy 0, 48, .inl u_aside)), (am5, .inl (cy 0, 30, .inl u_rows))]) (Qw (some (.int z.1)) D [(am, .inr (7, [.ref am0, .ref am1, .ref am2, .ref am3, .int M_isHeld, .ref am4, .int M_taped, .int M_token, .int M_from, .int M_to, .int M_value, .int M_isWrong, .ref am5, .int M_rowN, .ref am6, .ref am7, .ref am8, .ref am9, .ref am10, .ref am11, .ref am12, .int M_ran, .int M_actKind, .int M_actN, .int M_actA, .int M_isParted])), (am0, .inl (cy 0, 48, .inl z.2.1)), (am2, .inl (cy 0, 48, .inl z.2.2)), (am5, .inl (cy 0, 30, .inl u_rows))] (va_A [(am, .inr (7, [.ref am0, .ref am1, .ref am2, .ref am3, .int M_isHeld, .ref am4, .int M_taped, .int M_token, .int M_from, .int M_to, .int M_value, .int M_isWrong, .ref am5, .int M_rowN, .ref am6, .ref am7, .ref am8, .ref am9, .ref am10, .ref am11, .ref am12, .int M_ran, .int M_actKind, .int M_actN, .int M_actA, .int M_isParted])), (am0, .inl (cy 0, 48, .inl u_s)), (am2, .inl (cy 0, 48, .inl u_aside)), (am5, .inl (cy 0, 30, .inl u_rows))] sz)) 0 0 (va_A [(am, .inr (7, [.ref am0, .ref am1, .ref am2, .ref am3, .int M_isHeld, .ref am4, .int M_taped, .int M_token, .int M_from, .int M_to, .int M_value, .int M_isWrong, .ref am5, .int M_rowN, .ref am6, .ref am7, .ref am8, .ref am9, .ref am10, .ref am11, .ref am12, .int M_ran, .int M_actKind, .int M_actN, .int M_actA, .int M_isParted])), (am0, .inl (cy 0, 48, .inl u_s)), (am2, .inl (cy 0, 48, .inl u_aside)), (am5, .inl (cy 0, 30, .inl u_rows))] sz) := by
  refine Met.ofW (cc := cX7_judge) (maxL := 4) (ret := (some .int)) (by decide) rfl ?_
  intro p e s m args below meth c s₁ Bd hml hv
  obtain ⟨rfl, hsz, hP, hD0, hBs, hG⟩ := hv
  have hx := Bd.exec
  have hb := Bd.bytes
  have hr := Bd.returns
  have hts := atoms_spec (ws := wsX7_judge) Bd.pre
  have hown : s.vm.findClass RX7 = some m.cls := findClass_of_methodNamed Bd.named
  have hlocks := Bd.notSynchronized
  have hK := hG.1
  subst hsz
  have hD := hD0.self (sz := s.heap.size)
  have hAB0 := zA hD0 hBs
  generalize hAe : va_A [(am, .inr (7, [.ref am0, .ref am1, .ref am2, .ref am3, .int M_isHeld, .ref am4, .int M_taped, .int M_token, .int M_from, .int M_to, .int M_value, .int M_isWrong, .ref am5, .int M_rowN, .ref am6, .ref am7, .ref am8, .ref am9, .ref am10, .ref am11, .ref am12, .int M_ran, .int M_actKind, .int M_actN, .int M_actA, .int M_isParted])), (am0, .inl (cy 0, 48, .inl u_s)), (am2, .inl (cy 0, 48, .inl u_aside)), (am5, .inl (cy 0, 30, .inl u_rows))] s.heap.size = A at hD hAB0 ⊢
  have hA : ∀ q : Nat, s.heap.size ≤ q → A q := fun q h => by rw [← hAe]; exact Or.inr h
  have hAB : ∀ q, A q → B ≤ q := hAB0
  have hS : va_S A s.heap s.heap [] := va_S.rf
  have hfin : ∀ (z0 : Int32) (u_s : (Nat → Int32)) (u_aside : (Nat → Int32)), some (z0, u_s, u_aside) = some z → ∀ (H : Heap) (t : State), t.heap = H → va_P D vwCl [(am, .inr (7, [.ref am0, .ref am1, .ref am2, .ref am3, .int M_isHeld, .ref am4, .int M_taped, .int M_token, .int M_from, .int M_to, .int M_value, .int M_isWrong, .ref am5, .int M_rowN, .ref am6, .ref am7, .ref am8, .ref am9, .ref am10, .ref am11, .ref am12, .int M_ran, .int M_actKind, .int M_actN, .int M_actA, .int M_isParted])), (am0, .inl (cy 0, 48, .inl u_s)), (am2, .inl (cy 0, 48, .inl u_aside)), (am5, .inl (cy 0, 30, .inl u_rows))] H → va_F A s t → Qw (some (.int z.1)) D [(am, .inr (7, [.ref am0, .ref am1, .ref am2, .ref am3, .int M_isHeld, .ref am4, .int M_taped, .int M_token, .int M_from, .int M_to, .int M_value, .int M_isWrong, .ref am5, .int M_rowN, .ref am6, .ref am7, .ref am8, .ref am9, .ref am10, .ref am11, .ref am12, .int M_ran, .int M_actKind, .int M_actN, .int M_actA, .int M_isParted])), (am0, .inl (cy 0, 48, .inl z.2.1)), (am2, .inl (cy 0, 48, .inl z.2.2)), (am5, .inl (cy 0, 30, .inl u_rows))] A ([.ref am, .int x1] : List Value).toArray s (.returned (some (.int z0))) t := by
    intro z0 u_s u_aside h9 H t ht hP hF
    cases h9
    exact ⟨rfl, by rw [ht]; exact hP, hF⟩
  have hin7 : ∀ w ∈ u_ws RX7 TX7 26, w ∈ wsX7_judge := by decide +kernel
  have fl7 := hts (.fieldLink RX7 7 "KinCutleryModel" "s" "[I") (by decide +kernel)
  have fl16 := hts (.fieldLink RX7 16 "KinCutleryModel" "aside" "[I") (by decide +kernel)
  have fl25 := hts (.fieldLink RX7 25 "KinCutleryModel" "rows" "[I") (by decide +kernel)
  have fl140 := hts (.fieldLink RX7 140 "KinCutleryModel" "rowN" "I") (by decide +kernel)
  have hB108 : ∀ (u_s : (Nat → Int32)) (u_aside : (Nat → Int32)) (y2 : Int32) (y3 : Int32), fX7_judge_b108 n (M_isHeld, M_taped, M_token, M_from, M_to, M_value, M_isWrong, M_rowN, M_ran, M_actKind, M_actN, M_actA, M_isParted) u_rows x1  u_s u_aside y2 y3 = some z → ∀ (H : Heap) (locs : List Loc), va_P D vwCl [(am, .inr (7, [.ref am0, .ref am1, .ref am2, .ref am3, .int M_isHeld, .ref am4, .int M_taped, .int M_token, .int M_from, .int M_to, .int M_value, .int M_isWrong, .ref am5, .int M_rowN, .ref am6, .ref am7, .ref am8, .ref am9, .ref am10, .ref am11, .ref am12, .int M_ran, .int M_actKind, .int M_actN, .int M_actA, .int M_isParted])), (am0, .inl (cy 0, 48, .inl u_s)), (am2, .inl (cy 0, 48, .inl u_aside)), (am5, .inl (cy 0, 30, .inl u_rows))] H → va_D A [(am, .inr (7, [.ref am0, .ref am1, .ref am2, .ref am3, .int M_isHeld, .ref am4, .int M_taped, .int M_token, .int M_from, .int M_to, .int M_value, .int M_isWrong, .ref am5, .int M_rowN, .ref am6, .ref am7, .ref am8, .ref am9, .ref am10, .ref am11, .ref am12, .int M_ran, .int M_actKind, .int M_actN, .int M_actA, .int M_isParted])), (am0, .inl (cy 0, 48, .inl u_s)), (am2, .inl (cy 0, 48, .inl u_aside)), (am5, .inl (cy 0, 30, .inl u_rows))] → va_S A s.heap H locs → ∀ (ls : Array Slot), lv_has ls 4 [(0, .ref am), (1, .int x1), (2, .int y2), (3, .int y3)] → W p l e (headSpec wsX7_judge ({ frames := 4, cells := 0, slots := 0, locals := 88 })).room s m ([.ref am, .int x1] : List Value).toArray below meth c H locs 0 0 (MQ below (Qw (some (.int z.1)) D [(am, .inr (7, [.ref am0, .ref am1, .ref am2, .ref am3, .int M_isHeld, .ref am4, .int M_taped, .int M_token, .int M_from, .int M_to, .int M_value, .int M_isWrong, .ref am5, .int M_rowN, .ref am6, .ref am7, .ref am8, .ref am9, .ref am10, .ref am11, .ref am12, .int M_ran, .int M_actKind, .int M_actN, .int M_actA, .int M_isParted])), (am0, .inl (cy 0, 48, .inl z.2.1)), (am2, .inl (cy 0, 48, .inl z.2.2)), (am5, .inl (cy 0, 30, .inl u_rows))] A) ([.ref am, .int x1] : List Value).toArray s 0 0 A) (F0 m 108 ls []) := by
    intro u_s u_aside y2 y3 hf H locs hP hD hS ls hl
    have hf : ((fX7_copyRow n u_aside u_s).bind fun r116 => if y3 = 0 then (some (y2, r116, u_aside)) else (some ((0 : Int32), r116, u_aside))) = some z := hf
    refine lv_aload_n hx hb dX7_judge_108 rfl (lv_at hl 0 rfl) ?_
    refine va_get (D := D) (ci := 7) (v := .ref am2) (C := RX7) (T := TX7) (N := 26) hx hb hts hin7 hown hK hP 0 rfl rfl 2 (by decide) fl16 (fun _ h9 => h9) rfl dX7_judge_109 ?_
    refine lv_aload_n hx hb dX7_judge_112 rfl (lv_at hl 0 rfl) ?_
    refine va_get (D := D) (ci := 7) (v := .ref am0) (C := RX7) (T := TX7) (N := 26) hx hb hts hin7 hown hK hP 0 rfl rfl 0 (by decide) fl7 (fun _ h9 => h9) rfl dX7_judge_113 ?_
    obtain ⟨r116, hc116, hf⟩ := zb hf
    refine zsw (o := none) (As := [.ref am2, .ref am0]) (rest := []) (stk := []) ⟨hx, hb, hml, hown, hts⟩ (mX7_copyRow l D cy st sk sv B am2 am0 _ n u_aside u_s r116 hc116) (va_cwS 2 hts gX7_judge_X7_copyRow rfl rfl rfl (by decide +kernel) ⟨Nat.le_of_ble_eq_true rfl, Nat.le_of_ble_eq_true rfl⟩) hG hS hAB hA hP hD [2, 1] (by decide) rfl rfl rfl rfl rfl hl.1 rfl (Nat.le_of_ble_eq_true rfl) dX7_judge_116 rfl (fun H locs hP hD hS => ?_)
    have hP : va_P D vwCl [(am, .inr (7, [.ref am0, .ref am1, .ref am2, .ref am3, .int M_isHeld, .ref am4, .int M_taped, .int M_token, .int M_from, .int M_to, .int M_value, .int M_isWrong, .ref am5, .int M_rowN, .ref am6, .ref am7, .ref am8, .ref am9, .ref am10, .ref am11, .ref am12, .int M_ran, .int M_actKind, .int M_actN, .int M_actA, .int M_isParted])), (am0, .inl (cy 0, 48, .inl r116)), (am2, .inl (cy 0, 48, .inl u_aside)), (am5, .inl (cy 0, 30, .inl u_rows))] H := hP
    have hD : va_D A [(am, .inr (7, [.ref am0, .ref am1, .ref am2, .ref am3, .int M_isHeld, .ref am4, .int M_taped, .int M_token, .int M_from, .int M_to, .int M_value, .int M_isWrong, .ref am5, .int M_rowN, .ref am6, .ref am7, .ref am8, .ref am9, .ref am10, .ref am11, .ref am12, .int M_ran, .int M_actKind, .int M_actN, .int M_actA, .int M_isParted])), (am0, .inl (cy 0, 48, .inl r116)), (am2, .inl (cy 0, 48, .inl u_aside)), (am5, .inl (cy 0, 30, .inl u_rows))] := hD
    refine lv_iload_n hx hb dX7_judge_119 rfl (lv_at hl 3 rfl) ?_
    refine lv_if_eq (tgt := 127) hx hb dX7_judge_120 (by decide) (fun c_120 => ?_) (fun c_120 => ?_)
    · have hf := zp hf c_120
      refine lv_iload_n hx hb dX7_judge_127 rfl (lv_at hl 2 rfl) ?_
      exact W.iret hx hb hr (fun t ht hW => hfin y2 r116 u_aside hf _ t ht hP (hS.F ht)) hS.2.2 dX7_judge_128
    · have hf := zn hf c_120
      refine lv_iconst (v := (0 : Int32)) hx hb dX7_judge_123 (by decide) ?_
      refine lv_goto (tgt := 128) hx hb dX7_judge_124 (by decide) ?_
      exact W.iret hx hb hr (fun t ht hW => hfin (0 : Int32) r116 u_aside hf _ t ht hP (hS.F ht)) hS.2.2 dX7_judge_128
  have hL25 : ∀ (n0 : Nat) (u_s : (Nat → Int32)) (u_aside : (Nat → Int32)) (y2 : Int32) (y3 : Int32), lpF (fX7_judge_F25 n (M_isHeld, M_taped, M_token, M_from, M_to, M_value, M_isWrong, M_rowN, M_ran, M_actKind, M_actN, M_actA, M_isParted) u_rows x1 ) n0 (u_s, u_aside, y2, y3) = some z → ∀ (H : Heap) (locs : List Loc), va_P D vwCl [(am, .inr (7, [.ref am0, .ref am1, .ref am2, .ref am3, .int M_isHeld, .ref am4, .int M_taped, .int M_token, .int M_from, .int M_to, .int M_value, .int M_isWrong, .ref am5, .int M_rowN, .ref am6, .ref am7, .ref am8, .ref am9, .ref am10, .ref am11, .ref am12, .int M_ran, .int M_actKind, .int M_actN, .int M_actA, .int M_isParted])), (am0, .inl (cy 0, 48, .inl u_s)), (am2, .inl (cy 0, 48, .inl u_aside)), (am5, .inl (cy 0, 30, .inl u_rows))] H → va_D A [(am, .inr (7, [.ref am0, .ref am1, .ref am2, .ref am3, .int M_isHeld, .ref am4, .int M_taped, .int M_token, .int M_from, .int M_to, .int M_value, .int M_isWrong, .ref am5, .int M_rowN, .ref am6, .ref am7, .ref am8, .ref am9, .ref am10, .ref am11, .ref am12, .int M_ran, .int M_actKind, .int M_actN, .int M_actA, .int M_isParted])), (am0, .inl (cy 0, 48, .inl u_s)), (am2, .inl (cy 0, 48, .inl u_aside)), (am5, .inl (cy 0, 30, .inl u_rows))] → va_S A s.heap H locs → ∀ (ls : Array Slot), lv_has ls 4 [(0, .ref am), (1, .int x1), (2, .int y2), (3, .int y3)] → W p l e (headSpec wsX7_judge ({ frames := 4, cells := 0, slots := 0, locals := 88 })).room s m ([.ref am, .int x1] : List Value).toArray below meth c H locs 0 0 (MQ below (Qw (some (.int z.1)) D [(am, .inr (7, [.ref am0, .ref am1, .ref am2, .ref am3, .int M_isHeld, .ref am4, .int M_taped, .int M_token, .int M_from, .int M_to, .int M_value, .int M_isWrong, .ref am5, .int M_rowN, .ref am6, .ref am7, .ref am8, .ref am9, .ref am10, .ref am11, .ref am12, .int M_ran, .int M_actKind, .int M_actN, .int M_actA, .int M_isParted])), (am0, .inl (cy 0, 48, .inl z.2.1)), (am2, .inl (cy 0, 48, .inl z.2.2)), (am5, .inl (cy 0, 30, .inl u_rows))] A) ([.ref am, .int x1] : List Value).toArray s 0 0 A) (F0 m 25 ls []) := by
    have key : ∀ (n0 : Nat) (v25 : (Nat → Int32) × (Nat → Int32) × Int32 × Int32), lpF (fX7_judge_F25 n (M_isHeld, M_taped, M_token, M_from, M_to, M_value, M_isWrong, M_rowN, M_ran, M_actKind, M_actN, M_actA, M_isParted) u_rows x1 ) n0 v25 = some z → ∀ (H : Heap) (locs : List Loc), va_P D vwCl [(am, .inr (7, [.ref am0, .ref am1, .ref am2, .ref am3, .int M_isHeld, .ref am4, .int M_taped, .int M_token, .int M_from, .int M_to, .int M_value, .int M_isWrong, .ref am5, .int M_rowN, .ref am6, .ref am7, .ref am8, .ref am9, .ref am10, .ref am11, .ref am12, .int M_ran, .int M_actKind, .int M_actN, .int M_actA, .int M_isParted])), (am0, .inl (cy 0, 48, .inl v25.1)), (am2, .inl (cy 0, 48, .inl v25.2.1)), (am5, .inl (cy 0, 30, .inl u_rows))] H → va_D A [(am, .inr (7, [.ref am0, .ref am1, .ref am2, .ref am3, .int M_isHeld, .ref am4, .int M_taped, .int M_token, .int M_from, .int M_to, .int M_value, .int M_isWrong, .ref am5, .int M_rowN, .ref am6, .ref am7, .ref am8, .ref am9, .ref am10, .ref am11, .ref am12, .int M_ran, .int M_actKind, .int M_actN, .int M_actA, .int M_isParted])), (am0, .inl (cy 0, 48, .inl v25.1)), (am2, .inl (cy 0, 48, .inl v25.2.1)), (am5, .inl (cy 0, 30, .inl u_rows))] → va_S A s.heap H locs → ∀ (ls : Array Slot), lv_has ls 4 [(0, .ref am), (1, .int x1), (2, .int v25.2.2.1), (3, .int v25.2.2.2)] → W p l e (headSpec wsX7_judge ({ frames := 4, cells := 0, slots := 0, locals := 88 })).room s m ([.ref am, .int x1] : List Value).toArray below meth c H locs 0 0 (MQ below (Qw (some (.int z.1)) D [(am, .inr (7, [.ref am0, .ref am1, .ref am2, .ref am3, .int M_isHeld, .ref am4, .int M_taped, .int M_token, .int M_from, .int M_to, .int M_value, .int M_isWrong, .ref am5, .int M_rowN, .ref am6, .ref am7, .ref am8, .ref am9, .ref am10, .ref am11, .ref am12, .int M_ran, .int M_actKind, .int M_actN, .int M_actA, .int M_isParted])), (am0, .inl (cy 0, 48, .inl z.2.1)), (am2, .inl (cy 0, 48, .inl z.2.2)), (am5, .inl (cy 0, 30, .inl u_rows))] A) ([.ref am, .int x1] : List Value).toArray s 0 0 A) (F0 m 25 ls []) := by
      refine lpW ?_
      intro k25 hk250
      have hk25 : ∀ (u_s : (Nat → Int32)) (u_aside : (Nat → Int32)) (y2 : Int32) (y3 : Int32), k25 (u_s, u_aside, y2, y3) = some z → ∀ (H : Heap) (locs : List Loc), va_P D vwCl [(am, .inr (7, [.ref am0, .ref am1, .ref am2, .ref am3, .int M_isHeld, .ref am4, .int M_taped, .int M_token, .int M_from, .int M_to, .int M_value, .int M_isWrong, .ref am5, .int M_rowN, .ref am6, .ref am7, .ref am8, .ref am9, .ref am10, .ref am11, .ref am12, .int M_ran, .int M_actKind, .int M_actN, .int M_actA, .int M_isParted])), (am0, .inl (cy 0, 48, .inl u_s)), (am2, .inl (cy 0, 48, .inl u_aside)), (am5, .inl (cy 0, 30, .inl u_rows))] H → va_D A [(am, .inr (7, [.ref am0, .ref am1, .ref am2, .ref am3, .int M_isHeld, .ref am4, .int M_taped, .int M_token, .int M_from, .int M_to, .int M_value, .int M_isWrong, .ref am5, .int M_rowN, .ref am6, .ref am7, .ref am8, .ref am9, .ref am10, .ref am11, .ref am12, .int M_ran, .int M_actKind, .int M_actN, .int M_actA, .int M_isParted])), (am0, .inl (cy 0, 48, .inl u_s)), (am2, .inl (cy 0, 48, .inl u_aside)), (am5, .inl (cy 0, 30, .inl u_rows))] → va_S A s.heap H locs → ∀ (ls : Array Slot), lv_has ls 4 [(0, .ref am), (1, .int x1), (2, .int y2), (3, .int y3)] → W p l e (headSpec wsX7_judge ({ frames := 4, cells := 0, slots := 0, locals := 88 })).room s m ([.ref am, .int x1] : List Value).toArray below meth c H locs 0 0 (MQ below (Qw (some (.int z.1)) D [(am, .inr (7, [.ref am0, .ref am1, .ref am2, .ref am3, .int M_isHeld, .ref am4, .int M_taped, .int M_token, .int M_from, .int M_to, .int M_value, .int M_isWrong, .ref am5, .int M_rowN, .ref am6, .ref am7, .ref am8, .ref am9, .ref am10, .ref am11, .ref am12, .int M_ran, .int M_actKind, .int M_actN, .int M_actA, .int M_isParted])), (am0, .inl (cy 0, 48, .inl z.2.1)), (am2, .inl (cy 0, 48, .inl z.2.2)), (am5, .inl (cy 0, 30, .inl u_rows))] A) ([.ref am, .int x1] : List Value).toArray s 0 0 A) (F0 m 25 ls []) := fun u_s u_aside y2 y3 h9 => hk250 (u_s, u_aside, y2, y3) h9
      have hB101 : ∀ (u_s : (Nat → Int32)) (u_aside : (Nat → Int32)) (y2 : Int32) (w0 : Int32), fX7_judge_b101 n (M_isHeld, M_taped, M_token, M_from, M_to, M_value, M_isWrong, M_rowN, M_ran, M_actKind, M_actN, M_actA, M_isParted) u_rows x1 k25 u_s u_aside y2 w0 = some z → ∀ (H : Heap) (locs : List Loc), va_P D vwCl [(am, .inr (7, [.ref am0, .ref am1, .ref am2, .ref am3, .int M_isHeld, .ref am4, .int M_taped, .int M_token, .int M_from, .int M_to, .int M_value, .int M_isWrong, .ref am5, .int M_rowN, .ref am6, .ref am7, .ref am8, .ref am9, .ref am10, .ref am11, .ref am12, .int M_ran, .int M_actKind, .int M_actN, .int M_actA, .int M_isParted])), (am0, .inl (cy 0, 48, .inl u_s)), (am2, .inl (cy 0, 48, .inl u_aside)), (am5, .inl (cy 0, 30, .inl u_rows))] H → va_D A [(am, .inr (7, [.ref am0, .ref am1, .ref am2, .ref am3, .int M_isHeld, .ref am4, .int M_taped, .int M_token, .int M_from, .int M_to, .int M_value, .int M_isWrong, .ref am5, .int M_rowN, .ref am6, .ref am7, .ref am8, .ref am9, .ref am10, .ref am11, .ref am12, .int M_ran, .int M_actKind, .int M_actN, .int M_actA, .int M_isParted])), (am0, .inl (cy 0, 48, .inl u_s)), (am2, .inl (cy 0, 48, .inl u_aside)), (am5, .inl (cy 0, 30, .inl u_rows))] → va_S A s.heap H locs → ∀ (ls : Array Slot), lv_has ls 4 [(0, .ref am), (1, .int x1), (2, .int y2)] → W p l e (headSpec wsX7_judge ({ frames := 4, cells := 0, slots := 0, locals := 88 })).room s m ([.ref am, .int x1] : List Value).toArray below meth c H locs 0 0 (MQ below (Qw (some (.int z.1)) D [(am, .inr (7, [.ref am0, .ref am1, .ref am2, .ref am3, .int M_isHeld, .ref am4, .int M_taped, .int M_token, .int M_from, .int M_to, .int M_value, .int M_isWrong, .ref am5, .int M_rowN, .ref am6, .ref am7, .ref am8, .ref am9, .ref am10, .ref am11, .ref am12, .int M_ran, .int M_actKind, .int M_actN, .int M_actA, .int M_isParted])), (am0, .inl (cy 0, 48, .inl z.2.1)), (am2, .inl (cy 0, 48, .inl z.2.2)), (am5, .inl (cy 0, 30, .inl u_rows))] A) ([.ref am, .int x1] : List Value).toArray s 0 0 A) (F0 m 101 ls [.int w0]) := by
        intro u_s u_aside y2 w0 hf H locs hP hD hS ls hl
        have hf : (k25 (u_s, u_aside, (y2 + (1 : Int32)), w0)) = some z := hf
        refine lv_istore_n (lv' := [(3, .int w0), (0, .ref am), (1, .int x1), (2, .int y2)]) hx hb dX7_judge_101 rfl hl (by decide) rfl (fun ls hl => ?_)
        refine lv_iinc (v := (y2 + (1 : Int32))) (lv' := [(2, .int (y2 + (1 : Int32))), (3, .int w0), (0, .ref am), (1, .int x1)]) hx hb dX7_judge_102 hl (k := 3) rfl rfl (by decide) rfl (fun ls hl => ?_)
        refine lv_goto (tgt := 25) hx hb dX7_judge_105 (by decide) ?_
        exact hk25 u_s u_aside (y2 + (1 : Int32)) w0 hf _ _ hP hD hS _ (lv_sub hl [2, 3, 0, 1] rfl)
      have hB100 : ∀ (u_s : (Nat → Int32)) (u_aside : (Nat → Int32)) (y2 : Int32), fX7_judge_b100 n (M_isHeld, M_taped, M_token, M_from, M_to, M_value, M_isWrong, M_rowN, M_ran, M_actKind, M_actN, M_actA, M_isParted) u_rows x1 k25 u_s u_aside y2 = some z → ∀ (H : Heap) (locs : List Loc), va_P D vwCl [(am, .inr (7, [.ref am0, .ref am1, .ref am2, .ref am3, .int M_isHeld, .ref am4, .int M_taped, .int M_token, .int M_from, .int M_to, .int M_value, .int M_isWrong, .ref am5, .int M_rowN, .ref am6, .ref am7, .ref am8, .ref am9, .ref am10, .ref am11, .ref am12, .int M_ran, .int M_actKind, .int M_actN, .int M_actA, .int M_isParted])), (am0, .inl (cy 0, 48, .inl u_s)), (am2, .inl (cy 0, 48, .inl u_aside)), (am5, .inl (cy 0, 30, .inl u_rows))] H → va_D A [(am, .inr (7, [.ref am0, .ref am1, .ref am2, .ref am3, .int M_isHeld, .ref am4, .int M_taped, .int M_token, .int M_from, .int M_to, .int M_value, .int M_isWrong, .ref am5, .int M_rowN, .ref am6, .ref am7, .ref am8, .ref am9, .ref am10, .ref am11, .ref am12, .int M_ran, .int M_actKind, .int M_actN, .int M_actA, .int M_isParted])), (am0, .inl (cy 0, 48, .inl u_s)), (am2, .inl (cy 0, 48, .inl u_aside)), (am5, .inl (cy 0, 30, .inl u_rows))] → va_S A s.heap H locs → ∀ (ls : Array Slot), lv_has ls 4 [(0, .ref am), (1, .int x1), (2, .int y2)] → W p l e (headSpec wsX7_judge ({ frames := 4, cells := 0, slots := 0, locals := 88 })).room s m ([.ref am, .int x1] : List Value).toArray below meth c H locs 0 0 (MQ below (Qw (some (.int z.1)) D [(am, .inr (7, [.ref am0, .ref am1, .ref am2, .ref am3, .int M_isHeld, .ref am4, .int M_taped, .int M_token, .int M_from, .int M_to, .int M_value, .int M_isWrong, .ref am5, .int M_rowN, .ref am6, .ref am7, .ref am8, .ref am9, .ref am10, .ref am11, .ref am12, .int M_ran, .int M_actKind, .int M_actN, .int M_actA, .int M_isParted])), (am0, .inl (cy 0, 48, .inl z.2.1)), (am2, .inl (cy 0, 48, .inl z.2.2)), (am5, .inl (cy 0, 30, .inl u_rows))] A) ([.ref am, .int x1] : List Value).toArray s 0 0 A) (F0 m 100 ls []) := by
        intro u_s u_aside y2 hf H locs hP hD hS ls hl
        have hf : (fX7_judge_b101 n (M_isHeld, M_taped, M_token, M_from, M_to, M_value, M_isWrong, M_rowN, M_ran, M_actKind, M_actN, M_actA, M_isParted) u_rows x1 k25 u_s u_aside y2 (0 : Int32)) = some z := hf
        refine lv_iconst (v := (0 : Int32)) hx hb dX7_judge_100 (by decide) ?_
        exact hB101 u_s u_aside y2 (0 : Int32) hf _ _ hP hD hS _ (lv_sub hl [0, 1, 2] rfl)
      have hstep : ∀ (u_s : (Nat → Int32)) (u_aside : (Nat → Int32)) (y2 : Int32) (y3 : Int32), fX7_judge_F25 n (M_isHeld, M_taped, M_token, M_from, M_to, M_value, M_isWrong, M_rowN, M_ran, M_actKind, M_actN, M_actA, M_isParted) u_rows x1  k25 (u_s, u_aside, y2, y3) = some z → ∀ (H : Heap) (locs : List Loc), va_P D vwCl [(am, .inr (7, [.ref am0, .ref am1, .ref am2, .ref am3, .int M_isHeld, .ref am4, .int M_taped, .int M_token, .int M_from, .int M_to, .int M_value, .int M_isWrong, .ref am5, .int M_rowN, .ref am6, .ref am7, .ref am8, .ref am9, .ref am10, .ref am11, .ref am12, .int M_ran, .int M_actKind, .int M_actN, .int M_actA, .int M_isParted])), (am0, .inl (cy 0, 48, .inl u_s)), (am2, .inl (cy 0, 48, .inl u_aside)), (am5, .inl (cy 0, 30, .inl u_rows))] H → va_D A [(am, .inr (7, [.ref am0, .ref am1, .ref am2, .ref am3, .int M_isHeld, .ref am4, .int M_taped, .int M_token, .int M_from, .int M_to, .int M_value, .int M_isWrong, .ref am5, .int M_rowN, .ref am6, .ref am7, .ref am8, .ref am9, .ref am10, .ref am11, .ref am12, .int M_ran, .int M_actKind, .int M_actN, .int M_actA, .int M_isParted])), (am0, .inl (cy 0, 48, .inl u_s)), (am2, .inl (cy 0, 48, .inl u_aside)), (am5, .inl (cy 0, 30, .inl u_rows))] → va_S A s.heap H locs → ∀ (ls : Array Slot), lv_has ls 4 [(0, .ref am), (1, .int x1), (2, .int y2), (3, .int y3)] → W p l e (headSpec wsX7_judge ({ frames := 4, cells := 0, slots := 0, locals := 88 })).room s m ([.ref am, .int x1] : List Value).toArray below meth c H locs 0 0 (MQ below (Qw (some (.int z.1)) D [(am, .inr (7, [.ref am0, .ref am1, .ref am2, .ref am3, .int M_isHeld, .ref am4, .int M_taped, .int M_token, .int M_from, .int M_to, .int M_value, .int M_isWrong, .ref am5, .int M_rowN, .ref am6, .ref am7, .ref am8, .ref am9, .ref am10, .ref am11, .ref am12, .int M_ran, .int M_actKind, .int M_actN, .int M_actA, .int M_isParted])), (am0, .inl (cy 0, 48, .inl z.2.1)), (am2, .inl (cy 0, 48, .inl z.2.2)), (am5, .inl (cy 0, 30, .inl u_rows))] A) ([.ref am, .int x1] : List Value).toArray s 0 0 A) (F0 m 25 ls []) := by
        intro u_s u_aside y2 y3 hf H locs hP hD hS ls hl
        have hf : (if M_rowN ≤ y2 then (fX7_judge_b108 n (M_isHeld, M_taped, M_token, M_from, M_to, M_value, M_isWrong, M_rowN, M_ran, M_actKind, M_actN, M_actA, M_isParted) u_rows x1  u_s u_aside y2 y3) else (if y3 = 0 then (fX7_judge_b108 n (M_isHeld, M_taped, M_token, M_from, M_to, M_value, M_isWrong, M_rowN, M_ran, M_actKind, M_actN, M_actA, M_isParted) u_rows x1  u_s u_aside y2 y3) else ((fX7_goesOn n (M_isHeld, M_taped, M_token, M_from, M_to, M_value, M_isWrong, M_rowN, M_ran, M_actKind, M_actN, M_actA, M_isParted) u_s).bind fun r38 => if ((3 : Int32) * y2) < 0 ∨ 30 ≤ ((3 : Int32) * y2).toNatClampNeg then none else (fX7_its n (M_isHeld, M_taped, M_token, M_from, M_to, M_value, M_isWrong, M_rowN, M_ran, M_actKind, M_actN, M_actA, M_isParted) r38 x1 (2 : Int32)).bind fun r52 => if (u_rows ((3 : Int32) * y2).toNatClampNeg) = r52 then (if (((3 : Int32) * y2) + (1 : Int32)) < 0 ∨ 30 ≤ (((3 : Int32) * y2) + (1 : Int32)).toNatClampNeg then none else (fX7_its n (M_isHeld, M_taped, M_token, M_from, M_to, M_value, M_isWrong, M_rowN, M_ran, M_actKind, M_actN, M_actA, M_isParted) r38 x1 (3 : Int32)).bind fun r71 => if (u_rows (((3 : Int32) * y2) + (1 : Int32)).toNatClampNeg) = r71 then (if (((3 : Int32) * y2) + (2 : Int32)) < 0 ∨ 30 ≤ (((3 : Int32) * y2) + (2 : Int32)).toNatClampNeg then none else if (u_rows (((3 : Int32) * y2) + (2 : Int32)).toNatClampNeg) = (r38 (3 : Int32).toNatClampNeg) then (fX7_judge_b101 n (M_isHeld, M_taped, M_token, M_from, M_to, M_value, M_isWrong, M_rowN, M_ran, M_actKind, M_actN, M_actA, M_isParted) u_rows x1 k25 r38 u_aside y2 (1 : Int32)) else (fX7_judge_b100 n (M_isHeld, M_taped, M_token, M_from, M_to, M_value, M_isWrong, M_rowN, M_ran, M_actKind, M_actN, M_actA, M_isParted) u_rows x1 k25 r38 u_aside y2)) else (fX7_judge_b100 n (M_isHeld, M_taped, M_token, M_from, M_to, M_value, M_isWrong, M_rowN, M_ran, M_actKind, M_actN, M_actA, M_isParted) u_rows x1 k25 r38 u_aside y2)) else (fX7_judge_b100 n (M_isHeld, M_taped, M_token, M_from, M_to, M_value, M_isWrong, M_rowN, M_ran, M_actKind, M_actN, M_actA, M_isParted) u_rows x1 k25 r38 u_aside y2)))) = some z := hf
        refine lv_iload_n hx hb dX7_judge_25 rfl (lv_at hl 2 rfl) ?_
        refine lv_aload_n hx hb dX7_judge_26 rfl (lv_at hl 0 rfl) ?_
        refine va_get (D := D) (ci := 7) (v := .int M_rowN) (C := RX7) (T := TX7) (N := 26) hx hb hts hin7 hown hK hP 0 rfl rfl 13 (by decide) fl140 (fun _ h9 => h9) rfl dX7_judge_27 ?_
        refine lv_icmp_ge (tgt := 108) hx hb dX7_judge_30 (by decide) (fun c_30 => ?_) (fun c_30 => ?_)
        · have hf := zp hf c_30
          exact hB108 u_s u_aside y2 y3 hf _ _ hP hD hS _ (lv_sub hl [0, 1, 2, 3] rfl)
        · have hf := zn hf c_30
          refine lv_iload_n hx hb dX7_judge_33 rfl (lv_at hl 3 rfl) ?_
          refine lv_if_eq (tgt := 108) hx hb dX7_judge_34 (by decide) (fun c_34 => ?_) (fun c_34 => ?_)
          · have hf := zp hf c_34
            exact hB108 u_s u_aside y2 y3 hf _ _ hP hD hS _ (lv_sub hl [0, 1, 2, 3] rfl)
          · have hf := zn hf c_34
            refine lv_aload_n hx hb dX7_judge_37 rfl (lv_at hl 0 rfl) ?_
            obtain ⟨r38, hc38, hf⟩ := zb hf
            refine zvw (o := none) (As := []) (rest := []) (stk := []) ⟨hx, hb, hml, hown, hts⟩ (mX7_goesOn l D cy st sk sv B am am0 am1 am2 am3 am4 am5 am6 am7 am8 am9 am10 am11 am12 _ n M_isHeld M_taped M_token M_from M_to M_value M_isWrong M_rowN M_ran M_actKind M_actN M_actA M_isParted u_s r38 hc38) (cwV 0 hts gX7_judge_X7_goesOn rfl rfl rfl (by decide +kernel) ⟨Nat.le_of_ble_eq_true rfl, Nat.le_of_ble_eq_true rfl⟩) hG hS hAB hA hP hD [0, 1] (by decide) rfl rfl rfl rfl 0 7 rfl rfl rfl rfl hl.1 rfl (Nat.le_of_ble_eq_true rfl) dX7_judge_38 rfl (fun H locs hP hD hS => ?_)
            have hP : va_P D vwCl [(am, .inr (7, [.ref am0, .ref am1, .ref am2, .ref am3, .int M_isHeld, .ref am4, .int M_taped, .int M_token, .int M_from, .int M_to, .int M_value, .int M_isWrong, .ref am5, .int M_rowN, .ref am6, .ref am7, .ref am8, .ref am9, .ref am10, .ref am11, .ref am12, .int M_ran, .int M_actKind, .int M_actN, .int M_actA, .int M_isParted])), (am0, .inl (cy 0, 48, .inl r38)), (am2, .inl (cy 0, 48, .inl u_aside)), (am5, .inl (cy 0, 30, .inl u_rows))] H := hP
            have hD : va_D A [(am, .inr (7, [.ref am0, .ref am1, .ref am2, .ref am3, .int M_isHeld, .ref am4, .int M_taped, .int M_token, .int M_from, .int M_to, .int M_value, .int M_isWrong, .ref am5, .int M_rowN, .ref am6, .ref am7, .ref am8, .ref am9, .ref am10, .ref am11, .ref am12, .int M_ran, .int M_actKind, .int M_actN, .int M_actA, .int M_isParted])), (am0, .inl (cy 0, 48, .inl r38)), (am2, .inl (cy 0, 48, .inl u_aside)), (am5, .inl (cy 0, 30, .inl u_rows))] := hD
            refine lv_aload_n hx hb dX7_judge_41 rfl (lv_at hl 0 rfl) ?_
            refine va_get (D := D) (ci := 7) (v := .ref am5) (C := RX7) (T := TX7) (N := 26) hx hb hts hin7 hown hK hP 0 rfl rfl 12 (by decide) fl25 (fun _ h9 => h9) rfl dX7_judge_42 ?_
            refine lv_iconst (v := (3 : Int32)) hx hb dX7_judge_45 (by decide) ?_
            refine lv_iload_n hx hb dX7_judge_46 rfl (lv_at hl 2 rfl) ?_
            refine lv_imul hx hb dX7_judge_47 ?_
            obtain ⟨h_48, hf⟩ := zg hf
            refine va_iald hx hb hK hP 3 0 rfl rfl h_48 dX7_judge_48 ?_
            refine lv_aload_n hx hb dX7_judge_49 rfl (lv_at hl 0 rfl) ?_
            refine lv_iload_n hx hb dX7_judge_50 rfl (lv_at hl 1 rfl) ?_
            refine lv_iconst (v := (2 : Int32)) hx hb dX7_judge_51 (by decide) ?_
            obtain ⟨r52, hc52, hf⟩ := zb hf
            refine zvr (o := some (.int r52)) (As := [.int x1, .int (2 : Int32)]) (rest := [.int (u_rows ((3 : Int32) * y2).toNatClampNeg)]) (stk := [.int r52, .int (u_rows ((3 : Int32) * y2).toNatClampNeg)]) ⟨hx, hb, hml, hown, hts⟩ (mX7_its l D cy st sk sv B am am0 am1 am2 am3 am4 am5 am6 am7 am8 am9 am10 am11 am12 n M_isHeld M_taped M_token M_from M_to M_value M_isWrong M_rowN M_ran M_actKind M_actN M_actA M_isParted r38 x1 (2 : Int32) r52 hc52) (cwV 2 hts gX7_judge_X7_its rfl rfl rfl (by decide +kernel) ⟨Nat.le_of_ble_eq_true rfl, Nat.le_of_ble_eq_true rfl⟩) hG hS hAB hP [0, 1] rfl 0 7 rfl rfl rfl rfl hl.1 rfl (Nat.le_of_ble_eq_true rfl) dX7_judge_52 rfl ?_
            refine lv_icmp_ne (tgt := 100) hx hb dX7_judge_55 (by decide) (fun c_55 => ?_) (fun c_55 => ?_)
            · have hf := zn hf c_55
              exact hB100 r38 u_aside y2 hf _ _ hP hD hS _ (lv_sub hl [0, 1, 2] rfl)
            · have hf := zp hf c_55
              refine lv_aload_n hx hb dX7_judge_58 rfl (lv_at hl 0 rfl) ?_
              refine va_get (D := D) (ci := 7) (v := .ref am5) (C := RX7) (T := TX7) (N := 26) hx hb hts hin7 hown hK hP 0 rfl rfl 12 (by decide) fl25 (fun _ h9 => h9) rfl dX7_judge_59 ?_
              refine lv_iconst (v := (3 : Int32)) hx hb dX7_judge_62 (by decide) ?_
              refine lv_iload_n hx hb dX7_judge_63 rfl (lv_at hl 2 rfl) ?_
              refine lv_imul hx hb dX7_judge_64 ?_
              refine lv_iconst (v := (1 : Int32)) hx hb dX7_judge_65 (by decide) ?_
              refine lv_iadd hx hb dX7_judge_66 ?_
              obtain ⟨h_67, hf⟩ := zg hf
              refine va_iald hx hb hK hP 3 0 rfl rfl h_67 dX7_judge_67 ?_
              refine lv_aload_n hx hb dX7_judge_68 rfl (lv_at hl 0 rfl) ?_
              refine lv_iload_n hx hb dX7_judge_69 rfl (lv_at hl 1 rfl) ?_
              refine lv_iconst (v := (3 : Int32)) hx hb dX7_judge_70 (by decide) ?_
              obtain ⟨r71, hc71, hf⟩ := zb hf
              refine zvr (o := some (.int r71)) (As := [.int x1, .int (3 : Int32)]) (rest := [.int (u_rows (((3 : Int32) * y2) + (1 : Int32)).toNatClampNeg)]) (stk := [.int r71, .int (u_rows (((3 : Int32) * y2) + (1 : Int32)).toNatClampNeg)]) ⟨hx, hb, hml, hown, hts⟩ (mX7_its l D cy st sk sv B am am0 am1 am2 am3 am4 am5 am6 am7 am8 am9 am10 am11 am12 n M_isHeld M_taped M_token M_from M_to M_value M_isWrong M_rowN M_ran M_actKind M_actN M_actA M_isParted r38 x1 (3 : Int32) r71 hc71) (cwV 2 hts gX7_judge_X7_its rfl rfl rfl (by decide +kernel) ⟨Nat.le_of_ble_eq_true rfl, Nat.le_of_ble_eq_true rfl⟩) hG hS hAB hP [0, 1] rfl 0 7 rfl rfl rfl rfl hl.1 rfl (Nat.le_of_ble_eq_true rfl) dX7_judge_71 rfl ?_
              refine lv_icmp_ne (tgt := 100) hx hb dX7_judge_74 (by decide) (fun c_74 => ?_) (fun c_74 => ?_)
              · have hf := zn hf c_74
                exact hB100 r38 u_aside y2 hf _ _ hP hD hS _ (lv_sub hl [0, 1, 2] rfl)
              · have hf := zp hf c_74
                refine lv_aload_n hx hb dX7_judge_77 rfl (lv_at hl 0 rfl) ?_
                refine va_get (D := D) (ci := 7) (v := .ref am5) (C := RX7) (T := TX7) (N := 26) hx hb hts hin7 hown hK hP 0 rfl rfl 12 (by decide) fl25 (fun _ h9 => h9) rfl dX7_judge_78 ?_
                refine lv_iconst (v := (3 : Int32)) hx hb dX7_judge_81 (by decide) ?_
                refine lv_iload_n hx hb dX7_judge_82 rfl (lv_at hl 2 rfl) ?_
                refine lv_imul hx hb dX7_judge_83 ?_
                refine lv_iconst (v := (2 : Int32)) hx hb dX7_judge_84 (by decide) ?_
                refine lv_iadd hx hb dX7_judge_85 ?_
                obtain ⟨h_86, hf⟩ := zg hf
                refine va_iald hx hb hK hP 3 0 rfl rfl h_86 dX7_judge_86 ?_
                refine lv_aload_n hx hb dX7_judge_87 rfl (lv_at hl 0 rfl) ?_
                refine va_get (D := D) (ci := 7) (v := .ref am0) (C := RX7) (T := TX7) (N := 26) hx hb hts hin7 hown hK hP 0 rfl rfl 0 (by decide) fl7 (fun _ h9 => h9) rfl dX7_judge_88 ?_
                refine lv_iconst (v := (3 : Int32)) hx hb dX7_judge_91 (by decide) ?_
                refine va_iald hx hb hK hP 1 0 rfl rfl vi_3_48 dX7_judge_92 ?_
                refine lv_icmp_ne (tgt := 100) hx hb dX7_judge_93 (by decide) (fun c_93 => ?_) (fun c_93 => ?_)
                · have hf := zn hf c_93
                  exact hB100 r38 u_aside y2 hf _ _ hP hD hS _ (lv_sub hl [0, 1, 2] rfl)
                · have hf := zp hf c_93
                  refine lv_iconst (v := (1 : Int32)) hx hb dX7_judge_96 (by decide) ?_
                  refine lv_goto (tgt := 101) hx hb dX7_judge_97 (by decide) ?_
                  exact hB101 r38 u_aside y2 (1 : Int32) hf _ _ hP hD hS _ (lv_sub hl [0, 1, 2] rfl)
      exact fun v25 h9 => hstep v25.1 v25.2.1 v25.2.2.1 v25.2.2.2 h9
    exact fun n0 u_s u_aside y2 y3 h9 => key n0 (u_s, u_aside, y2, y3) h9
  have hl := lv_entry ([.ref am, .int x1]) (n := 4) (Nat.le_of_ble_eq_true rfl)
  rw [lg_entry_eq]
  generalize (lg_sl ([.ref am, .int x1]) ++ List.replicate (4 - (lg_sl ([.ref am, .int x1])).length) Slot.unset).toArray = ls at hl ⊢
  have hl : lv_has ls 4 [(0, .ref am), (1, .int x1)] := hl
  have hf : ((fX7_isOne n (M_isHeld, M_taped, M_token, M_from, M_to, M_value, M_isWrong, M_rowN, M_ran, M_actKind, M_actN, M_actA, M_isParted) u_s x1).bind fun r2 => if r2 = 0 then (some ((-1 : Int32), u_s, u_aside)) else ((fX7_copyRow n u_s u_aside).bind fun r18 => lpF (fX7_judge_F25 n (M_isHeld, M_taped, M_token, M_from, M_to, M_value, M_isWrong, M_rowN, M_ran, M_actKind, M_actN, M_actA, M_isParted) u_rows x1 ) n (u_s, r18, (0 : Int32), (1 : Int32)))) = some z := hf
  refine lv_aload_n hx hb dX7_judge_0 rfl (lv_at hl 0 rfl) ?_
  refine lv_iload_n hx hb dX7_judge_1 rfl (lv_at hl 1 rfl) ?_
  obtain ⟨r2, hc2, hf⟩ := zb hf
  refine zvr (o := some (.int r2)) (As := [.int x1]) (rest := []) (stk := [.int r2]) ⟨hx, hb, hml, hown, hts⟩ (mX7_isOne l D cy st sk sv B am am0 am1 am2 am3 am4 am5 am6 am7 am8 am9 am10 am11 am12 n M_isHeld M_taped M_token M_from M_to M_value M_isWrong M_rowN M_ran M_actKind M_actN M_actA M_isParted u_s x1 r2 hc2) (cwV 1 hts gX7_judge_X7_isOne rfl rfl rfl (by decide +kernel) ⟨Nat.le_of_ble_eq_true rfl, Nat.le_of_ble_eq_true rfl⟩) hG hS hAB hP [0, 1] rfl 0 7 rfl rfl rfl rfl hl.1 rfl (Nat.le_of_ble_eq_true rfl) dX7_judge_2 rfl ?_
  refine lv_if_ne (tgt := 10) hx hb dX7_judge_5 (by decide) (fun c_5 => ?_) (fun c_5 => ?_)
  · have hf := zn hf c_5
    refine lv_aload_n hx hb dX7_judge_10 rfl (lv_at hl 0 rfl) ?_
    refine va_get (D := D) (ci := 7) (v := .ref am0) (C := RX7) (T := TX7) (N := 26) hx hb hts hin7 hown hK hP 0 rfl rfl 0 (by decide) fl7 (fun _ h9 => h9) rfl dX7_judge_11 ?_
    refine lv_aload_n hx hb dX7_judge_14 rfl (lv_at hl 0 rfl) ?_
    refine va_get (D := D) (ci := 7) (v := .ref am2) (C := RX7) (T := TX7) (N := 26) hx hb hts hin7 hown hK hP 0 rfl rfl 2 (by decide) fl16 (fun _ h9 => h9) rfl dX7_judge_15 ?_
    obtain ⟨r18, hc18, hf⟩ := zb hf
    refine zsw (o := none) (As := [.ref am0, .ref am2]) (rest := []) (stk := []) ⟨hx, hb, hml, hown, hts⟩ (mX7_copyRow l D cy st sk sv B am0 am2 _ n u_s u_aside r18 hc18) (va_cwS 2 hts gX7_judge_X7_copyRow rfl rfl rfl (by decide +kernel) ⟨Nat.le_of_ble_eq_true rfl, Nat.le_of_ble_eq_true rfl⟩) hG hS hAB hA hP hD [1, 2] (by decide) rfl rfl rfl rfl rfl hl.1 rfl (Nat.le_of_ble_eq_true rfl) dX7_judge_18 rfl (fun H locs hP hD hS => ?_)
    have hP : va_P D vwCl [(am, .inr (7, [.ref am0, .ref am1, .ref am2, .ref am3, .int M_isHeld, .ref am4, .int M_taped, .int M_token, .int M_from, .int M_to, .int M_value, .int M_isWrong, .ref am5, .int M_rowN, .ref am6, .ref am7, .ref am8, .ref am9, .ref am10, .ref am11, .ref am12, .int M_ran, .int M_actKind, .int M_actN, .int M_actA, .int M_isParted])), (am0, .inl (cy 0, 48, .inl u_s)), (am2, .inl (cy 0, 48, .inl r18)), (am5, .inl (cy 0, 30, .inl u_rows))] H := hP
    have hD : va_D A [(am, .inr (7, [.ref am0, .ref am1, .ref am2, .ref am3, .int M_isHeld, .ref am4, .int M_taped, .int M_token, .int M_from, .int M_to, .int M_value, .int M_isWrong, .ref am5, .int M_rowN, .ref am6, .ref am7, .ref am8, .ref am9, .ref am10, .ref am11, .ref am12, .int M_ran, .int M_actKind, .int M_actN, .int M_actA, .int M_isParted])), (am0, .inl (cy 0, 48, .inl u_s)), (am2, .inl (cy 0, 48, .inl r18)), (am5, .inl (cy 0, 30, .inl u_rows))] := hD
    refine lv_iconst (v := (0 : Int32)) hx hb dX7_judge_21 (by decide) ?_
    refine lv_istore_n (lv' := [(2, .int (0 : Int32)), (0, .ref am), (1, .int x1)]) hx hb dX7_judge_22 rfl hl (by decide) rfl (fun ls hl => ?_)
    refine lv_iconst (v := (1 : Int32)) hx hb dX7_judge_23 (by decide) ?_
    refine lv_istore_n (lv' := [(3, .int (1 : Int32)), (2, .int (0 : Int32)), (0, .ref am), (1, .int x1)]) hx hb dX7_judge_24 rfl hl (by decide) rfl (fun ls hl => ?_)
    exact hL25 n u_s r18 (0 : Int32) (1 : Int32) hf _ _ hP hD hS _ (lv_sub hl [2, 3, 1, 0] rfl)
  · have hf := zp hf c_5
    refine lv_iconst (v := (-1 : Int32)) hx hb dX7_judge_8 (by decide) ?_
    exact W.iret hx hb hr (fun t ht hW => hfin (-1 : Int32) u_s u_aside hf _ t ht hP (hS.F ht)) hS.2.2 dX7_judge_9
set_option maxRecDepth 100000 in
set_option maxHeartbeats 100000000 in
theorem mX7_isShelf (l : Launch) (D : va_G) (cy : Nat → ClassId) (st sk sv : Nat → Nat) (B : Nat)  (n : Nat)  (x0 : Int32) (z : Int32) (hf : fX7_isShelf n x0 = some z) : Met l yX7_isShelf wsX7_isShelf ({ frames := 1, cells := 0, slots := 0, locals := 25 }) (PcR [.int x0] D cy st sk sv B []) (Qr (some (.int z))) 0 0 (fun _ => False) := by
  refine Met.ofW (cc := cX7_isShelf) (maxL := 1) (ret := (some .boolean)) (by decide) rfl ?_
  intro p e s m args below meth c s₁ Bd hml hv
  obtain ⟨rfl, hP, hG⟩ := hv
  have hx := Bd.exec
  have hb := Bd.bytes
  have hr := Bd.returns
  have hts := atoms_spec (ws := wsX7_isShelf) Bd.pre
  have hown : s.vm.findClass RX7 = some m.cls := findClass_of_methodNamed Bd.named
  have hlocks := Bd.notSynchronized
  have hK := hG.1
  have hS : va_S (fun q => B ≤ q) s.heap s.heap [] := va_S.rf
  have hAB : ∀ q, (fun q => B ≤ q) q → B ≤ q := fun _ h => h
  have hl := lv_entry ([.int x0]) (n := 1) (Nat.le_of_ble_eq_true rfl)
  rw [lg_entry_eq]
  generalize (lg_sl ([.int x0]) ++ List.replicate (1 - (lg_sl ([.int x0])).length) Slot.unset).toArray = ls at hl ⊢
  have hl : lv_has ls 1 [(0, .int x0)] := hl
  have hf : ((fX7_isIn n x0.toInt64 (0 : Int64) (3 : Int64)).bind fun r6 => if ¬ (r6 = 0 ∨ r6 = 1) then none else some r6) = some z := hf
  refine lv_iload_n hx hb dX7_isShelf_0 rfl (lv_at hl 0 rfl) ?_
  refine lv_i2l hx hb dX7_isShelf_1 rfl ?_
  refine lv_lconst (v := (0 : Int64)) hx hb dX7_isShelf_2 (by decide) ?_
  refine lv_ldc2 (v := (3 : Int64)) hx hb hown (hts (.constantLong RX7 143 (3)) (by decide +kernel)) dX7_isShelf_3 ?_
  obtain ⟨r6, hc6, hf⟩ := zb hf
  refine zsr (o := some (.int r6)) (As := [.long x0.toInt64, .long (0 : Int64), .long (3 : Int64)]) (rest := []) (stk := [.int r6]) ⟨hx, hb, hml, hown, hts⟩ (mX7_isIn l D cy st sk sv B  n x0.toInt64 (0 : Int64) (3 : Int64) r6 hc6) (va_cwS 3 hts gX7_isShelf_X7_isIn rfl rfl rfl (by decide +kernel) ⟨Nat.le_of_ble_eq_true rfl, Nat.le_of_ble_eq_true rfl⟩) hG hS hAB hP [] rfl rfl hl.1 rfl (Nat.le_of_ble_eq_true rfl) dX7_isShelf_6 rfl ?_
  obtain ⟨h_9, hf⟩ := zg hf
  cases hf
  exact W.zret hx hb hr (nz_b h_9).1 (fun t ht hW => ⟨rfl, ht⟩) (fun q h => absurd h List.not_mem_nil) dX7_isShelf_9
set_option maxRecDepth 100000 in
set_option maxHeartbeats 100000000 in
theorem mX7_sheet (l : Launch) (D : va_G) (cy : Nat → ClassId) (st sk sv : Nat → Nat) (B : Nat) (am : Nat) (am0 : Nat) (am1 : Nat) (am2 : Nat) (am3 : Nat) (am4 : Nat) (am5 : Nat) (am6 : Nat) (am7 : Nat) (am8 : Nat) (am9 : Nat) (am10 : Nat) (am11 : Nat) (am12 : Nat) (sz : Nat) (n : Nat) (M_isHeld : Int32) (M_taped : Int32) (M_token : Int32) (M_from : Int32) (M_to : Int32) (M_value : Int32) (M_isWrong : Int32) (M_rowN : Int32) (M_ran : Int32) (M_actKind : Int32) (M_actN : Int32) (M_actA : Int32) (M_isParted : Int32) (u_sortOf : (Nat → Int32)) (u_sizeOf : (Nat → Int32)) (u_numbers : (Nat → Int32)) (x1 : Int32) (x2 : Int32) (x3 : Int32) (z : Int32 × (Nat → Int32) × (Nat → Int32) × (Nat → Int32)) (hf : fX7_sheet n (M_isHeld, M_taped, M_token, M_from, M_to, M_value, M_isWrong, M_rowN, M_ran, M_actKind, M_actN, M_actA, M_isParted) u_sortOf u_sizeOf u_numbers x1 x2 x3 = some z) : Met l yX7_sheet wsX7_sheet ({ frames := 2, cells := 0, slots := 0, locals := 45 }) (PcW [.ref am, .int x1, .int x2, .int x3] D cy st sk sv B sz [(am, .inr (7, [.ref am0, .ref am1, .ref am2, .ref am3, .int M_isHeld, .ref am4, .int M_taped, .int M_token, .int M_from, .int M_to, .int M_value, .int M_isWrong, .ref am5, .int M_rowN, .ref am6, .ref am7, .ref am8, .ref am9, .ref am10, .ref am11, .ref am12, .int M_ran, .int M_actKind, .int M_actN, .int M_actA, .int M_isParted])), (am6, .inl (cy 0, 4, .inl u_sortOf)), (am7, .inl (cy 0, 4, .inl u_sizeOf)), (am8, .inl (cy 0, 160, .inl u_numbers))]) (Qw (some (.int z.1)) D [(am, .inr (7, [.ref am0, .ref am1, .ref am2, .ref am3, .int M_isHeld, .ref am4, .int M_taped, .int M_token, .int M_from, .int M_to, .int M_value, .int M_isWrong, .ref am5, .int M_rowN, .ref am6, .ref am7, .ref am8, .ref am9, .ref am10, .ref am11, .ref am12, .int M_ran, .int M_actKind, .int M_actN, .int M_actA, .int M_isParted])), (am6, .inl (cy 0, 4, .inl z.2.1)), (am7, .inl (cy 0, 4, .inl z.2.2.1)), (am8, .inl (cy 0, 160, .inl z.2.2.2))] (va_A [(am, .inr (7, [.ref am0, .ref am1, .ref am2, .ref am3, .int M_isHeld, .ref am4, .int M_taped, .int M_token, .int M_from, .int M_to, .int M_value, .int M_isWrong, .ref am5, .int M_rowN, .ref am6, .ref am7, .ref am8, .ref am9, .ref am10, .ref am11, .ref am12, .int M_ran, .int M_actKind, .int M_actN, .int M_actA, .int M_isParted])), (am6, .inl (cy 0, 4, .inl u_sortOf)), (am7, .inl (cy 0, 4, .inl u_sizeOf)), (am8, .inl (cy 0, 160, .inl u_numbers))] sz)) 0 0 (va_A [(am, .inr (7, [.ref am0, .ref am1, .ref am2, .ref am3, .int M_isHeld, .ref am4, .int M_taped, .int M_token, .int M_from, .int M_to, .int M_value, .int M_isWrong, .ref am5, .int M_rowN, .ref am6, .ref am7, .ref am8, .ref am9, .ref am10, .ref am11, .ref am12, .int M_ran, .int M_actKind, .int M_actN, .int M_actA, .int M_isParted])), (am6, .inl (cy 0, 4, .inl u_sortOf)), (am7, .inl (cy 0, 4, .inl u_sizeOf)), (am8, .inl (cy 0, 160, .inl u_numbers))] sz) := by
  refine Met.ofW (cc := cX7_sheet) (maxL := 5) (ret := (some .int)) (by decide) rfl ?_
  intro p e s m args below meth c s₁ Bd hml hv
  obtain ⟨rfl, hsz, hP, hD0, hBs, hG⟩ := hv
  have hx := Bd.exec
  have hb := Bd.bytes
  have hr := Bd.returns
  have hts := atoms_spec (ws := wsX7_sheet) Bd.pre
  have hown : s.vm.findClass RX7 = some m.cls := findClass_of_methodNamed Bd.named
  have hlocks := Bd.notSynchronized
  have hK := hG.1
  subst hsz
  have hD := hD0.self (sz := s.heap.size)
  have hAB0 := zA hD0 hBs
  generalize hAe : va_A [(am, .inr (7, [.ref am0, .ref am1, .ref am2, .ref am3, .int M_isHeld, .ref am4, .int M_taped, .int M_token, .int M_from, .int M_to, .int M_value, .int M_isWrong, .ref am5, .int M_rowN, .ref am6, .ref am7, .ref am8, .ref am9, .ref am10, .ref am11, .ref am12, .int M_ran, .int M_actKind, .int M_actN, .int M_actA, .int M_isParted])), (am6, .inl (cy 0, 4, .inl u_sortOf)), (am7, .inl (cy 0, 4, .inl u_sizeOf)), (am8, .inl (cy 0, 160, .inl u_numbers))] s.heap.size = A at hD hAB0 ⊢
  have hA : ∀ q : Nat, s.heap.size ≤ q → A q := fun q h => by rw [← hAe]; exact Or.inr h
  have hAB : ∀ q, A q → B ≤ q := hAB0
  have hS : va_S A s.heap s.heap [] := va_S.rf
  have hfin : ∀ (z0 : Int32) (u_sortOf : (Nat → Int32)) (u_sizeOf : (Nat → Int32)) (u_numbers : (Nat → Int32)), some (z0, u_sortOf, u_sizeOf, u_numbers) = some z → ∀ (H : Heap) (t : State), t.heap = H → va_P D vwCl [(am, .inr (7, [.ref am0, .ref am1, .ref am2, .ref am3, .int M_isHeld, .ref am4, .int M_taped, .int M_token, .int M_from, .int M_to, .int M_value, .int M_isWrong, .ref am5, .int M_rowN, .ref am6, .ref am7, .ref am8, .ref am9, .ref am10, .ref am11, .ref am12, .int M_ran, .int M_actKind, .int M_actN, .int M_actA, .int M_isParted])), (am6, .inl (cy 0, 4, .inl u_sortOf)), (am7, .inl (cy 0, 4, .inl u_sizeOf)), (am8, .inl (cy 0, 160, .inl u_numbers))] H → va_F A s t → Qw (some (.int z.1)) D [(am, .inr (7, [.ref am0, .ref am1, .ref am2, .ref am3, .int M_isHeld, .ref am4, .int M_taped, .int M_token, .int M_from, .int M_to, .int M_value, .int M_isWrong, .ref am5, .int M_rowN, .ref am6, .ref am7, .ref am8, .ref am9, .ref am10, .ref am11, .ref am12, .int M_ran, .int M_actKind, .int M_actN, .int M_actA, .int M_isParted])), (am6, .inl (cy 0, 4, .inl z.2.1)), (am7, .inl (cy 0, 4, .inl z.2.2.1)), (am8, .inl (cy 0, 160, .inl z.2.2.2))] A ([.ref am, .int x1, .int x2, .int x3] : List Value).toArray s (.returned (some (.int z0))) t := by
    intro z0 u_sortOf u_sizeOf u_numbers h9 H t ht hP hF
    cases h9
    exact ⟨rfl, by rw [ht]; exact hP, hF⟩
  have hin7 : ∀ w ∈ u_ws RX7 TX7 26, w ∈ wsX7_sheet := by decide +kernel
  have fl28 := hts (.fieldLink RX7 28 "KinCutleryModel" "sortOf" "[I") (by decide +kernel)
  have fl31 := hts (.fieldLink RX7 31 "KinCutleryModel" "sizeOf" "[I") (by decide +kernel)
  have fl34 := hts (.fieldLink RX7 34 "KinCutleryModel" "numbers" "[I") (by decide +kernel)
  have hL69 : ∀ (n0 : Nat) (u_sortOf : (Nat → Int32)) (u_sizeOf : (Nat → Int32)) (u_numbers : (Nat → Int32)) (y4 : Int32), lpF (fX7_sheet_F69 n (M_isHeld, M_taped, M_token, M_from, M_to, M_value, M_isWrong, M_rowN, M_ran, M_actKind, M_actN, M_actA, M_isParted) x1 x2 x3 ) n0 (u_sortOf, u_sizeOf, u_numbers, y4) = some z → ∀ (H : Heap) (locs : List Loc), va_P D vwCl [(am, .inr (7, [.ref am0, .ref am1, .ref am2, .ref am3, .int M_isHeld, .ref am4, .int M_taped, .int M_token, .int M_from, .int M_to, .int M_value, .int M_isWrong, .ref am5, .int M_rowN, .ref am6, .ref am7, .ref am8, .ref am9, .ref am10, .ref am11, .ref am12, .int M_ran, .int M_actKind, .int M_actN, .int M_actA, .int M_isParted])), (am6, .inl (cy 0, 4, .inl u_sortOf)), (am7, .inl (cy 0, 4, .inl u_sizeOf)), (am8, .inl (cy 0, 160, .inl u_numbers))] H → va_D A [(am, .inr (7, [.ref am0, .ref am1, .ref am2, .ref am3, .int M_isHeld, .ref am4, .int M_taped, .int M_token, .int M_from, .int M_to, .int M_value, .int M_isWrong, .ref am5, .int M_rowN, .ref am6, .ref am7, .ref am8, .ref am9, .ref am10, .ref am11, .ref am12, .int M_ran, .int M_actKind, .int M_actN, .int M_actA, .int M_isParted])), (am6, .inl (cy 0, 4, .inl u_sortOf)), (am7, .inl (cy 0, 4, .inl u_sizeOf)), (am8, .inl (cy 0, 160, .inl u_numbers))] → va_S A s.heap H locs → ∀ (ls : Array Slot), lv_has ls 5 [(0, .ref am), (1, .int x1), (2, .int x2), (3, .int x3), (4, .int y4)] → W p l e (headSpec wsX7_sheet ({ frames := 2, cells := 0, slots := 0, locals := 45 })).room s m ([.ref am, .int x1, .int x2, .int x3] : List Value).toArray below meth c H locs 0 0 (MQ below (Qw (some (.int z.1)) D [(am, .inr (7, [.ref am0, .ref am1, .ref am2, .ref am3, .int M_isHeld, .ref am4, .int M_taped, .int M_token, .int M_from, .int M_to, .int M_value, .int M_isWrong, .ref am5, .int M_rowN, .ref am6, .ref am7, .ref am8, .ref am9, .ref am10, .ref am11, .ref am12, .int M_ran, .int M_actKind, .int M_actN, .int M_actA, .int M_isParted])), (am6, .inl (cy 0, 4, .inl z.2.1)), (am7, .inl (cy 0, 4, .inl z.2.2.1)), (am8, .inl (cy 0, 160, .inl z.2.2.2))] A) ([.ref am, .int x1, .int x2, .int x3] : List Value).toArray s 0 0 A) (F0 m 69 ls []) := by
    have key : ∀ (n0 : Nat) (v69 : (Nat → Int32) × (Nat → Int32) × (Nat → Int32) × Int32), lpF (fX7_sheet_F69 n (M_isHeld, M_taped, M_token, M_from, M_to, M_value, M_isWrong, M_rowN, M_ran, M_actKind, M_actN, M_actA, M_isParted) x1 x2 x3 ) n0 v69 = some z → ∀ (H : Heap) (locs : List Loc), va_P D vwCl [(am, .inr (7, [.ref am0, .ref am1, .ref am2, .ref am3, .int M_isHeld, .ref am4, .int M_taped, .int M_token, .int M_from, .int M_to, .int M_value, .int M_isWrong, .ref am5, .int M_rowN, .ref am6, .ref am7, .ref am8, .ref am9, .ref am10, .ref am11, .ref am12, .int M_ran, .int M_actKind, .int M_actN, .int M_actA, .int M_isParted])), (am6, .inl (cy 0, 4, .inl v69.1)), (am7, .inl (cy 0, 4, .inl v69.2.1)), (am8, .inl (cy 0, 160, .inl v69.2.2.1))] H → va_D A [(am, .inr (7, [.ref am0, .ref am1, .ref am2, .ref am3, .int M_isHeld, .ref am4, .int M_taped, .int M_token, .int M_from, .int M_to, .int M_value, .int M_isWrong, .ref am5, .int M_rowN, .ref am6, .ref am7, .ref am8, .ref am9, .ref am10, .ref am11, .ref am12, .int M_ran, .int M_actKind, .int M_actN, .int M_actA, .int M_isParted])), (am6, .inl (cy 0, 4, .inl v69.1)), (am7, .inl (cy 0, 4, .inl v69.2.1)), (am8, .inl (cy 0, 160, .inl v69.2.2.1))] → va_S A s.heap H locs → ∀ (ls : Array Slot), lv_has ls 5 [(0, .ref am), (1, .int x1), (2, .int x2), (3, .int x3), (4, .int v69.2.2.2)] → W p l e (headSpec wsX7_sheet ({ frames := 2, cells := 0, slots := 0, locals := 45 })).room s m ([.ref am, .int x1, .int x2, .int x3] : List Value).toArray below meth c H locs 0 0 (MQ below (Qw (some (.int z.1)) D [(am, .inr (7, [.ref am0, .ref am1, .ref am2, .ref am3, .int M_isHeld, .ref am4, .int M_taped, .int M_token, .int M_from, .int M_to, .int M_value, .int M_isWrong, .ref am5, .int M_rowN, .ref am6, .ref am7, .ref am8, .ref am9, .ref am10, .ref am11, .ref am12, .int M_ran, .int M_actKind, .int M_actN, .int M_actA, .int M_isParted])), (am6, .inl (cy 0, 4, .inl z.2.1)), (am7, .inl (cy 0, 4, .inl z.2.2.1)), (am8, .inl (cy 0, 160, .inl z.2.2.2))] A) ([.ref am, .int x1, .int x2, .int x3] : List Value).toArray s 0 0 A) (F0 m 69 ls []) := by
      refine lpW ?_
      intro k69 hk690
      have hk69 : ∀ (u_sortOf : (Nat → Int32)) (u_sizeOf : (Nat → Int32)) (u_numbers : (Nat → Int32)) (y4 : Int32), k69 (u_sortOf, u_sizeOf, u_numbers, y4) = some z → ∀ (H : Heap) (locs : List Loc), va_P D vwCl [(am, .inr (7, [.ref am0, .ref am1, .ref am2, .ref am3, .int M_isHeld, .ref am4, .int M_taped, .int M_token, .int M_from, .int M_to, .int M_value, .int M_isWrong, .ref am5, .int M_rowN, .ref am6, .ref am7, .ref am8, .ref am9, .ref am10, .ref am11, .ref am12, .int M_ran, .int M_actKind, .int M_actN, .int M_actA, .int M_isParted])), (am6, .inl (cy 0, 4, .inl u_sortOf)), (am7, .inl (cy 0, 4, .inl u_sizeOf)), (am8, .inl (cy 0, 160, .inl u_numbers))] H → va_D A [(am, .inr (7, [.ref am0, .ref am1, .ref am2, .ref am3, .int M_isHeld, .ref am4, .int M_taped, .int M_token, .int M_from, .int M_to, .int M_value, .int M_isWrong, .ref am5, .int M_rowN, .ref am6, .ref am7, .ref am8, .ref am9, .ref am10, .ref am11, .ref am12, .int M_ran, .int M_actKind, .int M_actN, .int M_actA, .int M_isParted])), (am6, .inl (cy 0, 4, .inl u_sortOf)), (am7, .inl (cy 0, 4, .inl u_sizeOf)), (am8, .inl (cy 0, 160, .inl u_numbers))] → va_S A s.heap H locs → ∀ (ls : Array Slot), lv_has ls 5 [(0, .ref am), (1, .int x1), (2, .int x2), (3, .int x3), (4, .int y4)] → W p l e (headSpec wsX7_sheet ({ frames := 2, cells := 0, slots := 0, locals := 45 })).room s m ([.ref am, .int x1, .int x2, .int x3] : List Value).toArray below meth c H locs 0 0 (MQ below (Qw (some (.int z.1)) D [(am, .inr (7, [.ref am0, .ref am1, .ref am2, .ref am3, .int M_isHeld, .ref am4, .int M_taped, .int M_token, .int M_from, .int M_to, .int M_value, .int M_isWrong, .ref am5, .int M_rowN, .ref am6, .ref am7, .ref am8, .ref am9, .ref am10, .ref am11, .ref am12, .int M_ran, .int M_actKind, .int M_actN, .int M_actA, .int M_isParted])), (am6, .inl (cy 0, 4, .inl z.2.1)), (am7, .inl (cy 0, 4, .inl z.2.2.1)), (am8, .inl (cy 0, 160, .inl z.2.2.2))] A) ([.ref am, .int x1, .int x2, .int x3] : List Value).toArray s 0 0 A) (F0 m 69 ls []) := fun u_sortOf u_sizeOf u_numbers y4 h9 => hk690 (u_sortOf, u_sizeOf, u_numbers, y4) h9
      have hstep : ∀ (u_sortOf : (Nat → Int32)) (u_sizeOf : (Nat → Int32)) (u_numbers : (Nat → Int32)) (y4 : Int32), fX7_sheet_F69 n (M_isHeld, M_taped, M_token, M_from, M_to, M_value, M_isWrong, M_rowN, M_ran, M_actKind, M_actN, M_actA, M_isParted) x1 x2 x3  k69 (u_sortOf, u_sizeOf, u_numbers, y4) = some z → ∀ (H : Heap) (locs : List Loc), va_P D vwCl [(am, .inr (7, [.ref am0, .ref am1, .ref am2, .ref am3, .int M_isHeld, .ref am4, .int M_taped, .int M_token, .int M_from, .int M_to, .int M_value, .int M_isWrong, .ref am5, .int M_rowN, .ref am6, .ref am7, .ref am8, .ref am9, .ref am10, .ref am11, .ref am12, .int M_ran, .int M_actKind, .int M_actN, .int M_actA, .int M_isParted])), (am6, .inl (cy 0, 4, .inl u_sortOf)), (am7, .inl (cy 0, 4, .inl u_sizeOf)), (am8, .inl (cy 0, 160, .inl u_numbers))] H → va_D A [(am, .inr (7, [.ref am0, .ref am1, .ref am2, .ref am3, .int M_isHeld, .ref am4, .int M_taped, .int M_token, .int M_from, .int M_to, .int M_value, .int M_isWrong, .ref am5, .int M_rowN, .ref am6, .ref am7, .ref am8, .ref am9, .ref am10, .ref am11, .ref am12, .int M_ran, .int M_actKind, .int M_actN, .int M_actA, .int M_isParted])), (am6, .inl (cy 0, 4, .inl u_sortOf)), (am7, .inl (cy 0, 4, .inl u_sizeOf)), (am8, .inl (cy 0, 160, .inl u_numbers))] → va_S A s.heap H locs → ∀ (ls : Array Slot), lv_has ls 5 [(0, .ref am), (1, .int x1), (2, .int x2), (3, .int x3), (4, .int y4)] → W p l e (headSpec wsX7_sheet ({ frames := 2, cells := 0, slots := 0, locals := 45 })).room s m ([.ref am, .int x1, .int x2, .int x3] : List Value).toArray below meth c H locs 0 0 (MQ below (Qw (some (.int z.1)) D [(am, .inr (7, [.ref am0, .ref am1, .ref am2, .ref am3, .int M_isHeld, .ref am4, .int M_taped, .int M_token, .int M_from, .int M_to, .int M_value, .int M_isWrong, .ref am5, .int M_rowN, .ref am6, .ref am7, .ref am8, .ref am9, .ref am10, .ref am11, .ref am12, .int M_ran, .int M_actKind, .int M_actN, .int M_actA, .int M_isParted])), (am6, .inl (cy 0, 4, .inl z.2.1)), (am7, .inl (cy 0, 4, .inl z.2.2.1)), (am8, .inl (cy 0, 160, .inl z.2.2.2))] A) ([.ref am, .int x1, .int x2, .int x3] : List Value).toArray s 0 0 A) (F0 m 69 ls []) := by
        intro u_sortOf u_sizeOf u_numbers y4 hf H locs hP hD hS ls hl
        have hf : (if (40 : Int32) ≤ y4 then (some ((1 : Int32), u_sortOf, u_sizeOf, u_numbers)) else (if (((40 : Int32) * x1) + y4) < 0 ∨ 160 ≤ (((40 : Int32) * x1) + y4).toNatClampNeg then none else k69 (u_sortOf, u_sizeOf, (upd u_numbers (((40 : Int32) * x1) + y4).toNatClampNeg (0 : Int32)), (y4 + (1 : Int32))))) = some z := hf
        refine lv_iload hx hb dX7_sheet_69 (lv_at hl 4 rfl) ?_
        refine lv_bipush (v := (40 : Int32)) hx hb dX7_sheet_71 (by decide) ?_
        refine lv_icmp_ge (tgt := 95) hx hb dX7_sheet_73 (by decide) (fun c_73 => ?_) (fun c_73 => ?_)
        · have hf := zp hf c_73
          refine lv_iconst (v := (1 : Int32)) hx hb dX7_sheet_95 (by decide) ?_
          exact W.iret hx hb hr (fun t ht hW => hfin (1 : Int32) u_sortOf u_sizeOf u_numbers hf _ t ht hP (hS.F ht)) hS.2.2 dX7_sheet_96
        · have hf := zn hf c_73
          refine lv_aload_n hx hb dX7_sheet_76 rfl (lv_at hl 0 rfl) ?_
          refine va_get (D := D) (ci := 7) (v := .ref am8) (C := RX7) (T := TX7) (N := 26) hx hb hts hin7 hown hK hP 0 rfl rfl 16 (by decide) fl34 (fun _ h9 => h9) rfl dX7_sheet_77 ?_
          refine lv_bipush (v := (40 : Int32)) hx hb dX7_sheet_80 (by decide) ?_
          refine lv_iload_n hx hb dX7_sheet_82 rfl (lv_at hl 1 rfl) ?_
          refine lv_imul hx hb dX7_sheet_83 ?_
          refine lv_iload hx hb dX7_sheet_84 (lv_at hl 4 rfl) ?_
          refine lv_iadd hx hb dX7_sheet_86 ?_
          refine lv_iconst (v := (0 : Int32)) hx hb dX7_sheet_87 (by decide) ?_
          obtain ⟨h_88, hf⟩ := zg hf
          refine va_iast hx hb hK hP hD hS 3 0 rfl rfl h_88 dX7_sheet_88 (fun H locs hP hD hS => ?_)
          have hP : va_P D vwCl [(am, .inr (7, [.ref am0, .ref am1, .ref am2, .ref am3, .int M_isHeld, .ref am4, .int M_taped, .int M_token, .int M_from, .int M_to, .int M_value, .int M_isWrong, .ref am5, .int M_rowN, .ref am6, .ref am7, .ref am8, .ref am9, .ref am10, .ref am11, .ref am12, .int M_ran, .int M_actKind, .int M_actN, .int M_actA, .int M_isParted])), (am6, .inl (cy 0, 4, .inl u_sortOf)), (am7, .inl (cy 0, 4, .inl u_sizeOf)), (am8, .inl (cy 0, 160, .inl (upd u_numbers (((40 : Int32) * x1) + y4).toNatClampNeg (0 : Int32))))] H := hP
          have hD : va_D A [(am, .inr (7, [.ref am0, .ref am1, .ref am2, .ref am3, .int M_isHeld, .ref am4, .int M_taped, .int M_token, .int M_from, .int M_to, .int M_value, .int M_isWrong, .ref am5, .int M_rowN, .ref am6, .ref am7, .ref am8, .ref am9, .ref am10, .ref am11, .ref am12, .int M_ran, .int M_actKind, .int M_actN, .int M_actA, .int M_isParted])), (am6, .inl (cy 0, 4, .inl u_sortOf)), (am7, .inl (cy 0, 4, .inl u_sizeOf)), (am8, .inl (cy 0, 160, .inl (upd u_numbers (((40 : Int32) * x1) + y4).toNatClampNeg (0 : Int32))))] := hD
          refine lv_iinc (v := (y4 + (1 : Int32))) (lv' := [(4, .int (y4 + (1 : Int32))), (0, .ref am), (1, .int x1), (2, .int x2), (3, .int x3)]) hx hb dX7_sheet_89 hl (k := 4) rfl rfl (by decide) rfl (fun ls hl => ?_)
          refine lv_goto (tgt := 69) hx hb dX7_sheet_92 (by decide) ?_
          exact hk69 u_sortOf u_sizeOf (upd u_numbers (((40 : Int32) * x1) + y4).toNatClampNeg (0 : Int32)) (y4 + (1 : Int32)) hf _ _ hP hD hS _ (lv_sub hl [1, 2, 3, 4, 0] rfl)
      exact fun v69 h9 => hstep v69.1 v69.2.1 v69.2.2.1 v69.2.2.2 h9
    exact fun n0 u_sortOf u_sizeOf u_numbers y4 h9 => key n0 (u_sortOf, u_sizeOf, u_numbers, y4) h9
  have hB65 : ∀ (u_sortOf : (Nat → Int32)) (u_sizeOf : (Nat → Int32)) (u_numbers : (Nat → Int32)) (w1 : Int32) (w2 : Int32), fX7_sheet_b65 n (M_isHeld, M_taped, M_token, M_from, M_to, M_value, M_isWrong, M_rowN, M_ran, M_actKind, M_actN, M_actA, M_isParted) x1 x2 x3  u_sortOf u_sizeOf u_numbers w1 w2 = some z → ∀ (H : Heap) (locs : List Loc), va_P D vwCl [(am, .inr (7, [.ref am0, .ref am1, .ref am2, .ref am3, .int M_isHeld, .ref am4, .int M_taped, .int M_token, .int M_from, .int M_to, .int M_value, .int M_isWrong, .ref am5, .int M_rowN, .ref am6, .ref am7, .ref am8, .ref am9, .ref am10, .ref am11, .ref am12, .int M_ran, .int M_actKind, .int M_actN, .int M_actA, .int M_isParted])), (am6, .inl (cy 0, 4, .inl u_sortOf)), (am7, .inl (cy 0, 4, .inl u_sizeOf)), (am8, .inl (cy 0, 160, .inl u_numbers))] H → va_D A [(am, .inr (7, [.ref am0, .ref am1, .ref am2, .ref am3, .int M_isHeld, .ref am4, .int M_taped, .int M_token, .int M_from, .int M_to, .int M_value, .int M_isWrong, .ref am5, .int M_rowN, .ref am6, .ref am7, .ref am8, .ref am9, .ref am10, .ref am11, .ref am12, .int M_ran, .int M_actKind, .int M_actN, .int M_actA, .int M_isParted])), (am6, .inl (cy 0, 4, .inl u_sortOf)), (am7, .inl (cy 0, 4, .inl u_sizeOf)), (am8, .inl (cy 0, 160, .inl u_numbers))] → va_S A s.heap H locs → ∀ (ls : Array Slot), lv_has ls 5 [(0, .ref am), (1, .int x1), (2, .int x2), (3, .int x3)] → W p l e (headSpec wsX7_sheet ({ frames := 2, cells := 0, slots := 0, locals := 45 })).room s m ([.ref am, .int x1, .int x2, .int x3] : List Value).toArray below meth c H locs 0 0 (MQ below (Qw (some (.int z.1)) D [(am, .inr (7, [.ref am0, .ref am1, .ref am2, .ref am3, .int M_isHeld, .ref am4, .int M_taped, .int M_token, .int M_from, .int M_to, .int M_value, .int M_isWrong, .ref am5, .int M_rowN, .ref am6, .ref am7, .ref am8, .ref am9, .ref am10, .ref am11, .ref am12, .int M_ran, .int M_actKind, .int M_actN, .int M_actA, .int M_isParted])), (am6, .inl (cy 0, 4, .inl z.2.1)), (am7, .inl (cy 0, 4, .inl z.2.2.1)), (am8, .inl (cy 0, 160, .inl z.2.2.2))] A) ([.ref am, .int x1, .int x2, .int x3] : List Value).toArray s 0 0 A) (F0 m 65 ls [.int w2, .int w1, .ref am7]) := by
    intro u_sortOf u_sizeOf u_numbers w1 w2 hf H locs hP hD hS ls hl
    have hf : (if w1 < 0 ∨ 4 ≤ w1.toNatClampNeg then none else lpF (fX7_sheet_F69 n (M_isHeld, M_taped, M_token, M_from, M_to, M_value, M_isWrong, M_rowN, M_ran, M_actKind, M_actN, M_actA, M_isParted) x1 x2 x3 ) n (u_sortOf, (upd u_sizeOf w1.toNatClampNeg w2), u_numbers, (0 : Int32))) = some z := hf
    obtain ⟨h_65, hf⟩ := zg hf
    refine va_iast hx hb hK hP hD hS 2 0 rfl rfl h_65 dX7_sheet_65 (fun H locs hP hD hS => ?_)
    have hP : va_P D vwCl [(am, .inr (7, [.ref am0, .ref am1, .ref am2, .ref am3, .int M_isHeld, .ref am4, .int M_taped, .int M_token, .int M_from, .int M_to, .int M_value, .int M_isWrong, .ref am5, .int M_rowN, .ref am6, .ref am7, .ref am8, .ref am9, .ref am10, .ref am11, .ref am12, .int M_ran, .int M_actKind, .int M_actN, .int M_actA, .int M_isParted])), (am6, .inl (cy 0, 4, .inl u_sortOf)), (am7, .inl (cy 0, 4, .inl (upd u_sizeOf w1.toNatClampNeg w2))), (am8, .inl (cy 0, 160, .inl u_numbers))] H := hP
    have hD : va_D A [(am, .inr (7, [.ref am0, .ref am1, .ref am2, .ref am3, .int M_isHeld, .ref am4, .int M_taped, .int M_token, .int M_from, .int M_to, .int M_value, .int M_isWrong, .ref am5, .int M_rowN, .ref am6, .ref am7, .ref am8, .ref am9, .ref am10, .ref am11, .ref am12, .int M_ran, .int M_actKind, .int M_actN, .int M_actA, .int M_isParted])), (am6, .inl (cy 0, 4, .inl u_sortOf)), (am7, .inl (cy 0, 4, .inl (upd u_sizeOf w1.toNatClampNeg w2))), (am8, .inl (cy 0, 160, .inl u_numbers))] := hD
    refine lv_iconst (v := (0 : Int32)) hx hb dX7_sheet_66 (by decide) ?_
    refine lv_istore (lv' := [(4, .int (0 : Int32)), (0, .ref am), (1, .int x1), (2, .int x2), (3, .int x3)]) hx hb dX7_sheet_67 hl (by decide) rfl (fun ls hl => ?_)
    exact hL69 n u_sortOf (upd u_sizeOf w1.toNatClampNeg w2) u_numbers (0 : Int32) hf _ _ hP hD hS _ (lv_sub hl [1, 2, 3, 4, 0] rfl)
  have hB44 : ∀ (u_sortOf : (Nat → Int32)) (u_sizeOf : (Nat → Int32)) (u_numbers : (Nat → Int32)), fX7_sheet_b44 n (M_isHeld, M_taped, M_token, M_from, M_to, M_value, M_isWrong, M_rowN, M_ran, M_actKind, M_actN, M_actA, M_isParted) x1 x2 x3  u_sortOf u_sizeOf u_numbers = some z → ∀ (H : Heap) (locs : List Loc), va_P D vwCl [(am, .inr (7, [.ref am0, .ref am1, .ref am2, .ref am3, .int M_isHeld, .ref am4, .int M_taped, .int M_token, .int M_from, .int M_to, .int M_value, .int M_isWrong, .ref am5, .int M_rowN, .ref am6, .ref am7, .ref am8, .ref am9, .ref am10, .ref am11, .ref am12, .int M_ran, .int M_actKind, .int M_actN, .int M_actA, .int M_isParted])), (am6, .inl (cy 0, 4, .inl u_sortOf)), (am7, .inl (cy 0, 4, .inl u_sizeOf)), (am8, .inl (cy 0, 160, .inl u_numbers))] H → va_D A [(am, .inr (7, [.ref am0, .ref am1, .ref am2, .ref am3, .int M_isHeld, .ref am4, .int M_taped, .int M_token, .int M_from, .int M_to, .int M_value, .int M_isWrong, .ref am5, .int M_rowN, .ref am6, .ref am7, .ref am8, .ref am9, .ref am10, .ref am11, .ref am12, .int M_ran, .int M_actKind, .int M_actN, .int M_actA, .int M_isParted])), (am6, .inl (cy 0, 4, .inl u_sortOf)), (am7, .inl (cy 0, 4, .inl u_sizeOf)), (am8, .inl (cy 0, 160, .inl u_numbers))] → va_S A s.heap H locs → ∀ (ls : Array Slot), lv_has ls 5 [(0, .ref am), (1, .int x1), (2, .int x2), (3, .int x3)] → W p l e (headSpec wsX7_sheet ({ frames := 2, cells := 0, slots := 0, locals := 45 })).room s m ([.ref am, .int x1, .int x2, .int x3] : List Value).toArray below meth c H locs 0 0 (MQ below (Qw (some (.int z.1)) D [(am, .inr (7, [.ref am0, .ref am1, .ref am2, .ref am3, .int M_isHeld, .ref am4, .int M_taped, .int M_token, .int M_from, .int M_to, .int M_value, .int M_isWrong, .ref am5, .int M_rowN, .ref am6, .ref am7, .ref am8, .ref am9, .ref am10, .ref am11, .ref am12, .int M_ran, .int M_actKind, .int M_actN, .int M_actA, .int M_isParted])), (am6, .inl (cy 0, 4, .inl z.2.1)), (am7, .inl (cy 0, 4, .inl z.2.2.1)), (am8, .inl (cy 0, 160, .inl z.2.2.2))] A) ([.ref am, .int x1, .int x2, .int x3] : List Value).toArray s 0 0 A) (F0 m 44 ls []) := by
    intro u_sortOf u_sizeOf u_numbers hf H locs hP hD hS ls hl
    have hf : (if x1 < 0 ∨ 4 ≤ x1.toNatClampNeg then none else if 0 ≤ x2 then (fX7_sheet_b65 n (M_isHeld, M_taped, M_token, M_from, M_to, M_value, M_isWrong, M_rowN, M_ran, M_actKind, M_actN, M_actA, M_isParted) x1 x2 x3  (upd u_sortOf x1.toNatClampNeg x2) u_sizeOf u_numbers x1 x3) else (fX7_sheet_b65 n (M_isHeld, M_taped, M_token, M_from, M_to, M_value, M_isWrong, M_rowN, M_ran, M_actKind, M_actN, M_actA, M_isParted) x1 x2 x3  (upd u_sortOf x1.toNatClampNeg x2) u_sizeOf u_numbers x1 (0 : Int32))) = some z := hf
    refine lv_aload_n hx hb dX7_sheet_44 rfl (lv_at hl 0 rfl) ?_
    refine va_get (D := D) (ci := 7) (v := .ref am6) (C := RX7) (T := TX7) (N := 26) hx hb hts hin7 hown hK hP 0 rfl rfl 14 (by decide) fl28 (fun _ h9 => h9) rfl dX7_sheet_45 ?_
    refine lv_iload_n hx hb dX7_sheet_48 rfl (lv_at hl 1 rfl) ?_
    refine lv_iload_n hx hb dX7_sheet_49 rfl (lv_at hl 2 rfl) ?_
    obtain ⟨h_50, hf⟩ := zg hf
    refine va_iast hx hb hK hP hD hS 1 0 rfl rfl h_50 dX7_sheet_50 (fun H locs hP hD hS => ?_)
    have hP : va_P D vwCl [(am, .inr (7, [.ref am0, .ref am1, .ref am2, .ref am3, .int M_isHeld, .ref am4, .int M_taped, .int M_token, .int M_from, .int M_to, .int M_value, .int M_isWrong, .ref am5, .int M_rowN, .ref am6, .ref am7, .ref am8, .ref am9, .ref am10, .ref am11, .ref am12, .int M_ran, .int M_actKind, .int M_actN, .int M_actA, .int M_isParted])), (am6, .inl (cy 0, 4, .inl (upd u_sortOf x1.toNatClampNeg x2))), (am7, .inl (cy 0, 4, .inl u_sizeOf)), (am8, .inl (cy 0, 160, .inl u_numbers))] H := hP
    have hD : va_D A [(am, .inr (7, [.ref am0, .ref am1, .ref am2, .ref am3, .int M_isHeld, .ref am4, .int M_taped, .int M_token, .int M_from, .int M_to, .int M_value, .int M_isWrong, .ref am5, .int M_rowN, .ref am6, .ref am7, .ref am8, .ref am9, .ref am10, .ref am11, .ref am12, .int M_ran, .int M_actKind, .int M_actN, .int M_actA, .int M_isParted])), (am6, .inl (cy 0, 4, .inl (upd u_sortOf x1.toNatClampNeg x2))), (am7, .inl (cy 0, 4, .inl u_sizeOf)), (am8, .inl (cy 0, 160, .inl u_numbers))] := hD
    refine lv_aload_n hx hb dX7_sheet_51 rfl (lv_at hl 0 rfl) ?_
    refine va_get (D := D) (ci := 7) (v := .ref am7) (C := RX7) (T := TX7) (N := 26) hx hb hts hin7 hown hK hP 0 rfl rfl 15 (by decide) fl31 (fun _ h9 => h9) rfl dX7_sheet_52 ?_
    refine lv_iload_n hx hb dX7_sheet_55 rfl (lv_at hl 1 rfl) ?_
    refine lv_iload_n hx hb dX7_sheet_56 rfl (lv_at hl 2 rfl) ?_
    refine lv_if_ge (tgt := 64) hx hb dX7_sheet_57 (by decide) (fun c_57 => ?_) (fun c_57 => ?_)
    · have hf := zp hf c_57
      refine lv_iload_n hx hb dX7_sheet_64 rfl (lv_at hl 3 rfl) ?_
      exact hB65 (upd u_sortOf x1.toNatClampNeg x2) u_sizeOf u_numbers x1 x3 hf _ _ hP hD hS _ (lv_sub hl [0, 1, 2, 3] rfl)
    · have hf := zn hf c_57
      refine lv_iconst (v := (0 : Int32)) hx hb dX7_sheet_60 (by decide) ?_
      refine lv_goto (tgt := 65) hx hb dX7_sheet_61 (by decide) ?_
      exact hB65 (upd u_sortOf x1.toNatClampNeg x2) u_sizeOf u_numbers x1 (0 : Int32) hf _ _ hP hD hS _ (lv_sub hl [0, 1, 2, 3] rfl)
  have hB33 : ∀ (u_sortOf : (Nat → Int32)) (u_sizeOf : (Nat → Int32)) (u_numbers : (Nat → Int32)), fX7_sheet_b33 n (M_isHeld, M_taped, M_token, M_from, M_to, M_value, M_isWrong, M_rowN, M_ran, M_actKind, M_actN, M_actA, M_isParted) x1 x2 x3  u_sortOf u_sizeOf u_numbers = some z → ∀ (H : Heap) (locs : List Loc), va_P D vwCl [(am, .inr (7, [.ref am0, .ref am1, .ref am2, .ref am3, .int M_isHeld, .ref am4, .int M_taped, .int M_token, .int M_from, .int M_to, .int M_value, .int M_isWrong, .ref am5, .int M_rowN, .ref am6, .ref am7, .ref am8, .ref am9, .ref am10, .ref am11, .ref am12, .int M_ran, .int M_actKind, .int M_actN, .int M_actA, .int M_isParted])), (am6, .inl (cy 0, 4, .inl u_sortOf)), (am7, .inl (cy 0, 4, .inl u_sizeOf)), (am8, .inl (cy 0, 160, .inl u_numbers))] H → va_D A [(am, .inr (7, [.ref am0, .ref am1, .ref am2, .ref am3, .int M_isHeld, .ref am4, .int M_taped, .int M_token, .int M_from, .int M_to, .int M_value, .int M_isWrong, .ref am5, .int M_rowN, .ref am6, .ref am7, .ref am8, .ref am9, .ref am10, .ref am11, .ref am12, .int M_ran, .int M_actKind, .int M_actN, .int M_actA, .int M_isParted])), (am6, .inl (cy 0, 4, .inl u_sortOf)), (am7, .inl (cy 0, 4, .inl u_sizeOf)), (am8, .inl (cy 0, 160, .inl u_numbers))] → va_S A s.heap H locs → ∀ (ls : Array Slot), lv_has ls 5 [(0, .ref am), (1, .int x1), (2, .int x2), (3, .int x3)] → W p l e (headSpec wsX7_sheet ({ frames := 2, cells := 0, slots := 0, locals := 45 })).room s m ([.ref am, .int x1, .int x2, .int x3] : List Value).toArray below meth c H locs 0 0 (MQ below (Qw (some (.int z.1)) D [(am, .inr (7, [.ref am0, .ref am1, .ref am2, .ref am3, .int M_isHeld, .ref am4, .int M_taped, .int M_token, .int M_from, .int M_to, .int M_value, .int M_isWrong, .ref am5, .int M_rowN, .ref am6, .ref am7, .ref am8, .ref am9, .ref am10, .ref am11, .ref am12, .int M_ran, .int M_actKind, .int M_actN, .int M_actA, .int M_isParted])), (am6, .inl (cy 0, 4, .inl z.2.1)), (am7, .inl (cy 0, 4, .inl z.2.2.1)), (am8, .inl (cy 0, 160, .inl z.2.2.2))] A) ([.ref am, .int x1, .int x2, .int x3] : List Value).toArray s 0 0 A) (F0 m 33 ls []) := by
    intro u_sortOf u_sizeOf u_numbers hf H locs hP hD hS ls hl
    have hf : (if x2 < 0 then (fX7_sheet_b44 n (M_isHeld, M_taped, M_token, M_from, M_to, M_value, M_isWrong, M_rowN, M_ran, M_actKind, M_actN, M_actA, M_isParted) x1 x2 x3  u_sortOf u_sizeOf u_numbers) else (if 0 ≤ x3 then (fX7_sheet_b44 n (M_isHeld, M_taped, M_token, M_from, M_to, M_value, M_isWrong, M_rowN, M_ran, M_actKind, M_actN, M_actA, M_isParted) x1 x2 x3  u_sortOf u_sizeOf u_numbers) else (some ((-14 : Int32), u_sortOf, u_sizeOf, u_numbers)))) = some z := hf
    refine lv_iload_n hx hb dX7_sheet_33 rfl (lv_at hl 2 rfl) ?_
    refine lv_if_lt (tgt := 44) hx hb dX7_sheet_34 (by decide) (fun c_34 => ?_) (fun c_34 => ?_)
    · have hf := zp hf c_34
      exact hB44 u_sortOf u_sizeOf u_numbers hf _ _ hP hD hS _ (lv_sub hl [0, 1, 2, 3] rfl)
    · have hf := zn hf c_34
      refine lv_iload_n hx hb dX7_sheet_37 rfl (lv_at hl 3 rfl) ?_
      refine lv_if_ge (tgt := 44) hx hb dX7_sheet_38 (by decide) (fun c_38 => ?_) (fun c_38 => ?_)
      · have hf := zp hf c_38
        exact hB44 u_sortOf u_sizeOf u_numbers hf _ _ hP hD hS _ (lv_sub hl [0, 1, 2, 3] rfl)
      · have hf := zn hf c_38
        refine lv_bipush (v := (-14 : Int32)) hx hb dX7_sheet_41 (by decide) ?_
        exact W.iret hx hb hr (fun t ht hW => hfin (-14 : Int32) u_sortOf u_sizeOf u_numbers hf _ t ht hP (hS.F ht)) hS.2.2 dX7_sheet_43
  have hl := lv_entry ([.ref am, .int x1, .int x2, .int x3]) (n := 5) (Nat.le_of_ble_eq_true rfl)
  rw [lg_entry_eq]
  generalize (lg_sl ([.ref am, .int x1, .int x2, .int x3]) ++ List.replicate (5 - (lg_sl ([.ref am, .int x1, .int x2, .int x3])).length) Slot.unset).toArray = ls at hl ⊢
  have hl : lv_has ls 5 [(0, .ref am), (1, .int x1), (2, .int x2), (3, .int x3)] := hl
  have hf : ((fX7_isSheet n x1).bind fun r1 => if r1 = 0 then (some ((-1 : Int32), u_sortOf, u_sizeOf, u_numbers)) else ((fX7_isIn n x2.toInt64 (-1 : Int64) (3 : Int64)).bind fun r15 => if r15 = 0 then (some ((-1 : Int32), u_sortOf, u_sizeOf, u_numbers)) else (if x2 < 0 then (fX7_sheet_b33 n (M_isHeld, M_taped, M_token, M_from, M_to, M_value, M_isWrong, M_rowN, M_ran, M_actKind, M_actN, M_actA, M_isParted) x1 x2 x3  u_sortOf u_sizeOf u_numbers) else (if x3 ≤ (40 : Int32) then (fX7_sheet_b33 n (M_isHeld, M_taped, M_token, M_from, M_to, M_value, M_isWrong, M_rowN, M_ran, M_actKind, M_actN, M_actA, M_isParted) x1 x2 x3  u_sortOf u_sizeOf u_numbers) else (some ((-1 : Int32), u_sortOf, u_sizeOf, u_numbers)))))) = some z := hf
  refine lv_iload_n hx hb dX7_sheet_0 rfl (lv_at hl 1 rfl) ?_
  obtain ⟨r1, hc1, hf⟩ := zb hf
  refine zsr (o := some (.int r1)) (As := [.int x1]) (rest := []) (stk := [.int r1]) ⟨hx, hb, hml, hown, hts⟩ (mX7_isSheet l D cy st sk sv B  n x1 r1 hc1) (va_cwS 1 hts gX7_sheet_X7_isSheet rfl rfl rfl (by decide +kernel) ⟨Nat.le_of_ble_eq_true rfl, Nat.le_of_ble_eq_true rfl⟩) hG hS hAB hP [] rfl rfl hl.1 rfl (Nat.le_of_ble_eq_true rfl) dX7_sheet_1 rfl ?_
  refine lv_if_eq (tgt := 31) hx hb dX7_sheet_4 (by decide) (fun c_4 => ?_) (fun c_4 => ?_)
  · have hf := zp hf c_4
    refine lv_iconst (v := (-1 : Int32)) hx hb dX7_sheet_31 (by decide) ?_
    exact W.iret hx hb hr (fun t ht hW => hfin (-1 : Int32) u_sortOf u_sizeOf u_numbers hf _ t ht hP (hS.F ht)) hS.2.2 dX7_sheet_32
  · have hf := zn hf c_4
    refine lv_iload_n hx hb dX7_sheet_7 rfl (lv_at hl 2 rfl) ?_
    refine lv_i2l hx hb dX7_sheet_8 rfl ?_
    refine lv_ldc2 (v := (-1 : Int64)) hx hb hown (hts (.constantLong RX7 256 (-1)) (by decide +kernel)) dX7_sheet_9 ?_
    refine lv_ldc2 (v := (3 : Int64)) hx hb hown (hts (.constantLong RX7 143 (3)) (by decide +kernel)) dX7_sheet_12 ?_
    obtain ⟨r15, hc15, hf⟩ := zb hf
    refine zsr (o := some (.int r15)) (As := [.long x2.toInt64, .long (-1 : Int64), .long (3 : Int64)]) (rest := []) (stk := [.int r15]) ⟨hx, hb, hml, hown, hts⟩ (mX7_isIn l D cy st sk sv B  n x2.toInt64 (-1 : Int64) (3 : Int64) r15 hc15) (va_cwS 3 hts gX7_sheet_X7_isIn rfl rfl rfl (by decide +kernel) ⟨Nat.le_of_ble_eq_true rfl, Nat.le_of_ble_eq_true rfl⟩) hG hS hAB hP [] rfl rfl hl.1 rfl (Nat.le_of_ble_eq_true rfl) dX7_sheet_15 rfl ?_
    refine lv_if_eq (tgt := 31) hx hb dX7_sheet_18 (by decide) (fun c_18 => ?_) (fun c_18 => ?_)
    · have hf := zp hf c_18
      refine lv_iconst (v := (-1 : Int32)) hx hb dX7_sheet_31 (by decide) ?_
      exact W.iret hx hb hr (fun t ht hW => hfin (-1 : Int32) u_sortOf u_sizeOf u_numbers hf _ t ht hP (hS.F ht)) hS.2.2 dX7_sheet_32
    · have hf := zn hf c_18
      refine lv_iload_n hx hb dX7_sheet_21 rfl (lv_at hl 2 rfl) ?_
      refine lv_if_lt (tgt := 33) hx hb dX7_sheet_22 (by decide) (fun c_22 => ?_) (fun c_22 => ?_)
      · have hf := zp hf c_22
        exact hB33 u_sortOf u_sizeOf u_numbers hf _ _ hP hD hS _ (lv_sub hl [0, 1, 2, 3] rfl)
      · have hf := zn hf c_22
        refine lv_iload_n hx hb dX7_sheet_25 rfl (lv_at hl 3 rfl) ?_
        refine lv_bipush (v := (40 : Int32)) hx hb dX7_sheet_26 (by decide) ?_
        refine lv_icmp_le (tgt := 33) hx hb dX7_sheet_28 (by decide) (fun c_28 => ?_) (fun c_28 => ?_)
        · have hf := zp hf c_28
          exact hB33 u_sortOf u_sizeOf u_numbers hf _ _ hP hD hS _ (lv_sub hl [0, 1, 2, 3] rfl)
        · have hf := zn hf c_28
          refine lv_iconst (v := (-1 : Int32)) hx hb dX7_sheet_31 (by decide) ?_
          exact W.iret hx hb hr (fun t ht hW => hfin (-1 : Int32) u_sortOf u_sizeOf u_numbers hf _ t ht hP (hS.F ht)) hS.2.2 dX7_sheet_32
set_option maxRecDepth 100000 in
set_option maxHeartbeats 100000000 in
theorem mX7_put (l : Launch) (D : va_G) (cy : Nat → ClassId) (st sk sv : Nat → Nat) (B : Nat) (am : Nat) (am0 : Nat) (am1 : Nat) (am2 : Nat) (am3 : Nat) (am4 : Nat) (am5 : Nat) (am6 : Nat) (am7 : Nat) (am8 : Nat) (am9 : Nat) (am10 : Nat) (am11 : Nat) (am12 : Nat) (sz : Nat) (n : Nat) (M_isHeld : Int32) (M_taped : Int32) (M_token : Int32) (M_from : Int32) (M_to : Int32) (M_value : Int32) (M_isWrong : Int32) (M_rowN : Int32) (M_ran : Int32) (M_actKind : Int32) (M_actN : Int32) (M_actA : Int32) (M_isParted : Int32) (u_sortOf : (Nat → Int32)) (u_sizeOf : (Nat → Int32)) (u_numbers : (Nat → Int32)) (x1 : Int32) (x2 : Int32) (x3 : Int32) (z : Int32 × (Nat → Int32)) (hf : fX7_put n (M_isHeld, M_taped, M_token, M_from, M_to, M_value, M_isWrong, M_rowN, M_ran, M_actKind, M_actN, M_actA, M_isParted) u_sortOf u_sizeOf u_numbers x1 x2 x3 = some z) : Met l yX7_put wsX7_put ({ frames := 2, cells := 0, slots := 0, locals := 45 }) (PcW [.ref am, .int x1, .int x2, .int x3] D cy st sk sv B sz [(am, .inr (7, [.ref am0, .ref am1, .ref am2, .ref am3, .int M_isHeld, .ref am4, .int M_taped, .int M_token, .int M_from, .int M_to, .int M_value, .int M_isWrong, .ref am5, .int M_rowN, .ref am6, .ref am7, .ref am8, .ref am9, .ref am10, .ref am11, .ref am12, .int M_ran, .int M_actKind, .int M_actN, .int M_actA, .int M_isParted])), (am6, .inl (cy 0, 4, .inl u_sortOf)), (am7, .inl (cy 0, 4, .inl u_sizeOf)), (am8, .inl (cy 0, 160, .inl u_numbers))]) (Qw (some (.int z.1)) D [(am, .inr (7, [.ref am0, .ref am1, .ref am2, .ref am3, .int M_isHeld, .ref am4, .int M_taped, .int M_token, .int M_from, .int M_to, .int M_value, .int M_isWrong, .ref am5, .int M_rowN, .ref am6, .ref am7, .ref am8, .ref am9, .ref am10, .ref am11, .ref am12, .int M_ran, .int M_actKind, .int M_actN, .int M_actA, .int M_isParted])), (am6, .inl (cy 0, 4, .inl u_sortOf)), (am7, .inl (cy 0, 4, .inl u_sizeOf)), (am8, .inl (cy 0, 160, .inl z.2))] (va_A [(am, .inr (7, [.ref am0, .ref am1, .ref am2, .ref am3, .int M_isHeld, .ref am4, .int M_taped, .int M_token, .int M_from, .int M_to, .int M_value, .int M_isWrong, .ref am5, .int M_rowN, .ref am6, .ref am7, .ref am8, .ref am9, .ref am10, .ref am11, .ref am12, .int M_ran, .int M_actKind, .int M_actN, .int M_actA, .int M_isParted])), (am6, .inl (cy 0, 4, .inl u_sortOf)), (am7, .inl (cy 0, 4, .inl u_sizeOf)), (am8, .inl (cy 0, 160, .inl u_numbers))] sz)) 0 0 (va_A [(am, .inr (7, [.ref am0, .ref am1, .ref am2, .ref am3, .int M_isHeld, .ref am4, .int M_taped, .int M_token, .int M_from, .int M_to, .int M_value, .int M_isWrong, .ref am5, .int M_rowN, .ref am6, .ref am7, .ref am8, .ref am9, .ref am10, .ref am11, .ref am12, .int M_ran, .int M_actKind, .int M_actN, .int M_actA, .int M_isParted])), (am6, .inl (cy 0, 4, .inl u_sortOf)), (am7, .inl (cy 0, 4, .inl u_sizeOf)), (am8, .inl (cy 0, 160, .inl u_numbers))] sz) := by
  refine Met.ofW (cc := cX7_put) (maxL := 4) (ret := (some .int)) (by decide) rfl ?_
  intro p e s m args below meth c s₁ Bd hml hv
  obtain ⟨rfl, hsz, hP, hD0, hBs, hG⟩ := hv
  have hx := Bd.exec
  have hb := Bd.bytes
  have hr := Bd.returns
  have hts := atoms_spec (ws := wsX7_put) Bd.pre
  have hown : s.vm.findClass RX7 = some m.cls := findClass_of_methodNamed Bd.named
  have hlocks := Bd.notSynchronized
  have hK := hG.1
  subst hsz
  have hD := hD0.self (sz := s.heap.size)
  have hAB0 := zA hD0 hBs
  generalize hAe : va_A [(am, .inr (7, [.ref am0, .ref am1, .ref am2, .ref am3, .int M_isHeld, .ref am4, .int M_taped, .int M_token, .int M_from, .int M_to, .int M_value, .int M_isWrong, .ref am5, .int M_rowN, .ref am6, .ref am7, .ref am8, .ref am9, .ref am10, .ref am11, .ref am12, .int M_ran, .int M_actKind, .int M_actN, .int M_actA, .int M_isParted])), (am6, .inl (cy 0, 4, .inl u_sortOf)), (am7, .inl (cy 0, 4, .inl u_sizeOf)), (am8, .inl (cy 0, 160, .inl u_numbers))] s.heap.size = A at hD hAB0 ⊢
  have hA : ∀ q : Nat, s.heap.size ≤ q → A q := fun q h => by rw [← hAe]; exact Or.inr h
  have hAB : ∀ q, A q → B ≤ q := hAB0
  have hS : va_S A s.heap s.heap [] := va_S.rf
  have hfin : ∀ (z0 : Int32) (u_numbers : (Nat → Int32)), some (z0, u_numbers) = some z → ∀ (H : Heap) (t : State), t.heap = H → va_P D vwCl [(am, .inr (7, [.ref am0, .ref am1, .ref am2, .ref am3, .int M_isHeld, .ref am4, .int M_taped, .int M_token, .int M_from, .int M_to, .int M_value, .int M_isWrong, .ref am5, .int M_rowN, .ref am6, .ref am7, .ref am8, .ref am9, .ref am10, .ref am11, .ref am12, .int M_ran, .int M_actKind, .int M_actN, .int M_actA, .int M_isParted])), (am6, .inl (cy 0, 4, .inl u_sortOf)), (am7, .inl (cy 0, 4, .inl u_sizeOf)), (am8, .inl (cy 0, 160, .inl u_numbers))] H → va_F A s t → Qw (some (.int z.1)) D [(am, .inr (7, [.ref am0, .ref am1, .ref am2, .ref am3, .int M_isHeld, .ref am4, .int M_taped, .int M_token, .int M_from, .int M_to, .int M_value, .int M_isWrong, .ref am5, .int M_rowN, .ref am6, .ref am7, .ref am8, .ref am9, .ref am10, .ref am11, .ref am12, .int M_ran, .int M_actKind, .int M_actN, .int M_actA, .int M_isParted])), (am6, .inl (cy 0, 4, .inl u_sortOf)), (am7, .inl (cy 0, 4, .inl u_sizeOf)), (am8, .inl (cy 0, 160, .inl z.2))] A ([.ref am, .int x1, .int x2, .int x3] : List Value).toArray s (.returned (some (.int z0))) t := by
    intro z0 u_numbers h9 H t ht hP hF
    cases h9
    exact ⟨rfl, by rw [ht]; exact hP, hF⟩
  have hin7 : ∀ w ∈ u_ws RX7 TX7 26, w ∈ wsX7_put := by decide +kernel
  have fl28 := hts (.fieldLink RX7 28 "KinCutleryModel" "sortOf" "[I") (by decide +kernel)
  have fl31 := hts (.fieldLink RX7 31 "KinCutleryModel" "sizeOf" "[I") (by decide +kernel)
  have fl34 := hts (.fieldLink RX7 34 "KinCutleryModel" "numbers" "[I") (by decide +kernel)
  have hl := lv_entry ([.ref am, .int x1, .int x2, .int x3]) (n := 4) (Nat.le_of_ble_eq_true rfl)
  rw [lg_entry_eq]
  generalize (lg_sl ([.ref am, .int x1, .int x2, .int x3]) ++ List.replicate (4 - (lg_sl ([.ref am, .int x1, .int x2, .int x3])).length) Slot.unset).toArray = ls at hl ⊢
  have hl : lv_has ls 4 [(0, .ref am), (1, .int x1), (2, .int x2), (3, .int x3)] := hl
  have hf : ((fX7_isSheet n x1).bind fun r1 => if r1 = 0 then (some ((-1 : Int32), u_numbers)) else (if x1 < 0 ∨ 4 ≤ x1.toNatClampNeg then none else if 0 ≤ (u_sortOf x1.toNatClampNeg) then (if x1 < 0 ∨ 4 ≤ x1.toNatClampNeg then none else (fX7_isIn n x2.toInt64 (0 : Int64) (((u_sizeOf x1.toNatClampNeg) - (1 : Int32)).toInt64)).bind fun r33 => if r33 = 0 then (some ((-12 : Int32), u_numbers)) else (if x1 < 0 ∨ 4 ≤ x1.toNatClampNeg then none else if (u_sortOf x1.toNatClampNeg) = 0 then (if (((40 : Int32) * x1) + x2) < 0 ∨ 160 ≤ (((40 : Int32) * x1) + x2).toNatClampNeg then none else some ((1 : Int32), (upd u_numbers (((40 : Int32) * x1) + x2).toNatClampNeg x3.toInt8.toInt32))) else (if x1 < 0 ∨ 4 ≤ x1.toNatClampNeg then none else if (u_sortOf x1.toNatClampNeg) = (1 : Int32) then (if (((40 : Int32) * x1) + x2) < 0 ∨ 160 ≤ (((40 : Int32) * x1) + x2).toNatClampNeg then none else some ((1 : Int32), (upd u_numbers (((40 : Int32) * x1) + x2).toNatClampNeg x3.toInt16.toInt32))) else (if (((40 : Int32) * x1) + x2) < 0 ∨ 160 ≤ (((40 : Int32) * x1) + x2).toNatClampNeg then none else some ((1 : Int32), (upd u_numbers (((40 : Int32) * x1) + x2).toNatClampNeg x3)))))) else (some ((-11 : Int32), u_numbers)))) = some z := hf
  refine lv_iload_n hx hb dX7_put_0 rfl (lv_at hl 1 rfl) ?_
  obtain ⟨r1, hc1, hf⟩ := zb hf
  refine zsr (o := some (.int r1)) (As := [.int x1]) (rest := []) (stk := [.int r1]) ⟨hx, hb, hml, hown, hts⟩ (mX7_isSheet l D cy st sk sv B  n x1 r1 hc1) (va_cwS 1 hts gX7_put_X7_isSheet rfl rfl rfl (by decide +kernel) ⟨Nat.le_of_ble_eq_true rfl, Nat.le_of_ble_eq_true rfl⟩) hG hS hAB hP [] rfl rfl hl.1 rfl (Nat.le_of_ble_eq_true rfl) dX7_put_1 rfl ?_
  refine lv_if_ne (tgt := 9) hx hb dX7_put_4 (by decide) (fun c_4 => ?_) (fun c_4 => ?_)
  · have hf := zn hf c_4
    refine lv_aload_n hx hb dX7_put_9 rfl (lv_at hl 0 rfl) ?_
    refine va_get (D := D) (ci := 7) (v := .ref am6) (C := RX7) (T := TX7) (N := 26) hx hb hts hin7 hown hK hP 0 rfl rfl 14 (by decide) fl28 (fun _ h9 => h9) rfl dX7_put_10 ?_
    refine lv_iload_n hx hb dX7_put_13 rfl (lv_at hl 1 rfl) ?_
    obtain ⟨h_14, hf⟩ := zg hf
    refine va_iald hx hb hK hP 1 0 rfl rfl h_14 dX7_put_14 ?_
    refine lv_if_ge (tgt := 21) hx hb dX7_put_15 (by decide) (fun c_15 => ?_) (fun c_15 => ?_)
    · have hf := zp hf c_15
      refine lv_iload_n hx hb dX7_put_21 rfl (lv_at hl 2 rfl) ?_
      refine lv_i2l hx hb dX7_put_22 rfl ?_
      refine lv_lconst (v := (0 : Int64)) hx hb dX7_put_23 (by decide) ?_
      refine lv_aload_n hx hb dX7_put_24 rfl (lv_at hl 0 rfl) ?_
      refine va_get (D := D) (ci := 7) (v := .ref am7) (C := RX7) (T := TX7) (N := 26) hx hb hts hin7 hown hK hP 0 rfl rfl 15 (by decide) fl31 (fun _ h9 => h9) rfl dX7_put_25 ?_
      refine lv_iload_n hx hb dX7_put_28 rfl (lv_at hl 1 rfl) ?_
      obtain ⟨h_29, hf⟩ := zg hf
      refine va_iald hx hb hK hP 2 0 rfl rfl h_29 dX7_put_29 ?_
      refine lv_iconst (v := (1 : Int32)) hx hb dX7_put_30 (by decide) ?_
      refine lv_isub hx hb dX7_put_31 ?_
      refine lv_i2l hx hb dX7_put_32 rfl ?_
      obtain ⟨r33, hc33, hf⟩ := zb hf
      refine zsr (o := some (.int r33)) (As := [.long x2.toInt64, .long (0 : Int64), .long ((u_sizeOf x1.toNatClampNeg) - (1 : Int32)).toInt64]) (rest := []) (stk := [.int r33]) ⟨hx, hb, hml, hown, hts⟩ (mX7_isIn l D cy st sk sv B  n x2.toInt64 (0 : Int64) (((u_sizeOf x1.toNatClampNeg) - (1 : Int32)).toInt64) r33 hc33) (va_cwS 3 hts gX7_put_X7_isIn rfl rfl rfl (by decide +kernel) ⟨Nat.le_of_ble_eq_true rfl, Nat.le_of_ble_eq_true rfl⟩) hG hS hAB hP [] rfl rfl hl.1 rfl (Nat.le_of_ble_eq_true rfl) dX7_put_33 rfl ?_
      refine lv_if_ne (tgt := 42) hx hb dX7_put_36 (by decide) (fun c_36 => ?_) (fun c_36 => ?_)
      · have hf := zn hf c_36
        refine lv_aload_n hx hb dX7_put_42 rfl (lv_at hl 0 rfl) ?_
        refine va_get (D := D) (ci := 7) (v := .ref am8) (C := RX7) (T := TX7) (N := 26) hx hb hts hin7 hown hK hP 0 rfl rfl 16 (by decide) fl34 (fun _ h9 => h9) rfl dX7_put_43 ?_
        refine lv_bipush (v := (40 : Int32)) hx hb dX7_put_46 (by decide) ?_
        refine lv_iload_n hx hb dX7_put_48 rfl (lv_at hl 1 rfl) ?_
        refine lv_imul hx hb dX7_put_49 ?_
        refine lv_iload_n hx hb dX7_put_50 rfl (lv_at hl 2 rfl) ?_
        refine lv_iadd hx hb dX7_put_51 ?_
        refine lv_aload_n hx hb dX7_put_52 rfl (lv_at hl 0 rfl) ?_
        refine va_get (D := D) (ci := 7) (v := .ref am6) (C := RX7) (T := TX7) (N := 26) hx hb hts hin7 hown hK hP 0 rfl rfl 14 (by decide) fl28 (fun _ h9 => h9) rfl dX7_put_53 ?_
        refine lv_iload_n hx hb dX7_put_56 rfl (lv_at hl 1 rfl) ?_
        obtain ⟨h_57, hf⟩ := zg hf
        refine va_iald hx hb hK hP 1 0 rfl rfl h_57 dX7_put_57 ?_
        refine lv_if_ne (tgt := 66) hx hb dX7_put_58 (by decide) (fun c_58 => ?_) (fun c_58 => ?_)
        · have hf := zn hf c_58
          refine lv_aload_n hx hb dX7_put_66 rfl (lv_at hl 0 rfl) ?_
          refine va_get (D := D) (ci := 7) (v := .ref am6) (C := RX7) (T := TX7) (N := 26) hx hb hts hin7 hown hK hP 0 rfl rfl 14 (by decide) fl28 (fun _ h9 => h9) rfl dX7_put_67 ?_
          refine lv_iload_n hx hb dX7_put_70 rfl (lv_at hl 1 rfl) ?_
          obtain ⟨h_71, hf⟩ := zg hf
          refine va_iald hx hb hK hP 1 0 rfl rfl h_71 dX7_put_71 ?_
          refine lv_iconst (v := (1 : Int32)) hx hb dX7_put_72 (by decide) ?_
          refine lv_icmp_ne (tgt := 81) hx hb dX7_put_73 (by decide) (fun c_73 => ?_) (fun c_73 => ?_)
          · have hf := zn hf c_73
            refine lv_iload_n hx hb dX7_put_81 rfl (lv_at hl 3 rfl) ?_
            obtain ⟨h_82, hf⟩ := zg hf
            refine va_iast hx hb hK hP hD hS 3 0 rfl rfl h_82 dX7_put_82 (fun H locs hP hD hS => ?_)
            have hP : va_P D vwCl [(am, .inr (7, [.ref am0, .ref am1, .ref am2, .ref am3, .int M_isHeld, .ref am4, .int M_taped, .int M_token, .int M_from, .int M_to, .int M_value, .int M_isWrong, .ref am5, .int M_rowN, .ref am6, .ref am7, .ref am8, .ref am9, .ref am10, .ref am11, .ref am12, .int M_ran, .int M_actKind, .int M_actN, .int M_actA, .int M_isParted])), (am6, .inl (cy 0, 4, .inl u_sortOf)), (am7, .inl (cy 0, 4, .inl u_sizeOf)), (am8, .inl (cy 0, 160, .inl (upd u_numbers (((40 : Int32) * x1) + x2).toNatClampNeg x3)))] H := hP
            have hD : va_D A [(am, .inr (7, [.ref am0, .ref am1, .ref am2, .ref am3, .int M_isHeld, .ref am4, .int M_taped, .int M_token, .int M_from, .int M_to, .int M_value, .int M_isWrong, .ref am5, .int M_rowN, .ref am6, .ref am7, .ref am8, .ref am9, .ref am10, .ref am11, .ref am12, .int M_ran, .int M_actKind, .int M_actN, .int M_actA, .int M_isParted])), (am6, .inl (cy 0, 4, .inl u_sortOf)), (am7, .inl (cy 0, 4, .inl u_sizeOf)), (am8, .inl (cy 0, 160, .inl (upd u_numbers (((40 : Int32) * x1) + x2).toNatClampNeg x3)))] := hD
            refine lv_iconst (v := (1 : Int32)) hx hb dX7_put_83 (by decide) ?_
            exact W.iret hx hb hr (fun t ht hW => hfin (1 : Int32) (upd u_numbers (((40 : Int32) * x1) + x2).toNatClampNeg x3) hf _ t ht hP (hS.F ht)) hS.2.2 dX7_put_84
          · have hf := zp hf c_73
            refine lv_iload_n hx hb dX7_put_76 rfl (lv_at hl 3 rfl) ?_
            refine lv_i2s hx hb dX7_put_77 rfl ?_
            refine lv_goto (tgt := 82) hx hb dX7_put_78 (by decide) ?_
            obtain ⟨h_82, hf⟩ := zg hf
            refine va_iast hx hb hK hP hD hS 3 0 rfl rfl h_82 dX7_put_82 (fun H locs hP hD hS => ?_)
            have hP : va_P D vwCl [(am, .inr (7, [.ref am0, .ref am1, .ref am2, .ref am3, .int M_isHeld, .ref am4, .int M_taped, .int M_token, .int M_from, .int M_to, .int M_value, .int M_isWrong, .ref am5, .int M_rowN, .ref am6, .ref am7, .ref am8, .ref am9, .ref am10, .ref am11, .ref am12, .int M_ran, .int M_actKind, .int M_actN, .int M_actA, .int M_isParted])), (am6, .inl (cy 0, 4, .inl u_sortOf)), (am7, .inl (cy 0, 4, .inl u_sizeOf)), (am8, .inl (cy 0, 160, .inl (upd u_numbers (((40 : Int32) * x1) + x2).toNatClampNeg x3.toInt16.toInt32)))] H := hP
            have hD : va_D A [(am, .inr (7, [.ref am0, .ref am1, .ref am2, .ref am3, .int M_isHeld, .ref am4, .int M_taped, .int M_token, .int M_from, .int M_to, .int M_value, .int M_isWrong, .ref am5, .int M_rowN, .ref am6, .ref am7, .ref am8, .ref am9, .ref am10, .ref am11, .ref am12, .int M_ran, .int M_actKind, .int M_actN, .int M_actA, .int M_isParted])), (am6, .inl (cy 0, 4, .inl u_sortOf)), (am7, .inl (cy 0, 4, .inl u_sizeOf)), (am8, .inl (cy 0, 160, .inl (upd u_numbers (((40 : Int32) * x1) + x2).toNatClampNeg x3.toInt16.toInt32)))] := hD
            refine lv_iconst (v := (1 : Int32)) hx hb dX7_put_83 (by decide) ?_
            exact W.iret hx hb hr (fun t ht hW => hfin (1 : Int32) (upd u_numbers (((40 : Int32) * x1) + x2).toNatClampNeg x3.toInt16.toInt32) hf _ t ht hP (hS.F ht)) hS.2.2 dX7_put_84
        · have hf := zp hf c_58
          refine lv_iload_n hx hb dX7_put_61 rfl (lv_at hl 3 rfl) ?_
          refine lv_i2b hx hb dX7_put_62 rfl ?_
          refine lv_goto (tgt := 82) hx hb dX7_put_63 (by decide) ?_
          obtain ⟨h_82, hf⟩ := zg hf
          refine va_iast hx hb hK hP hD hS 3 0 rfl rfl h_82 dX7_put_82 (fun H locs hP hD hS => ?_)
          have hP : va_P D vwCl [(am, .inr (7, [.ref am0, .ref am1, .ref am2, .ref am3, .int M_isHeld, .ref am4, .int M_taped, .int M_token, .int M_from, .int M_to, .int M_value, .int M_isWrong, .ref am5, .int M_rowN, .ref am6, .ref am7, .ref am8, .ref am9, .ref am10, .ref am11, .ref am12, .int M_ran, .int M_actKind, .int M_actN, .int M_actA, .int M_isParted])), (am6, .inl (cy 0, 4, .inl u_sortOf)), (am7, .inl (cy 0, 4, .inl u_sizeOf)), (am8, .inl (cy 0, 160, .inl (upd u_numbers (((40 : Int32) * x1) + x2).toNatClampNeg x3.toInt8.toInt32)))] H := hP
          have hD : va_D A [(am, .inr (7, [.ref am0, .ref am1, .ref am2, .ref am3, .int M_isHeld, .ref am4, .int M_taped, .int M_token, .int M_from, .int M_to, .int M_value, .int M_isWrong, .ref am5, .int M_rowN, .ref am6, .ref am7, .ref am8, .ref am9, .ref am10, .ref am11, .ref am12, .int M_ran, .int M_actKind, .int M_actN, .int M_actA, .int M_isParted])), (am6, .inl (cy 0, 4, .inl u_sortOf)), (am7, .inl (cy 0, 4, .inl u_sizeOf)), (am8, .inl (cy 0, 160, .inl (upd u_numbers (((40 : Int32) * x1) + x2).toNatClampNeg x3.toInt8.toInt32)))] := hD
          refine lv_iconst (v := (1 : Int32)) hx hb dX7_put_83 (by decide) ?_
          exact W.iret hx hb hr (fun t ht hW => hfin (1 : Int32) (upd u_numbers (((40 : Int32) * x1) + x2).toNatClampNeg x3.toInt8.toInt32) hf _ t ht hP (hS.F ht)) hS.2.2 dX7_put_84
      · have hf := zp hf c_36
        refine lv_bipush (v := (-12 : Int32)) hx hb dX7_put_39 (by decide) ?_
        exact W.iret hx hb hr (fun t ht hW => hfin (-12 : Int32) u_numbers hf _ t ht hP (hS.F ht)) hS.2.2 dX7_put_41
    · have hf := zn hf c_15
      refine lv_bipush (v := (-11 : Int32)) hx hb dX7_put_18 (by decide) ?_
      exact W.iret hx hb hr (fun t ht hW => hfin (-11 : Int32) u_numbers hf _ t ht hP (hS.F ht)) hS.2.2 dX7_put_20
  · have hf := zp hf c_4
    refine lv_iconst (v := (-1 : Int32)) hx hb dX7_put_7 (by decide) ?_
    exact W.iret hx hb hr (fun t ht hW => hfin (-1 : Int32) u_numbers hf _ t ht hP (hS.F ht)) hS.2.2 dX7_put_8
set_option maxRecDepth 100000 in
set_option maxHeartbeats 100000000 in
theorem mX7_lacks (l : Launch) (D : va_G) (cy : Nat → ClassId) (st sk sv : Nat → Nat) (B : Nat) (am : Nat) (am0 : Nat) (am1 : Nat) (am2 : Nat) (am3 : Nat) (am4 : Nat) (am5 : Nat) (am6 : Nat) (am7 : Nat) (am8 : Nat) (am9 : Nat) (am10 : Nat) (am11 : Nat) (am12 : Nat) (n : Nat) (M_isHeld : Int32) (M_taped : Int32) (M_token : Int32) (M_from : Int32) (M_to : Int32) (M_value : Int32) (M_isWrong : Int32) (M_rowN : Int32) (M_ran : Int32) (M_actKind : Int32) (M_actN : Int32) (M_actA : Int32) (M_isParted : Int32) (u_sortOf : (Nat → Int32)) (x1 : Int32) (x2 : Int32) (z : Int32) (hf : fX7_lacks n (M_isHeld, M_taped, M_token, M_from, M_to, M_value, M_isWrong, M_rowN, M_ran, M_actKind, M_actN, M_actA, M_isParted) u_sortOf x1 x2 = some z) : Met l yX7_lacks wsX7_lacks ({ frames := 0, cells := 0, slots := 0, locals := 0 }) (PcR [.ref am, .int x1, .int x2] D cy st sk sv B [(am, .inr (7, [.ref am0, .ref am1, .ref am2, .ref am3, .int M_isHeld, .ref am4, .int M_taped, .int M_token, .int M_from, .int M_to, .int M_value, .int M_isWrong, .ref am5, .int M_rowN, .ref am6, .ref am7, .ref am8, .ref am9, .ref am10, .ref am11, .ref am12, .int M_ran, .int M_actKind, .int M_actN, .int M_actA, .int M_isParted])), (am6, .inl (cy 0, 4, .inl u_sortOf))]) (Qr (some (.int z))) 0 0 (fun _ => False) := by
  refine Met.ofW (cc := cX7_lacks) (maxL := 3) (ret := (some .int)) (by decide) rfl ?_
  intro p e s m args below meth c s₁ Bd hml hv
  obtain ⟨rfl, hP, hG⟩ := hv
  have hx := Bd.exec
  have hb := Bd.bytes
  have hr := Bd.returns
  have hts := atoms_spec (ws := wsX7_lacks) Bd.pre
  have hown : s.vm.findClass RX7 = some m.cls := findClass_of_methodNamed Bd.named
  have hlocks := Bd.notSynchronized
  have hK := hG.1
  have hS : va_S (fun q => B ≤ q) s.heap s.heap [] := va_S.rf
  have hAB : ∀ q, (fun q => B ≤ q) q → B ≤ q := fun _ h => h
  have hin7 : ∀ w ∈ u_ws RX7 TX7 26, w ∈ wsX7_lacks := by decide +kernel
  have fl28 := hts (.fieldLink RX7 28 "KinCutleryModel" "sortOf" "[I") (by decide +kernel)
  have hl := lv_entry ([.ref am, .int x1, .int x2]) (n := 3) (Nat.le_of_ble_eq_true rfl)
  rw [lg_entry_eq]
  generalize (lg_sl ([.ref am, .int x1, .int x2]) ++ List.replicate (3 - (lg_sl ([.ref am, .int x1, .int x2])).length) Slot.unset).toArray = ls at hl ⊢
  have hl : lv_has ls 3 [(0, .ref am), (1, .int x1), (2, .int x2)] := hl
  have hf : (if x1 < 0 ∨ 4 ≤ x1.toNatClampNeg then none else if 0 ≤ (u_sortOf x1.toNatClampNeg) then (if x1 < 0 ∨ 4 ≤ x1.toNatClampNeg then none else if (u_sortOf x1.toNatClampNeg) = x2 then (some (0 : Int32)) else (some (-13 : Int32))) else (some (-11 : Int32))) = some z := hf
  refine lv_aload_n hx hb dX7_lacks_0 rfl (lv_at hl 0 rfl) ?_
  refine va_get (D := D) (ci := 7) (v := .ref am6) (C := RX7) (T := TX7) (N := 26) hx hb hts hin7 hown hK hP 0 rfl rfl 14 (by decide) fl28 (fun _ h9 => h9) rfl dX7_lacks_1 ?_
  refine lv_iload_n hx hb dX7_lacks_4 rfl (lv_at hl 1 rfl) ?_
  obtain ⟨h_5, hf⟩ := zg hf
  refine va_iald hx hb hK hP 1 0 rfl rfl h_5 dX7_lacks_5 ?_
  refine lv_if_ge (tgt := 14) hx hb dX7_lacks_6 (by decide) (fun c_6 => ?_) (fun c_6 => ?_)
  · have hf := zp hf c_6
    refine lv_aload_n hx hb dX7_lacks_14 rfl (lv_at hl 0 rfl) ?_
    refine va_get (D := D) (ci := 7) (v := .ref am6) (C := RX7) (T := TX7) (N := 26) hx hb hts hin7 hown hK hP 0 rfl rfl 14 (by decide) fl28 (fun _ h9 => h9) rfl dX7_lacks_15 ?_
    refine lv_iload_n hx hb dX7_lacks_18 rfl (lv_at hl 1 rfl) ?_
    obtain ⟨h_19, hf⟩ := zg hf
    refine va_iald hx hb hK hP 1 0 rfl rfl h_19 dX7_lacks_19 ?_
    refine lv_iload_n hx hb dX7_lacks_20 rfl (lv_at hl 2 rfl) ?_
    refine lv_icmp_eq (tgt := 29) hx hb dX7_lacks_21 (by decide) (fun c_21 => ?_) (fun c_21 => ?_)
    · have hf := zp hf c_21
      refine lv_iconst (v := (0 : Int32)) hx hb dX7_lacks_29 (by decide) ?_
      cases hf
      exact W.iret hx hb hr (fun t ht hW => ⟨rfl, ht⟩) (fun q h => absurd h List.not_mem_nil) dX7_lacks_30
    · have hf := zn hf c_21
      refine lv_bipush (v := (-13 : Int32)) hx hb dX7_lacks_24 (by decide) ?_
      refine lv_goto (tgt := 30) hx hb dX7_lacks_26 (by decide) ?_
      cases hf
      exact W.iret hx hb hr (fun t ht hW => ⟨rfl, ht⟩) (fun q h => absurd h List.not_mem_nil) dX7_lacks_30
  · have hf := zn hf c_6
    refine lv_bipush (v := (-11 : Int32)) hx hb dX7_lacks_9 (by decide) ?_
    refine lv_goto (tgt := 30) hx hb dX7_lacks_11 (by decide) ?_
    cases hf
    exact W.iret hx hb hr (fun t ht hW => ⟨rfl, ht⟩) (fun q h => absurd h List.not_mem_nil) dX7_lacks_30
set_option maxRecDepth 100000 in
set_option maxHeartbeats 100000000 in
theorem mX7_item (l : Launch) (D : va_G) (cy : Nat → ClassId) (st sk sv : Nat → Nat) (B : Nat) (am : Nat) (am0 : Nat) (am1 : Nat) (am2 : Nat) (am3 : Nat) (am4 : Nat) (am5 : Nat) (am6 : Nat) (am7 : Nat) (am8 : Nat) (am9 : Nat) (am10 : Nat) (am11 : Nat) (am12 : Nat) (n : Nat) (M_isHeld : Int32) (M_taped : Int32) (M_token : Int32) (M_from : Int32) (M_to : Int32) (M_value : Int32) (M_isWrong : Int32) (M_rowN : Int32) (M_ran : Int32) (M_actKind : Int32) (M_actN : Int32) (M_actA : Int32) (M_isParted : Int32) (u_sortOf : (Nat → Int32)) (u_sizeOf : (Nat → Int32)) (u_numbers : (Nat → Int32)) (x1 : Int32) (x2 : Int32) (x3 : Int32) (z : Int32) (hf : fX7_item n (M_isHeld, M_taped, M_token, M_from, M_to, M_value, M_isWrong, M_rowN, M_ran, M_actKind, M_actN, M_actA, M_isParted) u_sortOf u_sizeOf u_numbers x1 x2 x3 = some z) : Met l yX7_item wsX7_item ({ frames := 2, cells := 0, slots := 0, locals := 45 }) (PcR [.ref am, .int x1, .int x2, .int x3] D cy st sk sv B [(am, .inr (7, [.ref am0, .ref am1, .ref am2, .ref am3, .int M_isHeld, .ref am4, .int M_taped, .int M_token, .int M_from, .int M_to, .int M_value, .int M_isWrong, .ref am5, .int M_rowN, .ref am6, .ref am7, .ref am8, .ref am9, .ref am10, .ref am11, .ref am12, .int M_ran, .int M_actKind, .int M_actN, .int M_actA, .int M_isParted])), (am6, .inl (cy 0, 4, .inl u_sortOf)), (am7, .inl (cy 0, 4, .inl u_sizeOf)), (am8, .inl (cy 0, 160, .inl u_numbers))]) (Qr (some (.int z))) 0 0 (fun _ => False) := by
  refine Met.ofW (cc := cX7_item) (maxL := 4) (ret := (some .int)) (by decide) rfl ?_
  intro p e s m args below meth c s₁ Bd hml hv
  obtain ⟨rfl, hP, hG⟩ := hv
  have hx := Bd.exec
  have hb := Bd.bytes
  have hr := Bd.returns
  have hts := atoms_spec (ws := wsX7_item) Bd.pre
  have hown : s.vm.findClass RX7 = some m.cls := findClass_of_methodNamed Bd.named
  have hlocks := Bd.notSynchronized
  have hK := hG.1
  have hS : va_S (fun q => B ≤ q) s.heap s.heap [] := va_S.rf
  have hAB : ∀ q, (fun q => B ≤ q) q → B ≤ q := fun _ h => h
  have hin7 : ∀ w ∈ u_ws RX7 TX7 26, w ∈ wsX7_item := by decide +kernel
  have fl31 := hts (.fieldLink RX7 31 "KinCutleryModel" "sizeOf" "[I") (by decide +kernel)
  have fl34 := hts (.fieldLink RX7 34 "KinCutleryModel" "numbers" "[I") (by decide +kernel)
  have hl := lv_entry ([.ref am, .int x1, .int x2, .int x3]) (n := 4) (Nat.le_of_ble_eq_true rfl)
  rw [lg_entry_eq]
  generalize (lg_sl ([.ref am, .int x1, .int x2, .int x3]) ++ List.replicate (4 - (lg_sl ([.ref am, .int x1, .int x2, .int x3])).length) Slot.unset).toArray = ls at hl ⊢
  have hl : lv_has ls 4 [(0, .ref am), (1, .int x1), (2, .int x2), (3, .int x3)] := hl
  have hf : ((fX7_isSheet n x1).bind fun r1 => if r1 = 0 then (some (-1 : Int32)) else ((fX7_isIn n x2.toInt64 (0 : Int64) (3 : Int64)).bind fun r13 => if r13 = 0 then (some (-1 : Int32)) else ((fX7_lacks n (M_isHeld, M_taped, M_token, M_from, M_to, M_value, M_isWrong, M_rowN, M_ran, M_actKind, M_actN, M_actA, M_isParted) u_sortOf x1 x2).bind fun r24 => if r24 = 0 then (if x1 < 0 ∨ 4 ≤ x1.toNatClampNeg then none else (fX7_isIn n x3.toInt64 (0 : Int64) (((u_sizeOf x1.toNatClampNeg) - (1 : Int32)).toInt64)).bind fun r49 => if r49 = 0 then (some (-12 : Int32)) else (if (((40 : Int32) * x1) + x3) < 0 ∨ 160 ≤ (((40 : Int32) * x1) + x3).toNatClampNeg then none else some (u_numbers (((40 : Int32) * x1) + x3).toNatClampNeg))) else ((fX7_lacks n (M_isHeld, M_taped, M_token, M_from, M_to, M_value, M_isWrong, M_rowN, M_ran, M_actKind, M_actN, M_actA, M_isParted) u_sortOf x1 x2).bind fun r33 => some r33)))) = some z := hf
  refine lv_iload_n hx hb dX7_item_0 rfl (lv_at hl 1 rfl) ?_
  obtain ⟨r1, hc1, hf⟩ := zb hf
  refine zsr (o := some (.int r1)) (As := [.int x1]) (rest := []) (stk := [.int r1]) ⟨hx, hb, hml, hown, hts⟩ (mX7_isSheet l D cy st sk sv B  n x1 r1 hc1) (va_cwS 1 hts gX7_item_X7_isSheet rfl rfl rfl (by decide +kernel) ⟨Nat.le_of_ble_eq_true rfl, Nat.le_of_ble_eq_true rfl⟩) hG hS hAB hP [] rfl rfl hl.1 rfl (Nat.le_of_ble_eq_true rfl) dX7_item_1 rfl ?_
  refine lv_if_eq (tgt := 19) hx hb dX7_item_4 (by decide) (fun c_4 => ?_) (fun c_4 => ?_)
  · have hf := zp hf c_4
    refine lv_iconst (v := (-1 : Int32)) hx hb dX7_item_19 (by decide) ?_
    cases hf
    exact W.iret hx hb hr (fun t ht hW => ⟨rfl, ht⟩) (fun q h => absurd h List.not_mem_nil) dX7_item_20
  · have hf := zn hf c_4
    refine lv_iload_n hx hb dX7_item_7 rfl (lv_at hl 2 rfl) ?_
    refine lv_i2l hx hb dX7_item_8 rfl ?_
    refine lv_lconst (v := (0 : Int64)) hx hb dX7_item_9 (by decide) ?_
    refine lv_ldc2 (v := (3 : Int64)) hx hb hown (hts (.constantLong RX7 143 (3)) (by decide +kernel)) dX7_item_10 ?_
    obtain ⟨r13, hc13, hf⟩ := zb hf
    refine zsr (o := some (.int r13)) (As := [.long x2.toInt64, .long (0 : Int64), .long (3 : Int64)]) (rest := []) (stk := [.int r13]) ⟨hx, hb, hml, hown, hts⟩ (mX7_isIn l D cy st sk sv B  n x2.toInt64 (0 : Int64) (3 : Int64) r13 hc13) (va_cwS 3 hts gX7_item_X7_isIn rfl rfl rfl (by decide +kernel) ⟨Nat.le_of_ble_eq_true rfl, Nat.le_of_ble_eq_true rfl⟩) hG hS hAB hP [] rfl rfl hl.1 rfl (Nat.le_of_ble_eq_true rfl) dX7_item_13 rfl ?_
    refine lv_if_ne (tgt := 21) hx hb dX7_item_16 (by decide) (fun c_16 => ?_) (fun c_16 => ?_)
    · have hf := zn hf c_16
      refine lv_aload_n hx hb dX7_item_21 rfl (lv_at hl 0 rfl) ?_
      refine lv_iload_n hx hb dX7_item_22 rfl (lv_at hl 1 rfl) ?_
      refine lv_iload_n hx hb dX7_item_23 rfl (lv_at hl 2 rfl) ?_
      obtain ⟨r24, hc24, hf⟩ := zb hf
      refine zvr (o := some (.int r24)) (As := [.int x1, .int x2]) (rest := []) (stk := [.int r24]) ⟨hx, hb, hml, hown, hts⟩ (mX7_lacks l D cy st sk sv B am am0 am1 am2 am3 am4 am5 am6 am7 am8 am9 am10 am11 am12 n M_isHeld M_taped M_token M_from M_to M_value M_isWrong M_rowN M_ran M_actKind M_actN M_actA M_isParted u_sortOf x1 x2 r24 hc24) (cwV 2 hts gX7_item_X7_lacks rfl rfl rfl (by decide +kernel) ⟨Nat.le_of_ble_eq_true rfl, Nat.le_of_ble_eq_true rfl⟩) hG hS hAB hP [0, 1] rfl 0 7 rfl rfl rfl rfl hl.1 rfl (Nat.le_of_ble_eq_true rfl) dX7_item_24 rfl ?_
      refine lv_if_eq (tgt := 37) hx hb dX7_item_27 (by decide) (fun c_27 => ?_) (fun c_27 => ?_)
      · have hf := zp hf c_27
        refine lv_iload_n hx hb dX7_item_37 rfl (lv_at hl 3 rfl) ?_
        refine lv_i2l hx hb dX7_item_38 rfl ?_
        refine lv_lconst (v := (0 : Int64)) hx hb dX7_item_39 (by decide) ?_
        refine lv_aload_n hx hb dX7_item_40 rfl (lv_at hl 0 rfl) ?_
        refine va_get (D := D) (ci := 7) (v := .ref am7) (C := RX7) (T := TX7) (N := 26) hx hb hts hin7 hown hK hP 0 rfl rfl 15 (by decide) fl31 (fun _ h9 => h9) rfl dX7_item_41 ?_
        refine lv_iload_n hx hb dX7_item_44 rfl (lv_at hl 1 rfl) ?_
        obtain ⟨h_45, hf⟩ := zg hf
        refine va_iald hx hb hK hP 2 0 rfl rfl h_45 dX7_item_45 ?_
        refine lv_iconst (v := (1 : Int32)) hx hb dX7_item_46 (by decide) ?_
        refine lv_isub hx hb dX7_item_47 ?_
        refine lv_i2l hx hb dX7_item_48 rfl ?_
        obtain ⟨r49, hc49, hf⟩ := zb hf
        refine zsr (o := some (.int r49)) (As := [.long x3.toInt64, .long (0 : Int64), .long ((u_sizeOf x1.toNatClampNeg) - (1 : Int32)).toInt64]) (rest := []) (stk := [.int r49]) ⟨hx, hb, hml, hown, hts⟩ (mX7_isIn l D cy st sk sv B  n x3.toInt64 (0 : Int64) (((u_sizeOf x1.toNatClampNeg) - (1 : Int32)).toInt64) r49 hc49) (va_cwS 3 hts gX7_item_X7_isIn rfl rfl rfl (by decide +kernel) ⟨Nat.le_of_ble_eq_true rfl, Nat.le_of_ble_eq_true rfl⟩) hG hS hAB hP [] rfl rfl hl.1 rfl (Nat.le_of_ble_eq_true rfl) dX7_item_49 rfl ?_
        refine lv_if_eq (tgt := 69) hx hb dX7_item_52 (by decide) (fun c_52 => ?_) (fun c_52 => ?_)
        · have hf := zp hf c_52
          refine lv_bipush (v := (-12 : Int32)) hx hb dX7_item_69 (by decide) ?_
          cases hf
          exact W.iret hx hb hr (fun t ht hW => ⟨rfl, ht⟩) (fun q h => absurd h List.not_mem_nil) dX7_item_71
        · have hf := zn hf c_52
          refine lv_aload_n hx hb dX7_item_55 rfl (lv_at hl 0 rfl) ?_
          refine va_get (D := D) (ci := 7) (v := .ref am8) (C := RX7) (T := TX7) (N := 26) hx hb hts hin7 hown hK hP 0 rfl rfl 16 (by decide) fl34 (fun _ h9 => h9) rfl dX7_item_56 ?_
          refine lv_bipush (v := (40 : Int32)) hx hb dX7_item_59 (by decide) ?_
          refine lv_iload_n hx hb dX7_item_61 rfl (lv_at hl 1 rfl) ?_
          refine lv_imul hx hb dX7_item_62 ?_
          refine lv_iload_n hx hb dX7_item_63 rfl (lv_at hl 3 rfl) ?_
          refine lv_iadd hx hb dX7_item_64 ?_
          obtain ⟨h_65, hf⟩ := zg hf
          refine va_iald hx hb hK hP 3 0 rfl rfl h_65 dX7_item_65 ?_
          refine lv_goto (tgt := 71) hx hb dX7_item_66 (by decide) ?_
          cases hf
          exact W.iret hx hb hr (fun t ht hW => ⟨rfl, ht⟩) (fun q h => absurd h List.not_mem_nil) dX7_item_71
      · have hf := zn hf c_27
        refine lv_aload_n hx hb dX7_item_30 rfl (lv_at hl 0 rfl) ?_
        refine lv_iload_n hx hb dX7_item_31 rfl (lv_at hl 1 rfl) ?_
        refine lv_iload_n hx hb dX7_item_32 rfl (lv_at hl 2 rfl) ?_
        obtain ⟨r33, hc33, hf⟩ := zb hf
        refine zvr (o := some (.int r33)) (As := [.int x1, .int x2]) (rest := []) (stk := [.int r33]) ⟨hx, hb, hml, hown, hts⟩ (mX7_lacks l D cy st sk sv B am am0 am1 am2 am3 am4 am5 am6 am7 am8 am9 am10 am11 am12 n M_isHeld M_taped M_token M_from M_to M_value M_isWrong M_rowN M_ran M_actKind M_actN M_actA M_isParted u_sortOf x1 x2 r33 hc33) (cwV 2 hts gX7_item_X7_lacks rfl rfl rfl (by decide +kernel) ⟨Nat.le_of_ble_eq_true rfl, Nat.le_of_ble_eq_true rfl⟩) hG hS hAB hP [0, 1] rfl 0 7 rfl rfl rfl rfl hl.1 rfl (Nat.le_of_ble_eq_true rfl) dX7_item_33 rfl ?_
        cases hf
        exact W.iret hx hb hr (fun t ht hW => ⟨rfl, ht⟩) (fun q h => absurd h List.not_mem_nil) dX7_item_36
    · have hf := zp hf c_16
      refine lv_iconst (v := (-1 : Int32)) hx hb dX7_item_19 (by decide) ?_
      cases hf
      exact W.iret hx hb hr (fun t ht hW => ⟨rfl, ht⟩) (fun q h => absurd h List.not_mem_nil) dX7_item_20
