set_option maxRecDepth 100000 in
set_option maxHeartbeats 100000000 in
theorem mX7_isName (l : Launch) (D : va_G) (cy : Nat → ClassId) (st sk sv : Nat → Nat) (B : Nat) (am : Nat) (am0 : Nat) (am1 : Nat) (am2 : Nat) (am3 : Nat) (am4 : Nat) (am5 : Nat) (am6 : Nat) (am7 : Nat) (am8 : Nat) (am9 : Nat) (am10 : Nat) (am11 : Nat) (am12 : Nat) (n : Nat) (M_isHeld : Int32) (M_taped : Int32) (M_token : Int32) (M_from : Int32) (M_to : Int32) (M_value : Int32) (M_isWrong : Int32) (M_rowN : Int32) (M_ran : Int32) (M_actKind : Int32) (M_actN : Int32) (M_actA : Int32) (M_isParted : Int32) (u_tape : (Nat → Int32)) (x1 : Int32) (x2 : Int32) (x3 : Int32) (x4 : Int32) (x5 : Int32) (z : Int32) (hf : fX7_isName n (M_isHeld, M_taped, M_token, M_from, M_to, M_value, M_isWrong, M_rowN, M_ran, M_actKind, M_actN, M_actA, M_isParted) u_tape x1 x2 x3 x4 x5 = some z) : Met l yX7_isName wsX7_isName ({ frames := 1, cells := 0, slots := 0, locals := 21 }) (PcR [.ref am, .int x1, .int x2, .int x3, .int x4, .int x5] D cy st sk sv B [(am, .inr (7, [.ref am0, .ref am1, .ref am2, .ref am3, .int M_isHeld, .ref am4, .int M_taped, .int M_token, .int M_from, .int M_to, .int M_value, .int M_isWrong, .ref am5, .int M_rowN, .ref am6, .ref am7, .ref am8, .ref am9, .ref am10, .ref am11, .ref am12, .int M_ran, .int M_actKind, .int M_actN, .int M_actA, .int M_isParted])), (am4, .inl (cy 0, 200, .inl u_tape))]) (Qr (some (.int z))) 0 0 (fun _ => False) := by
  refine Met.ofW (cc := cX7_isName) (maxL := 6) (ret := (some .boolean)) (by decide) rfl ?_
  intro p e s m args below meth c s₁ Bd hml hv
  obtain ⟨rfl, hP, hG⟩ := hv
  have hx := Bd.exec
  have hb := Bd.bytes
  have hr := Bd.returns
  have hts := atoms_spec (ws := wsX7_isName) Bd.pre
  have hown : s.vm.findClass RX7 = some m.cls := findClass_of_methodNamed Bd.named
  have hlocks := Bd.notSynchronized
  have hK := hG.1
  have hS : va_S (fun q => B ≤ q) s.heap s.heap [] := va_S.rf
  have hAB : ∀ q, (fun q => B ≤ q) q → B ≤ q := fun _ h => h
  have hin7 : ∀ w ∈ u_ws RX7 TX7 26, w ∈ wsX7_isName := by decide +kernel
  have fl64 := hts (.fieldLink RX7 64 "KinCutleryModel" "to" "I") (by decide +kernel)
  have fl67 := hts (.fieldLink RX7 67 "KinCutleryModel" "from" "I") (by decide +kernel)
  have fl81 := hts (.fieldLink RX7 81 "KinCutleryModel" "token" "I") (by decide +kernel)
  have hl := lv_entry ([.ref am, .int x1, .int x2, .int x3, .int x4, .int x5]) (n := 6) (Nat.le_of_ble_eq_true rfl)
  rw [lg_entry_eq]
  generalize (lg_sl ([.ref am, .int x1, .int x2, .int x3, .int x4, .int x5]) ++ List.replicate (6 - (lg_sl ([.ref am, .int x1, .int x2, .int x3, .int x4, .int x5])).length) Slot.unset).toArray = ls at hl ⊢
  have hl : lv_has ls 6 [(0, .ref am), (1, .int x1), (2, .int x2), (3, .int x3), (4, .int x4), (5, .int x5)] := hl
  have hf : (if M_token = (1 : Int32) then (if (M_to - M_from) = x1 then ((fX7_byteAt n (M_isHeld, M_taped, M_token, M_from, M_to, M_value, M_isWrong, M_rowN, M_ran, M_actKind, M_actN, M_actA, M_isParted) u_tape M_from).bind fun r26 => if r26 = x2 then ((fX7_byteAt n (M_isHeld, M_taped, M_token, M_from, M_to, M_value, M_isWrong, M_rowN, M_ran, M_actKind, M_actN, M_actA, M_isParted) u_tape (M_from + (1 : Int32))).bind fun r40 => if r40 = x3 then ((fX7_byteAt n (M_isHeld, M_taped, M_token, M_from, M_to, M_value, M_isWrong, M_rowN, M_ran, M_actKind, M_actN, M_actA, M_isParted) u_tape (M_from + (2 : Int32))).bind fun r54 => if r54 = x4 then ((fX7_byteAt n (M_isHeld, M_taped, M_token, M_from, M_to, M_value, M_isWrong, M_rowN, M_ran, M_actKind, M_actN, M_actA, M_isParted) u_tape (M_to - (1 : Int32))).bind fun r69 => if r69 = x5 then (some (1 : Int32)) else (some (0 : Int32))) else (some (0 : Int32))) else (some (0 : Int32))) else (some (0 : Int32))) else (some (0 : Int32))) else (some (0 : Int32))) = some z := hf
  refine lv_aload_n hx hb dX7_isName_0 rfl (lv_at hl 0 rfl) ?_
  refine va_get (D := D) (ci := 7) (v := .int M_token) (C := RX7) (T := TX7) (N := 26) hx hb hts hin7 hown hK hP 0 rfl rfl 7 (by decide) fl81 (fun _ h9 => h9) rfl dX7_isName_1 ?_
  refine lv_iconst (v := (1 : Int32)) hx hb dX7_isName_4 (by decide) ?_
  refine lv_icmp_ne (tgt := 81) hx hb dX7_isName_5 (by decide) (fun c_5 => ?_) (fun c_5 => ?_)
  · have hf := zn hf c_5
    refine lv_iconst (v := (0 : Int32)) hx hb dX7_isName_81 (by decide) ?_
    cases hf
    exact W.zret hx hb hr rfl (fun t ht hW => ⟨rfl, ht⟩) (fun q h => absurd h List.not_mem_nil) dX7_isName_82
  · have hf := zp hf c_5
    refine lv_aload_n hx hb dX7_isName_8 rfl (lv_at hl 0 rfl) ?_
    refine va_get (D := D) (ci := 7) (v := .int M_to) (C := RX7) (T := TX7) (N := 26) hx hb hts hin7 hown hK hP 0 rfl rfl 9 (by decide) fl64 (fun _ h9 => h9) rfl dX7_isName_9 ?_
    refine lv_aload_n hx hb dX7_isName_12 rfl (lv_at hl 0 rfl) ?_
    refine va_get (D := D) (ci := 7) (v := .int M_from) (C := RX7) (T := TX7) (N := 26) hx hb hts hin7 hown hK hP 0 rfl rfl 8 (by decide) fl67 (fun _ h9 => h9) rfl dX7_isName_13 ?_
    refine lv_isub hx hb dX7_isName_16 ?_
    refine lv_iload_n hx hb dX7_isName_17 rfl (lv_at hl 1 rfl) ?_
    refine lv_icmp_ne (tgt := 81) hx hb dX7_isName_18 (by decide) (fun c_18 => ?_) (fun c_18 => ?_)
    · have hf := zn hf c_18
      refine lv_iconst (v := (0 : Int32)) hx hb dX7_isName_81 (by decide) ?_
      cases hf
      exact W.zret hx hb hr rfl (fun t ht hW => ⟨rfl, ht⟩) (fun q h => absurd h List.not_mem_nil) dX7_isName_82
    · have hf := zp hf c_18
      refine lv_aload_n hx hb dX7_isName_21 rfl (lv_at hl 0 rfl) ?_
      refine lv_aload_n hx hb dX7_isName_22 rfl (lv_at hl 0 rfl) ?_
      refine va_get (D := D) (ci := 7) (v := .int M_from) (C := RX7) (T := TX7) (N := 26) hx hb hts hin7 hown hK hP 0 rfl rfl 8 (by decide) fl67 (fun _ h9 => h9) rfl dX7_isName_23 ?_
      obtain ⟨r26, hc26, hf⟩ := zb hf
      refine zvr (o := some (.int r26)) (As := [.int M_from]) (rest := []) (stk := [.int r26]) ⟨hx, hb, hml, hown, hts⟩ (mX7_byteAt l D cy st sk sv B am am0 am1 am2 am3 am4 am5 am6 am7 am8 am9 am10 am11 am12 n M_isHeld M_taped M_token M_from M_to M_value M_isWrong M_rowN M_ran M_actKind M_actN M_actA M_isParted u_tape M_from r26 hc26) (cwV 1 hts gX7_isName_X7_byteAt rfl rfl rfl (by decide +kernel) ⟨Nat.le_of_ble_eq_true rfl, Nat.le_of_ble_eq_true rfl⟩) hG hS hAB hP [0, 1] rfl 0 7 rfl rfl rfl rfl hl.1 rfl (Nat.le_of_ble_eq_true rfl) dX7_isName_26 rfl ?_
      refine lv_iload_n hx hb dX7_isName_29 rfl (lv_at hl 2 rfl) ?_
      refine lv_icmp_ne (tgt := 81) hx hb dX7_isName_30 (by decide) (fun c_30 => ?_) (fun c_30 => ?_)
      · have hf := zn hf c_30
        refine lv_iconst (v := (0 : Int32)) hx hb dX7_isName_81 (by decide) ?_
        cases hf
        exact W.zret hx hb hr rfl (fun t ht hW => ⟨rfl, ht⟩) (fun q h => absurd h List.not_mem_nil) dX7_isName_82
      · have hf := zp hf c_30
        refine lv_aload_n hx hb dX7_isName_33 rfl (lv_at hl 0 rfl) ?_
        refine lv_aload_n hx hb dX7_isName_34 rfl (lv_at hl 0 rfl) ?_
        refine va_get (D := D) (ci := 7) (v := .int M_from) (C := RX7) (T := TX7) (N := 26) hx hb hts hin7 hown hK hP 0 rfl rfl 8 (by decide) fl67 (fun _ h9 => h9) rfl dX7_isName_35 ?_
        refine lv_iconst (v := (1 : Int32)) hx hb dX7_isName_38 (by decide) ?_
        refine lv_iadd hx hb dX7_isName_39 ?_
        obtain ⟨r40, hc40, hf⟩ := zb hf
        refine zvr (o := some (.int r40)) (As := [.int (M_from + (1 : Int32))]) (rest := []) (stk := [.int r40]) ⟨hx, hb, hml, hown, hts⟩ (mX7_byteAt l D cy st sk sv B am am0 am1 am2 am3 am4 am5 am6 am7 am8 am9 am10 am11 am12 n M_isHeld M_taped M_token M_from M_to M_value M_isWrong M_rowN M_ran M_actKind M_actN M_actA M_isParted u_tape (M_from + (1 : Int32)) r40 hc40) (cwV 1 hts gX7_isName_X7_byteAt rfl rfl rfl (by decide +kernel) ⟨Nat.le_of_ble_eq_true rfl, Nat.le_of_ble_eq_true rfl⟩) hG hS hAB hP [0, 1] rfl 0 7 rfl rfl rfl rfl hl.1 rfl (Nat.le_of_ble_eq_true rfl) dX7_isName_40 rfl ?_
        refine lv_iload_n hx hb dX7_isName_43 rfl (lv_at hl 3 rfl) ?_
        refine lv_icmp_ne (tgt := 81) hx hb dX7_isName_44 (by decide) (fun c_44 => ?_) (fun c_44 => ?_)
        · have hf := zn hf c_44
          refine lv_iconst (v := (0 : Int32)) hx hb dX7_isName_81 (by decide) ?_
          cases hf
          exact W.zret hx hb hr rfl (fun t ht hW => ⟨rfl, ht⟩) (fun q h => absurd h List.not_mem_nil) dX7_isName_82
        · have hf := zp hf c_44
          refine lv_aload_n hx hb dX7_isName_47 rfl (lv_at hl 0 rfl) ?_
          refine lv_aload_n hx hb dX7_isName_48 rfl (lv_at hl 0 rfl) ?_
          refine va_get (D := D) (ci := 7) (v := .int M_from) (C := RX7) (T := TX7) (N := 26) hx hb hts hin7 hown hK hP 0 rfl rfl 8 (by decide) fl67 (fun _ h9 => h9) rfl dX7_isName_49 ?_
          refine lv_iconst (v := (2 : Int32)) hx hb dX7_isName_52 (by decide) ?_
          refine lv_iadd hx hb dX7_isName_53 ?_
          obtain ⟨r54, hc54, hf⟩ := zb hf
          refine zvr (o := some (.int r54)) (As := [.int (M_from + (2 : Int32))]) (rest := []) (stk := [.int r54]) ⟨hx, hb, hml, hown, hts⟩ (mX7_byteAt l D cy st sk sv B am am0 am1 am2 am3 am4 am5 am6 am7 am8 am9 am10 am11 am12 n M_isHeld M_taped M_token M_from M_to M_value M_isWrong M_rowN M_ran M_actKind M_actN M_actA M_isParted u_tape (M_from + (2 : Int32)) r54 hc54) (cwV 1 hts gX7_isName_X7_byteAt rfl rfl rfl (by decide +kernel) ⟨Nat.le_of_ble_eq_true rfl, Nat.le_of_ble_eq_true rfl⟩) hG hS hAB hP [0, 1] rfl 0 7 rfl rfl rfl rfl hl.1 rfl (Nat.le_of_ble_eq_true rfl) dX7_isName_54 rfl ?_
          refine lv_iload hx hb dX7_isName_57 (lv_at hl 4 rfl) ?_
          refine lv_icmp_ne (tgt := 81) hx hb dX7_isName_59 (by decide) (fun c_59 => ?_) (fun c_59 => ?_)
          · have hf := zn hf c_59
            refine lv_iconst (v := (0 : Int32)) hx hb dX7_isName_81 (by decide) ?_
            cases hf
            exact W.zret hx hb hr rfl (fun t ht hW => ⟨rfl, ht⟩) (fun q h => absurd h List.not_mem_nil) dX7_isName_82
          · have hf := zp hf c_59
            refine lv_aload_n hx hb dX7_isName_62 rfl (lv_at hl 0 rfl) ?_
            refine lv_aload_n hx hb dX7_isName_63 rfl (lv_at hl 0 rfl) ?_
            refine va_get (D := D) (ci := 7) (v := .int M_to) (C := RX7) (T := TX7) (N := 26) hx hb hts hin7 hown hK hP 0 rfl rfl 9 (by decide) fl64 (fun _ h9 => h9) rfl dX7_isName_64 ?_
            refine lv_iconst (v := (1 : Int32)) hx hb dX7_isName_67 (by decide) ?_
            refine lv_isub hx hb dX7_isName_68 ?_
            obtain ⟨r69, hc69, hf⟩ := zb hf
            refine zvr (o := some (.int r69)) (As := [.int (M_to - (1 : Int32))]) (rest := []) (stk := [.int r69]) ⟨hx, hb, hml, hown, hts⟩ (mX7_byteAt l D cy st sk sv B am am0 am1 am2 am3 am4 am5 am6 am7 am8 am9 am10 am11 am12 n M_isHeld M_taped M_token M_from M_to M_value M_isWrong M_rowN M_ran M_actKind M_actN M_actA M_isParted u_tape (M_to - (1 : Int32)) r69 hc69) (cwV 1 hts gX7_isName_X7_byteAt rfl rfl rfl (by decide +kernel) ⟨Nat.le_of_ble_eq_true rfl, Nat.le_of_ble_eq_true rfl⟩) hG hS hAB hP [0, 1] rfl 0 7 rfl rfl rfl rfl hl.1 rfl (Nat.le_of_ble_eq_true rfl) dX7_isName_69 rfl ?_
            refine lv_iload hx hb dX7_isName_72 (lv_at hl 5 rfl) ?_
            refine lv_icmp_ne (tgt := 81) hx hb dX7_isName_74 (by decide) (fun c_74 => ?_) (fun c_74 => ?_)
            · have hf := zn hf c_74
              refine lv_iconst (v := (0 : Int32)) hx hb dX7_isName_81 (by decide) ?_
              cases hf
              exact W.zret hx hb hr rfl (fun t ht hW => ⟨rfl, ht⟩) (fun q h => absurd h List.not_mem_nil) dX7_isName_82
            · have hf := zp hf c_74
              refine lv_iconst (v := (1 : Int32)) hx hb dX7_isName_77 (by decide) ?_
              refine lv_goto (tgt := 82) hx hb dX7_isName_78 (by decide) ?_
              cases hf
              exact W.zret hx hb hr rfl (fun t ht hW => ⟨rfl, ht⟩) (fun q h => absurd h List.not_mem_nil) dX7_isName_82
set_option maxRecDepth 100000 in
set_option maxHeartbeats 100000000 in
theorem mX7_isSame (l : Launch) (D : va_G) (cy : Nat → ClassId) (st sk sv : Nat → Nat) (B : Nat) (am : Nat) (am0 : Nat) (am1 : Nat) (am2 : Nat) (am3 : Nat) (am4 : Nat) (am5 : Nat) (am6 : Nat) (am7 : Nat) (am8 : Nat) (am9 : Nat) (am10 : Nat) (am11 : Nat) (am12 : Nat) (n : Nat) (M_isHeld : Int32) (M_taped : Int32) (M_token : Int32) (M_from : Int32) (M_to : Int32) (M_value : Int32) (M_isWrong : Int32) (M_rowN : Int32) (M_ran : Int32) (M_actKind : Int32) (M_actN : Int32) (M_actA : Int32) (M_isParted : Int32) (u_tape : (Nat → Int32)) (x1 : Int32) (x2 : Int32) (x3 : Int32) (x4 : Int32) (z : Int32) (hf : fX7_isSame n (M_isHeld, M_taped, M_token, M_from, M_to, M_value, M_isWrong, M_rowN, M_ran, M_actKind, M_actN, M_actA, M_isParted) u_tape x1 x2 x3 x4 = some z) : Met l yX7_isSame wsX7_isSame ({ frames := 1, cells := 0, slots := 0, locals := 21 }) (PcR [.ref am, .int x1, .int x2, .int x3, .int x4] D cy st sk sv B [(am, .inr (7, [.ref am0, .ref am1, .ref am2, .ref am3, .int M_isHeld, .ref am4, .int M_taped, .int M_token, .int M_from, .int M_to, .int M_value, .int M_isWrong, .ref am5, .int M_rowN, .ref am6, .ref am7, .ref am8, .ref am9, .ref am10, .ref am11, .ref am12, .int M_ran, .int M_actKind, .int M_actN, .int M_actA, .int M_isParted])), (am4, .inl (cy 0, 200, .inl u_tape))]) (Qr (some (.int z))) 0 0 (fun _ => False) := by
  refine Met.ofW (cc := cX7_isSame) (maxL := 5) (ret := (some .boolean)) (by decide) rfl ?_
  intro p e s m args below meth c s₁ Bd hml hv
  obtain ⟨rfl, hP, hG⟩ := hv
  have hx := Bd.exec
  have hb := Bd.bytes
  have hr := Bd.returns
  have hts := atoms_spec (ws := wsX7_isSame) Bd.pre
  have hown : s.vm.findClass RX7 = some m.cls := findClass_of_methodNamed Bd.named
  have hlocks := Bd.notSynchronized
  have hK := hG.1
  have hS : va_S (fun q => B ≤ q) s.heap s.heap [] := va_S.rf
  have hAB : ∀ q, (fun q => B ≤ q) q → B ≤ q := fun _ h => h
  have hin7 : ∀ w ∈ u_ws RX7 TX7 26, w ∈ wsX7_isSame := by decide +kernel
  have fl67 := hts (.fieldLink RX7 67 "KinCutleryModel" "from" "I") (by decide +kernel)
  have hl := lv_entry ([.ref am, .int x1, .int x2, .int x3, .int x4]) (n := 5) (Nat.le_of_ble_eq_true rfl)
  rw [lg_entry_eq]
  generalize (lg_sl ([.ref am, .int x1, .int x2, .int x3, .int x4]) ++ List.replicate (5 - (lg_sl ([.ref am, .int x1, .int x2, .int x3, .int x4])).length) Slot.unset).toArray = ls at hl ⊢
  have hl : lv_has ls 5 [(0, .ref am), (1, .int x1), (2, .int x2), (3, .int x3), (4, .int x4)] := hl
  have hf : ((fX7_byteAt n (M_isHeld, M_taped, M_token, M_from, M_to, M_value, M_isWrong, M_rowN, M_ran, M_actKind, M_actN, M_actA, M_isParted) u_tape (M_from + x1)).bind fun r7 => if r7 = x2 then ((fX7_byteAt n (M_isHeld, M_taped, M_token, M_from, M_to, M_value, M_isWrong, M_rowN, M_ran, M_actKind, M_actN, M_actA, M_isParted) u_tape ((M_from + x1) + (1 : Int32))).bind fun r23 => if r23 = x3 then ((fX7_byteAt n (M_isHeld, M_taped, M_token, M_from, M_to, M_value, M_isWrong, M_rowN, M_ran, M_actKind, M_actN, M_actA, M_isParted) u_tape ((M_from + x1) + (2 : Int32))).bind fun r39 => if r39 = x4 then (some (1 : Int32)) else (some (0 : Int32))) else (some (0 : Int32))) else (some (0 : Int32))) = some z := hf
  refine lv_aload_n hx hb dX7_isSame_0 rfl (lv_at hl 0 rfl) ?_
  refine lv_aload_n hx hb dX7_isSame_1 rfl (lv_at hl 0 rfl) ?_
  refine va_get (D := D) (ci := 7) (v := .int M_from) (C := RX7) (T := TX7) (N := 26) hx hb hts hin7 hown hK hP 0 rfl rfl 8 (by decide) fl67 (fun _ h9 => h9) rfl dX7_isSame_2 ?_
  refine lv_iload_n hx hb dX7_isSame_5 rfl (lv_at hl 1 rfl) ?_
  refine lv_iadd hx hb dX7_isSame_6 ?_
  obtain ⟨r7, hc7, hf⟩ := zb hf
  refine zvr (o := some (.int r7)) (As := [.int (M_from + x1)]) (rest := []) (stk := [.int r7]) ⟨hx, hb, hml, hown, hts⟩ (mX7_byteAt l D cy st sk sv B am am0 am1 am2 am3 am4 am5 am6 am7 am8 am9 am10 am11 am12 n M_isHeld M_taped M_token M_from M_to M_value M_isWrong M_rowN M_ran M_actKind M_actN M_actA M_isParted u_tape (M_from + x1) r7 hc7) (cwV 1 hts gX7_isSame_X7_byteAt rfl rfl rfl (by decide +kernel) ⟨Nat.le_of_ble_eq_true rfl, Nat.le_of_ble_eq_true rfl⟩) hG hS hAB hP [0, 1] rfl 0 7 rfl rfl rfl rfl hl.1 rfl (Nat.le_of_ble_eq_true rfl) dX7_isSame_7 rfl ?_
  refine lv_iload_n hx hb dX7_isSame_10 rfl (lv_at hl 2 rfl) ?_
  refine lv_icmp_ne (tgt := 51) hx hb dX7_isSame_11 (by decide) (fun c_11 => ?_) (fun c_11 => ?_)
  · have hf := zn hf c_11
    refine lv_iconst (v := (0 : Int32)) hx hb dX7_isSame_51 (by decide) ?_
    cases hf
    exact W.zret hx hb hr rfl (fun t ht hW => ⟨rfl, ht⟩) (fun q h => absurd h List.not_mem_nil) dX7_isSame_52
  · have hf := zp hf c_11
    refine lv_aload_n hx hb dX7_isSame_14 rfl (lv_at hl 0 rfl) ?_
    refine lv_aload_n hx hb dX7_isSame_15 rfl (lv_at hl 0 rfl) ?_
    refine va_get (D := D) (ci := 7) (v := .int M_from) (C := RX7) (T := TX7) (N := 26) hx hb hts hin7 hown hK hP 0 rfl rfl 8 (by decide) fl67 (fun _ h9 => h9) rfl dX7_isSame_16 ?_
    refine lv_iload_n hx hb dX7_isSame_19 rfl (lv_at hl 1 rfl) ?_
    refine lv_iadd hx hb dX7_isSame_20 ?_
    refine lv_iconst (v := (1 : Int32)) hx hb dX7_isSame_21 (by decide) ?_
    refine lv_iadd hx hb dX7_isSame_22 ?_
    obtain ⟨r23, hc23, hf⟩ := zb hf
    refine zvr (o := some (.int r23)) (As := [.int ((M_from + x1) + (1 : Int32))]) (rest := []) (stk := [.int r23]) ⟨hx, hb, hml, hown, hts⟩ (mX7_byteAt l D cy st sk sv B am am0 am1 am2 am3 am4 am5 am6 am7 am8 am9 am10 am11 am12 n M_isHeld M_taped M_token M_from M_to M_value M_isWrong M_rowN M_ran M_actKind M_actN M_actA M_isParted u_tape ((M_from + x1) + (1 : Int32)) r23 hc23) (cwV 1 hts gX7_isSame_X7_byteAt rfl rfl rfl (by decide +kernel) ⟨Nat.le_of_ble_eq_true rfl, Nat.le_of_ble_eq_true rfl⟩) hG hS hAB hP [0, 1] rfl 0 7 rfl rfl rfl rfl hl.1 rfl (Nat.le_of_ble_eq_true rfl) dX7_isSame_23 rfl ?_
    refine lv_iload_n hx hb dX7_isSame_26 rfl (lv_at hl 3 rfl) ?_
    refine lv_icmp_ne (tgt := 51) hx hb dX7_isSame_27 (by decide) (fun c_27 => ?_) (fun c_27 => ?_)
    · have hf := zn hf c_27
      refine lv_iconst (v := (0 : Int32)) hx hb dX7_isSame_51 (by decide) ?_
      cases hf
      exact W.zret hx hb hr rfl (fun t ht hW => ⟨rfl, ht⟩) (fun q h => absurd h List.not_mem_nil) dX7_isSame_52
    · have hf := zp hf c_27
      refine lv_aload_n hx hb dX7_isSame_30 rfl (lv_at hl 0 rfl) ?_
      refine lv_aload_n hx hb dX7_isSame_31 rfl (lv_at hl 0 rfl) ?_
      refine va_get (D := D) (ci := 7) (v := .int M_from) (C := RX7) (T := TX7) (N := 26) hx hb hts hin7 hown hK hP 0 rfl rfl 8 (by decide) fl67 (fun _ h9 => h9) rfl dX7_isSame_32 ?_
      refine lv_iload_n hx hb dX7_isSame_35 rfl (lv_at hl 1 rfl) ?_
      refine lv_iadd hx hb dX7_isSame_36 ?_
      refine lv_iconst (v := (2 : Int32)) hx hb dX7_isSame_37 (by decide) ?_
      refine lv_iadd hx hb dX7_isSame_38 ?_
      obtain ⟨r39, hc39, hf⟩ := zb hf
      refine zvr (o := some (.int r39)) (As := [.int ((M_from + x1) + (2 : Int32))]) (rest := []) (stk := [.int r39]) ⟨hx, hb, hml, hown, hts⟩ (mX7_byteAt l D cy st sk sv B am am0 am1 am2 am3 am4 am5 am6 am7 am8 am9 am10 am11 am12 n M_isHeld M_taped M_token M_from M_to M_value M_isWrong M_rowN M_ran M_actKind M_actN M_actA M_isParted u_tape ((M_from + x1) + (2 : Int32)) r39 hc39) (cwV 1 hts gX7_isSame_X7_byteAt rfl rfl rfl (by decide +kernel) ⟨Nat.le_of_ble_eq_true rfl, Nat.le_of_ble_eq_true rfl⟩) hG hS hAB hP [0, 1] rfl 0 7 rfl rfl rfl rfl hl.1 rfl (Nat.le_of_ble_eq_true rfl) dX7_isSame_39 rfl ?_
      refine lv_iload hx hb dX7_isSame_42 (lv_at hl 4 rfl) ?_
      refine lv_icmp_ne (tgt := 51) hx hb dX7_isSame_44 (by decide) (fun c_44 => ?_) (fun c_44 => ?_)
      · have hf := zn hf c_44
        refine lv_iconst (v := (0 : Int32)) hx hb dX7_isSame_51 (by decide) ?_
        cases hf
        exact W.zret hx hb hr rfl (fun t ht hW => ⟨rfl, ht⟩) (fun q h => absurd h List.not_mem_nil) dX7_isSame_52
      · have hf := zp hf c_44
        refine lv_iconst (v := (1 : Int32)) hx hb dX7_isSame_47 (by decide) ?_
        refine lv_goto (tgt := 52) hx hb dX7_isSame_48 (by decide) ?_
        cases hf
        exact W.zret hx hb hr rfl (fun t ht hW => ⟨rfl, ht⟩) (fun q h => absurd h List.not_mem_nil) dX7_isSame_52
set_option maxRecDepth 100000 in
set_option maxHeartbeats 100000000 in
theorem mX7_isFour (l : Launch) (D : va_G) (cy : Nat → ClassId) (st sk sv : Nat → Nat) (B : Nat) (am : Nat) (am0 : Nat) (am1 : Nat) (am2 : Nat) (am3 : Nat) (am4 : Nat) (am5 : Nat) (am6 : Nat) (am7 : Nat) (am8 : Nat) (am9 : Nat) (am10 : Nat) (am11 : Nat) (am12 : Nat) (n : Nat) (M_isHeld : Int32) (M_taped : Int32) (M_token : Int32) (M_from : Int32) (M_to : Int32) (M_value : Int32) (M_isWrong : Int32) (M_rowN : Int32) (M_ran : Int32) (M_actKind : Int32) (M_actN : Int32) (M_actA : Int32) (M_isParted : Int32) (u_tape : (Nat → Int32)) (x1 : Int32) (x2 : Int32) (x3 : Int32) (x4 : Int32) (z : Int32) (hf : fX7_isFour n (M_isHeld, M_taped, M_token, M_from, M_to, M_value, M_isWrong, M_rowN, M_ran, M_actKind, M_actN, M_actA, M_isParted) u_tape x1 x2 x3 x4 = some z) : Met l yX7_isFour wsX7_isFour ({ frames := 2, cells := 0, slots := 0, locals := 46 }) (PcR [.ref am, .int x1, .int x2, .int x3, .int x4] D cy st sk sv B [(am, .inr (7, [.ref am0, .ref am1, .ref am2, .ref am3, .int M_isHeld, .ref am4, .int M_taped, .int M_token, .int M_from, .int M_to, .int M_value, .int M_isWrong, .ref am5, .int M_rowN, .ref am6, .ref am7, .ref am8, .ref am9, .ref am10, .ref am11, .ref am12, .int M_ran, .int M_actKind, .int M_actN, .int M_actA, .int M_isParted])), (am4, .inl (cy 0, 200, .inl u_tape))]) (Qr (some (.int z))) 0 0 (fun _ => False) := by
  refine Met.ofW (cc := cX7_isFour) (maxL := 5) (ret := (some .boolean)) (by decide) rfl ?_
  intro p e s m args below meth c s₁ Bd hml hv
  obtain ⟨rfl, hP, hG⟩ := hv
  have hx := Bd.exec
  have hb := Bd.bytes
  have hr := Bd.returns
  have hts := atoms_spec (ws := wsX7_isFour) Bd.pre
  have hown : s.vm.findClass RX7 = some m.cls := findClass_of_methodNamed Bd.named
  have hlocks := Bd.notSynchronized
  have hK := hG.1
  have hS : va_S (fun q => B ≤ q) s.heap s.heap [] := va_S.rf
  have hAB : ∀ q, (fun q => B ≤ q) q → B ≤ q := fun _ h => h
  have hl := lv_entry ([.ref am, .int x1, .int x2, .int x3, .int x4]) (n := 5) (Nat.le_of_ble_eq_true rfl)
  rw [lg_entry_eq]
  generalize (lg_sl ([.ref am, .int x1, .int x2, .int x3, .int x4]) ++ List.replicate (5 - (lg_sl ([.ref am, .int x1, .int x2, .int x3, .int x4])).length) Slot.unset).toArray = ls at hl ⊢
  have hl : lv_has ls 5 [(0, .ref am), (1, .int x1), (2, .int x2), (3, .int x3), (4, .int x4)] := hl
  have hf : ((fX7_isName n (M_isHeld, M_taped, M_token, M_from, M_to, M_value, M_isWrong, M_rowN, M_ran, M_actKind, M_actN, M_actA, M_isParted) u_tape (4 : Int32) x1 x2 x3 x4).bind fun r7 => if ¬ (r7 = 0 ∨ r7 = 1) then none else some r7) = some z := hf
  refine lv_aload_n hx hb dX7_isFour_0 rfl (lv_at hl 0 rfl) ?_
  refine lv_iconst (v := (4 : Int32)) hx hb dX7_isFour_1 (by decide) ?_
  refine lv_iload_n hx hb dX7_isFour_2 rfl (lv_at hl 1 rfl) ?_
  refine lv_iload_n hx hb dX7_isFour_3 rfl (lv_at hl 2 rfl) ?_
  refine lv_iload_n hx hb dX7_isFour_4 rfl (lv_at hl 3 rfl) ?_
  refine lv_iload hx hb dX7_isFour_5 (lv_at hl 4 rfl) ?_
  obtain ⟨r7, hc7, hf⟩ := zb hf
  refine zvr (o := some (.int r7)) (As := [.int (4 : Int32), .int x1, .int x2, .int x3, .int x4]) (rest := []) (stk := [.int r7]) ⟨hx, hb, hml, hown, hts⟩ (mX7_isName l D cy st sk sv B am am0 am1 am2 am3 am4 am5 am6 am7 am8 am9 am10 am11 am12 n M_isHeld M_taped M_token M_from M_to M_value M_isWrong M_rowN M_ran M_actKind M_actN M_actA M_isParted u_tape (4 : Int32) x1 x2 x3 x4 r7 hc7) (cwV 5 hts gX7_isFour_X7_isName rfl rfl rfl (by decide +kernel) ⟨Nat.le_of_ble_eq_true rfl, Nat.le_of_ble_eq_true rfl⟩) hG hS hAB hP [0, 1] rfl 0 7 rfl rfl rfl rfl hl.1 rfl (Nat.le_of_ble_eq_true rfl) dX7_isFour_7 rfl ?_
  obtain ⟨h_10, hf⟩ := zg hf
  cases hf
  exact W.zret hx hb hr (nz_b h_10).1 (fun t ht hW => ⟨rfl, ht⟩) (fun q h => absurd h List.not_mem_nil) dX7_isFour_10
set_option maxRecDepth 100000 in
set_option maxHeartbeats 100000000 in
theorem mX7_isFive (l : Launch) (D : va_G) (cy : Nat → ClassId) (st sk sv : Nat → Nat) (B : Nat) (am : Nat) (am0 : Nat) (am1 : Nat) (am2 : Nat) (am3 : Nat) (am4 : Nat) (am5 : Nat) (am6 : Nat) (am7 : Nat) (am8 : Nat) (am9 : Nat) (am10 : Nat) (am11 : Nat) (am12 : Nat) (n : Nat) (M_isHeld : Int32) (M_taped : Int32) (M_token : Int32) (M_from : Int32) (M_to : Int32) (M_value : Int32) (M_isWrong : Int32) (M_rowN : Int32) (M_ran : Int32) (M_actKind : Int32) (M_actN : Int32) (M_actA : Int32) (M_isParted : Int32) (u_tape : (Nat → Int32)) (x1 : Int32) (x2 : Int32) (x3 : Int32) (x4 : Int32) (x5 : Int32) (z : Int32) (hf : fX7_isFive n (M_isHeld, M_taped, M_token, M_from, M_to, M_value, M_isWrong, M_rowN, M_ran, M_actKind, M_actN, M_actA, M_isParted) u_tape x1 x2 x3 x4 x5 = some z) : Met l yX7_isFive wsX7_isFive ({ frames := 2, cells := 0, slots := 0, locals := 46 }) (PcR [.ref am, .int x1, .int x2, .int x3, .int x4, .int x5] D cy st sk sv B [(am, .inr (7, [.ref am0, .ref am1, .ref am2, .ref am3, .int M_isHeld, .ref am4, .int M_taped, .int M_token, .int M_from, .int M_to, .int M_value, .int M_isWrong, .ref am5, .int M_rowN, .ref am6, .ref am7, .ref am8, .ref am9, .ref am10, .ref am11, .ref am12, .int M_ran, .int M_actKind, .int M_actN, .int M_actA, .int M_isParted])), (am4, .inl (cy 0, 200, .inl u_tape))]) (Qr (some (.int z))) 0 0 (fun _ => False) := by
  refine Met.ofW (cc := cX7_isFive) (maxL := 6) (ret := (some .boolean)) (by decide) rfl ?_
  intro p e s m args below meth c s₁ Bd hml hv
  obtain ⟨rfl, hP, hG⟩ := hv
  have hx := Bd.exec
  have hb := Bd.bytes
  have hr := Bd.returns
  have hts := atoms_spec (ws := wsX7_isFive) Bd.pre
  have hown : s.vm.findClass RX7 = some m.cls := findClass_of_methodNamed Bd.named
  have hlocks := Bd.notSynchronized
  have hK := hG.1
  have hS : va_S (fun q => B ≤ q) s.heap s.heap [] := va_S.rf
  have hAB : ∀ q, (fun q => B ≤ q) q → B ≤ q := fun _ h => h
  have hin7 : ∀ w ∈ u_ws RX7 TX7 26, w ∈ wsX7_isFive := by decide +kernel
  have fl67 := hts (.fieldLink RX7 67 "KinCutleryModel" "from" "I") (by decide +kernel)
  have hl := lv_entry ([.ref am, .int x1, .int x2, .int x3, .int x4, .int x5]) (n := 6) (Nat.le_of_ble_eq_true rfl)
  rw [lg_entry_eq]
  generalize (lg_sl ([.ref am, .int x1, .int x2, .int x3, .int x4, .int x5]) ++ List.replicate (6 - (lg_sl ([.ref am, .int x1, .int x2, .int x3, .int x4, .int x5])).length) Slot.unset).toArray = ls at hl ⊢
  have hl : lv_has ls 6 [(0, .ref am), (1, .int x1), (2, .int x2), (3, .int x3), (4, .int x4), (5, .int x5)] := hl
  have hf : ((fX7_isName n (M_isHeld, M_taped, M_token, M_from, M_to, M_value, M_isWrong, M_rowN, M_ran, M_actKind, M_actN, M_actA, M_isParted) u_tape (5 : Int32) x1 x2 x3 x5).bind fun r7 => if r7 = 0 then (some (0 : Int32)) else ((fX7_byteAt n (M_isHeld, M_taped, M_token, M_from, M_to, M_value, M_isWrong, M_rowN, M_ran, M_actKind, M_actN, M_actA, M_isParted) u_tape (M_from + (3 : Int32))).bind fun r20 => if r20 = x4 then (some (1 : Int32)) else (some (0 : Int32)))) = some z := hf
  refine lv_aload_n hx hb dX7_isFive_0 rfl (lv_at hl 0 rfl) ?_
  refine lv_iconst (v := (5 : Int32)) hx hb dX7_isFive_1 (by decide) ?_
  refine lv_iload_n hx hb dX7_isFive_2 rfl (lv_at hl 1 rfl) ?_
  refine lv_iload_n hx hb dX7_isFive_3 rfl (lv_at hl 2 rfl) ?_
  refine lv_iload_n hx hb dX7_isFive_4 rfl (lv_at hl 3 rfl) ?_
  refine lv_iload hx hb dX7_isFive_5 (lv_at hl 5 rfl) ?_
  obtain ⟨r7, hc7, hf⟩ := zb hf
  refine zvr (o := some (.int r7)) (As := [.int (5 : Int32), .int x1, .int x2, .int x3, .int x5]) (rest := []) (stk := [.int r7]) ⟨hx, hb, hml, hown, hts⟩ (mX7_isName l D cy st sk sv B am am0 am1 am2 am3 am4 am5 am6 am7 am8 am9 am10 am11 am12 n M_isHeld M_taped M_token M_from M_to M_value M_isWrong M_rowN M_ran M_actKind M_actN M_actA M_isParted u_tape (5 : Int32) x1 x2 x3 x5 r7 hc7) (cwV 5 hts gX7_isFive_X7_isName rfl rfl rfl (by decide +kernel) ⟨Nat.le_of_ble_eq_true rfl, Nat.le_of_ble_eq_true rfl⟩) hG hS hAB hP [0, 1] rfl 0 7 rfl rfl rfl rfl hl.1 rfl (Nat.le_of_ble_eq_true rfl) dX7_isFive_7 rfl ?_
  refine lv_if_eq (tgt := 32) hx hb dX7_isFive_10 (by decide) (fun c_10 => ?_) (fun c_10 => ?_)
  · have hf := zp hf c_10
    refine lv_iconst (v := (0 : Int32)) hx hb dX7_isFive_32 (by decide) ?_
    cases hf
    exact W.zret hx hb hr rfl (fun t ht hW => ⟨rfl, ht⟩) (fun q h => absurd h List.not_mem_nil) dX7_isFive_33
  · have hf := zn hf c_10
    refine lv_aload_n hx hb dX7_isFive_13 rfl (lv_at hl 0 rfl) ?_
    refine lv_aload_n hx hb dX7_isFive_14 rfl (lv_at hl 0 rfl) ?_
    refine va_get (D := D) (ci := 7) (v := .int M_from) (C := RX7) (T := TX7) (N := 26) hx hb hts hin7 hown hK hP 0 rfl rfl 8 (by decide) fl67 (fun _ h9 => h9) rfl dX7_isFive_15 ?_
    refine lv_iconst (v := (3 : Int32)) hx hb dX7_isFive_18 (by decide) ?_
    refine lv_iadd hx hb dX7_isFive_19 ?_
    obtain ⟨r20, hc20, hf⟩ := zb hf
    refine zvr (o := some (.int r20)) (As := [.int (M_from + (3 : Int32))]) (rest := []) (stk := [.int r20]) ⟨hx, hb, hml, hown, hts⟩ (mX7_byteAt l D cy st sk sv B am am0 am1 am2 am3 am4 am5 am6 am7 am8 am9 am10 am11 am12 n M_isHeld M_taped M_token M_from M_to M_value M_isWrong M_rowN M_ran M_actKind M_actN M_actA M_isParted u_tape (M_from + (3 : Int32)) r20 hc20) (cwV 1 hts gX7_isFive_X7_byteAt rfl rfl rfl (by decide +kernel) ⟨Nat.le_of_ble_eq_true rfl, Nat.le_of_ble_eq_true rfl⟩) hG hS hAB hP [0, 1] rfl 0 7 rfl rfl rfl rfl hl.1 rfl (Nat.le_of_ble_eq_true rfl) dX7_isFive_20 rfl ?_
    refine lv_iload hx hb dX7_isFive_23 (lv_at hl 4 rfl) ?_
    refine lv_icmp_ne (tgt := 32) hx hb dX7_isFive_25 (by decide) (fun c_25 => ?_) (fun c_25 => ?_)
    · have hf := zn hf c_25
      refine lv_iconst (v := (0 : Int32)) hx hb dX7_isFive_32 (by decide) ?_
      cases hf
      exact W.zret hx hb hr rfl (fun t ht hW => ⟨rfl, ht⟩) (fun q h => absurd h List.not_mem_nil) dX7_isFive_33
    · have hf := zp hf c_25
      refine lv_iconst (v := (1 : Int32)) hx hb dX7_isFive_28 (by decide) ?_
      refine lv_goto (tgt := 33) hx hb dX7_isFive_29 (by decide) ?_
      cases hf
      exact W.zret hx hb hr rfl (fun t ht hW => ⟨rfl, ht⟩) (fun q h => absurd h List.not_mem_nil) dX7_isFive_33
set_option maxRecDepth 100000 in
set_option maxHeartbeats 100000000 in
theorem mX7_kindHere (l : Launch) (D : va_G) (cy : Nat → ClassId) (st sk sv : Nat → Nat) (B : Nat) (am : Nat) (am0 : Nat) (am1 : Nat) (am2 : Nat) (am3 : Nat) (am4 : Nat) (am5 : Nat) (am6 : Nat) (am7 : Nat) (am8 : Nat) (am9 : Nat) (am10 : Nat) (am11 : Nat) (am12 : Nat) (n : Nat) (M_isHeld : Int32) (M_taped : Int32) (M_token : Int32) (M_from : Int32) (M_to : Int32) (M_value : Int32) (M_isWrong : Int32) (M_rowN : Int32) (M_ran : Int32) (M_actKind : Int32) (M_actN : Int32) (M_actA : Int32) (M_isParted : Int32) (u_tape : (Nat → Int32))  (z : Int32) (hf : fX7_kindHere n (M_isHeld, M_taped, M_token, M_from, M_to, M_value, M_isWrong, M_rowN, M_ran, M_actKind, M_actN, M_actA, M_isParted) u_tape = some z) : Met l yX7_kindHere wsX7_kindHere ({ frames := 3, cells := 0, slots := 0, locals := 71 }) (PcR [.ref am] D cy st sk sv B [(am, .inr (7, [.ref am0, .ref am1, .ref am2, .ref am3, .int M_isHeld, .ref am4, .int M_taped, .int M_token, .int M_from, .int M_to, .int M_value, .int M_isWrong, .ref am5, .int M_rowN, .ref am6, .ref am7, .ref am8, .ref am9, .ref am10, .ref am11, .ref am12, .int M_ran, .int M_actKind, .int M_actN, .int M_actA, .int M_isParted])), (am4, .inl (cy 0, 200, .inl u_tape))]) (Qr (some (.int z))) 0 0 (fun _ => False) := by
  refine Met.ofW (cc := cX7_kindHere) (maxL := 1) (ret := (some .int)) (by decide) rfl ?_
  intro p e s m args below meth c s₁ Bd hml hv
  obtain ⟨rfl, hP, hG⟩ := hv
  have hx := Bd.exec
  have hb := Bd.bytes
  have hr := Bd.returns
  have hts := atoms_spec (ws := wsX7_kindHere) Bd.pre
  have hown : s.vm.findClass RX7 = some m.cls := findClass_of_methodNamed Bd.named
  have hlocks := Bd.notSynchronized
  have hK := hG.1
  have hS : va_S (fun q => B ≤ q) s.heap s.heap [] := va_S.rf
  have hAB : ∀ q, (fun q => B ≤ q) q → B ≤ q := fun _ h => h
  have hB71 : fX7_kindHere_b71 n (M_isHeld, M_taped, M_token, M_from, M_to, M_value, M_isWrong, M_rowN, M_ran, M_actKind, M_actN, M_actA, M_isParted) u_tape   = some z → ∀ (ls : Array Slot), lv_has ls 1 [(0, .ref am)] → W p l e (headSpec wsX7_kindHere ({ frames := 3, cells := 0, slots := 0, locals := 71 })).room s m ([.ref am] : List Value).toArray below meth c s.heap [] 0 0 (MQ below (Qr (some (.int z))) ([.ref am] : List Value).toArray s 0 0 (fun _ => False)) (F0 m 71 ls []) := by
    intro  hf ls hl
    have hf : ((fX7_isFour n (M_isHeld, M_taped, M_token, M_from, M_to, M_value, M_isWrong, M_rowN, M_ran, M_actKind, M_actN, M_actA, M_isParted) u_tape (104 : Int32) (101 : Int32) (105 : Int32) (114 : Int32)).bind fun r80 => if r80 = 0 then ((fX7_isFive n (M_isHeld, M_taped, M_token, M_from, M_to, M_value, M_isWrong, M_rowN, M_ran, M_actKind, M_actN, M_actA, M_isParted) u_tape (99 : Int32) (108 : Int32) (101 : Int32) (114 : Int32) (107 : Int32)).bind fun r99 => if r99 = 0 then ((fX7_isFour n (M_isHeld, M_taped, M_token, M_from, M_to, M_value, M_isWrong, M_rowN, M_ran, M_actKind, M_actN, M_actA, M_isParted) u_tape (103 : Int32) (105 : Int32) (114 : Int32) (108 : Int32)).bind fun r116 => if r116 = 0 then (some (-1 : Int32)) else (some (5 : Int32))) else (some (4 : Int32))) else (some (3 : Int32))) = some z := hf
    refine lv_aload_n hx hb dX7_kindHere_71 rfl (lv_at hl 0 rfl) ?_
    refine lv_bipush (v := (104 : Int32)) hx hb dX7_kindHere_72 (by decide) ?_
    refine lv_bipush (v := (101 : Int32)) hx hb dX7_kindHere_74 (by decide) ?_
    refine lv_bipush (v := (105 : Int32)) hx hb dX7_kindHere_76 (by decide) ?_
    refine lv_bipush (v := (114 : Int32)) hx hb dX7_kindHere_78 (by decide) ?_
    obtain ⟨r80, hc80, hf⟩ := zb hf
    refine zvr (o := some (.int r80)) (As := [.int (104 : Int32), .int (101 : Int32), .int (105 : Int32), .int (114 : Int32)]) (rest := []) (stk := [.int r80]) ⟨hx, hb, hml, hown, hts⟩ (mX7_isFour l D cy st sk sv B am am0 am1 am2 am3 am4 am5 am6 am7 am8 am9 am10 am11 am12 n M_isHeld M_taped M_token M_from M_to M_value M_isWrong M_rowN M_ran M_actKind M_actN M_actA M_isParted u_tape (104 : Int32) (101 : Int32) (105 : Int32) (114 : Int32) r80 hc80) (cwV 4 hts gX7_kindHere_X7_isFour rfl rfl rfl (by decide +kernel) ⟨Nat.le_of_ble_eq_true rfl, Nat.le_of_ble_eq_true rfl⟩) hG hS hAB hP [0, 1] rfl 0 7 rfl rfl rfl rfl hl.1 rfl (Nat.le_of_ble_eq_true rfl) dX7_kindHere_80 rfl ?_
    refine lv_if_eq (tgt := 88) hx hb dX7_kindHere_83 (by decide) (fun c_83 => ?_) (fun c_83 => ?_)
    · have hf := zp hf c_83
      refine lv_aload_n hx hb dX7_kindHere_88 rfl (lv_at hl 0 rfl) ?_
      refine lv_bipush (v := (99 : Int32)) hx hb dX7_kindHere_89 (by decide) ?_
      refine lv_bipush (v := (108 : Int32)) hx hb dX7_kindHere_91 (by decide) ?_
      refine lv_bipush (v := (101 : Int32)) hx hb dX7_kindHere_93 (by decide) ?_
      refine lv_bipush (v := (114 : Int32)) hx hb dX7_kindHere_95 (by decide) ?_
      refine lv_bipush (v := (107 : Int32)) hx hb dX7_kindHere_97 (by decide) ?_
      obtain ⟨r99, hc99, hf⟩ := zb hf
      refine zvr (o := some (.int r99)) (As := [.int (99 : Int32), .int (108 : Int32), .int (101 : Int32), .int (114 : Int32), .int (107 : Int32)]) (rest := []) (stk := [.int r99]) ⟨hx, hb, hml, hown, hts⟩ (mX7_isFive l D cy st sk sv B am am0 am1 am2 am3 am4 am5 am6 am7 am8 am9 am10 am11 am12 n M_isHeld M_taped M_token M_from M_to M_value M_isWrong M_rowN M_ran M_actKind M_actN M_actA M_isParted u_tape (99 : Int32) (108 : Int32) (101 : Int32) (114 : Int32) (107 : Int32) r99 hc99) (cwV 5 hts gX7_kindHere_X7_isFive rfl rfl rfl (by decide +kernel) ⟨Nat.le_of_ble_eq_true rfl, Nat.le_of_ble_eq_true rfl⟩) hG hS hAB hP [0, 1] rfl 0 7 rfl rfl rfl rfl hl.1 rfl (Nat.le_of_ble_eq_true rfl) dX7_kindHere_99 rfl ?_
      refine lv_if_eq (tgt := 107) hx hb dX7_kindHere_102 (by decide) (fun c_102 => ?_) (fun c_102 => ?_)
      · have hf := zp hf c_102
        refine lv_aload_n hx hb dX7_kindHere_107 rfl (lv_at hl 0 rfl) ?_
        refine lv_bipush (v := (103 : Int32)) hx hb dX7_kindHere_108 (by decide) ?_
        refine lv_bipush (v := (105 : Int32)) hx hb dX7_kindHere_110 (by decide) ?_
        refine lv_bipush (v := (114 : Int32)) hx hb dX7_kindHere_112 (by decide) ?_
        refine lv_bipush (v := (108 : Int32)) hx hb dX7_kindHere_114 (by decide) ?_
        obtain ⟨r116, hc116, hf⟩ := zb hf
        refine zvr (o := some (.int r116)) (As := [.int (103 : Int32), .int (105 : Int32), .int (114 : Int32), .int (108 : Int32)]) (rest := []) (stk := [.int r116]) ⟨hx, hb, hml, hown, hts⟩ (mX7_isFour l D cy st sk sv B am am0 am1 am2 am3 am4 am5 am6 am7 am8 am9 am10 am11 am12 n M_isHeld M_taped M_token M_from M_to M_value M_isWrong M_rowN M_ran M_actKind M_actN M_actA M_isParted u_tape (103 : Int32) (105 : Int32) (114 : Int32) (108 : Int32) r116 hc116) (cwV 4 hts gX7_kindHere_X7_isFour rfl rfl rfl (by decide +kernel) ⟨Nat.le_of_ble_eq_true rfl, Nat.le_of_ble_eq_true rfl⟩) hG hS hAB hP [0, 1] rfl 0 7 rfl rfl rfl rfl hl.1 rfl (Nat.le_of_ble_eq_true rfl) dX7_kindHere_116 rfl ?_
        refine lv_if_eq (tgt := 126) hx hb dX7_kindHere_119 (by decide) (fun c_119 => ?_) (fun c_119 => ?_)
        · have hf := zp hf c_119
          refine lv_iconst (v := (-1 : Int32)) hx hb dX7_kindHere_126 (by decide) ?_
          cases hf
          exact W.iret hx hb hr (fun t ht hW => ⟨rfl, ht⟩) (fun q h => absurd h List.not_mem_nil) dX7_kindHere_127
        · have hf := zn hf c_119
          refine lv_iconst (v := (5 : Int32)) hx hb dX7_kindHere_122 (by decide) ?_
          refine lv_goto (tgt := 127) hx hb dX7_kindHere_123 (by decide) ?_
          cases hf
          exact W.iret hx hb hr (fun t ht hW => ⟨rfl, ht⟩) (fun q h => absurd h List.not_mem_nil) dX7_kindHere_127
      · have hf := zn hf c_102
        refine lv_iconst (v := (4 : Int32)) hx hb dX7_kindHere_105 (by decide) ?_
        cases hf
        exact W.iret hx hb hr (fun t ht hW => ⟨rfl, ht⟩) (fun q h => absurd h List.not_mem_nil) dX7_kindHere_106
    · have hf := zn hf c_83
      refine lv_iconst (v := (3 : Int32)) hx hb dX7_kindHere_86 (by decide) ?_
      cases hf
      exact W.iret hx hb hr (fun t ht hW => ⟨rfl, ht⟩) (fun q h => absurd h List.not_mem_nil) dX7_kindHere_87
  have hl := lv_entry ([.ref am]) (n := 1) (Nat.le_of_ble_eq_true rfl)
  rw [lg_entry_eq]
  generalize (lg_sl ([.ref am]) ++ List.replicate (1 - (lg_sl ([.ref am])).length) Slot.unset).toArray = ls at hl ⊢
  have hl : lv_has ls 1 [(0, .ref am)] := hl
  have hf : ((fX7_isFive n (M_isHeld, M_taped, M_token, M_from, M_to, M_value, M_isWrong, M_rowN, M_ran, M_actKind, M_actN, M_actA, M_isParted) u_tape (103 : Int32) (117 : Int32) (101 : Int32) (115 : Int32) (116 : Int32)).bind fun r11 => if r11 = 0 then ((fX7_isFive n (M_isHeld, M_taped, M_token, M_from, M_to, M_value, M_isWrong, M_rowN, M_ran, M_actKind, M_actN, M_actA, M_isParted) u_tape (110 : Int32) (105 : Int32) (101 : Int32) (99 : Int32) (101 : Int32)).bind fun r30 => if r30 = 0 then ((fX7_isName n (M_isHeld, M_taped, M_token, M_from, M_to, M_value, M_isWrong, M_rowN, M_ran, M_actKind, M_actN, M_actA, M_isParted) u_tape (7 : Int32) (97 : Int32) (99 : Int32) (116 : Int32) (121 : Int32)).bind fun r49 => if r49 = 0 then (fX7_kindHere_b71 n (M_isHeld, M_taped, M_token, M_from, M_to, M_value, M_isWrong, M_rowN, M_ran, M_actKind, M_actN, M_actA, M_isParted) u_tape  ) else ((fX7_isSame n (M_isHeld, M_taped, M_token, M_from, M_to, M_value, M_isWrong, M_rowN, M_ran, M_actKind, M_actN, M_actA, M_isParted) u_tape (3 : Int32) (117 : Int32) (97 : Int32) (114 : Int32)).bind fun r63 => if r63 = 0 then (fX7_kindHere_b71 n (M_isHeld, M_taped, M_token, M_from, M_to, M_value, M_isWrong, M_rowN, M_ran, M_actKind, M_actN, M_actA, M_isParted) u_tape  ) else (some (2 : Int32)))) else (some (1 : Int32))) else (some (0 : Int32))) = some z := hf
  refine lv_aload_n hx hb dX7_kindHere_0 rfl (lv_at hl 0 rfl) ?_
  refine lv_bipush (v := (103 : Int32)) hx hb dX7_kindHere_1 (by decide) ?_
  refine lv_bipush (v := (117 : Int32)) hx hb dX7_kindHere_3 (by decide) ?_
  refine lv_bipush (v := (101 : Int32)) hx hb dX7_kindHere_5 (by decide) ?_
  refine lv_bipush (v := (115 : Int32)) hx hb dX7_kindHere_7 (by decide) ?_
  refine lv_bipush (v := (116 : Int32)) hx hb dX7_kindHere_9 (by decide) ?_
  obtain ⟨r11, hc11, hf⟩ := zb hf
  refine zvr (o := some (.int r11)) (As := [.int (103 : Int32), .int (117 : Int32), .int (101 : Int32), .int (115 : Int32), .int (116 : Int32)]) (rest := []) (stk := [.int r11]) ⟨hx, hb, hml, hown, hts⟩ (mX7_isFive l D cy st sk sv B am am0 am1 am2 am3 am4 am5 am6 am7 am8 am9 am10 am11 am12 n M_isHeld M_taped M_token M_from M_to M_value M_isWrong M_rowN M_ran M_actKind M_actN M_actA M_isParted u_tape (103 : Int32) (117 : Int32) (101 : Int32) (115 : Int32) (116 : Int32) r11 hc11) (cwV 5 hts gX7_kindHere_X7_isFive rfl rfl rfl (by decide +kernel) ⟨Nat.le_of_ble_eq_true rfl, Nat.le_of_ble_eq_true rfl⟩) hG hS hAB hP [0, 1] rfl 0 7 rfl rfl rfl rfl hl.1 rfl (Nat.le_of_ble_eq_true rfl) dX7_kindHere_11 rfl ?_
  refine lv_if_eq (tgt := 19) hx hb dX7_kindHere_14 (by decide) (fun c_14 => ?_) (fun c_14 => ?_)
  · have hf := zp hf c_14
    refine lv_aload_n hx hb dX7_kindHere_19 rfl (lv_at hl 0 rfl) ?_
    refine lv_bipush (v := (110 : Int32)) hx hb dX7_kindHere_20 (by decide) ?_
    refine lv_bipush (v := (105 : Int32)) hx hb dX7_kindHere_22 (by decide) ?_
    refine lv_bipush (v := (101 : Int32)) hx hb dX7_kindHere_24 (by decide) ?_
    refine lv_bipush (v := (99 : Int32)) hx hb dX7_kindHere_26 (by decide) ?_
    refine lv_bipush (v := (101 : Int32)) hx hb dX7_kindHere_28 (by decide) ?_
    obtain ⟨r30, hc30, hf⟩ := zb hf
    refine zvr (o := some (.int r30)) (As := [.int (110 : Int32), .int (105 : Int32), .int (101 : Int32), .int (99 : Int32), .int (101 : Int32)]) (rest := []) (stk := [.int r30]) ⟨hx, hb, hml, hown, hts⟩ (mX7_isFive l D cy st sk sv B am am0 am1 am2 am3 am4 am5 am6 am7 am8 am9 am10 am11 am12 n M_isHeld M_taped M_token M_from M_to M_value M_isWrong M_rowN M_ran M_actKind M_actN M_actA M_isParted u_tape (110 : Int32) (105 : Int32) (101 : Int32) (99 : Int32) (101 : Int32) r30 hc30) (cwV 5 hts gX7_kindHere_X7_isFive rfl rfl rfl (by decide +kernel) ⟨Nat.le_of_ble_eq_true rfl, Nat.le_of_ble_eq_true rfl⟩) hG hS hAB hP [0, 1] rfl 0 7 rfl rfl rfl rfl hl.1 rfl (Nat.le_of_ble_eq_true rfl) dX7_kindHere_30 rfl ?_
    refine lv_if_eq (tgt := 38) hx hb dX7_kindHere_33 (by decide) (fun c_33 => ?_) (fun c_33 => ?_)
    · have hf := zp hf c_33
      refine lv_aload_n hx hb dX7_kindHere_38 rfl (lv_at hl 0 rfl) ?_
      refine lv_bipush (v := (7 : Int32)) hx hb dX7_kindHere_39 (by decide) ?_
      refine lv_bipush (v := (97 : Int32)) hx hb dX7_kindHere_41 (by decide) ?_
      refine lv_bipush (v := (99 : Int32)) hx hb dX7_kindHere_43 (by decide) ?_
      refine lv_bipush (v := (116 : Int32)) hx hb dX7_kindHere_45 (by decide) ?_
      refine lv_bipush (v := (121 : Int32)) hx hb dX7_kindHere_47 (by decide) ?_
      obtain ⟨r49, hc49, hf⟩ := zb hf
      refine zvr (o := some (.int r49)) (As := [.int (7 : Int32), .int (97 : Int32), .int (99 : Int32), .int (116 : Int32), .int (121 : Int32)]) (rest := []) (stk := [.int r49]) ⟨hx, hb, hml, hown, hts⟩ (mX7_isName l D cy st sk sv B am am0 am1 am2 am3 am4 am5 am6 am7 am8 am9 am10 am11 am12 n M_isHeld M_taped M_token M_from M_to M_value M_isWrong M_rowN M_ran M_actKind M_actN M_actA M_isParted u_tape (7 : Int32) (97 : Int32) (99 : Int32) (116 : Int32) (121 : Int32) r49 hc49) (cwV 5 hts gX7_kindHere_X7_isName rfl rfl rfl (by decide +kernel) ⟨Nat.le_of_ble_eq_true rfl, Nat.le_of_ble_eq_true rfl⟩) hG hS hAB hP [0, 1] rfl 0 7 rfl rfl rfl rfl hl.1 rfl (Nat.le_of_ble_eq_true rfl) dX7_kindHere_49 rfl ?_
      refine lv_if_eq (tgt := 71) hx hb dX7_kindHere_52 (by decide) (fun c_52 => ?_) (fun c_52 => ?_)
      · have hf := zp hf c_52
        exact hB71  hf _ (lv_sub hl [0] rfl)
      · have hf := zn hf c_52
        refine lv_aload_n hx hb dX7_kindHere_55 rfl (lv_at hl 0 rfl) ?_
        refine lv_iconst (v := (3 : Int32)) hx hb dX7_kindHere_56 (by decide) ?_
        refine lv_bipush (v := (117 : Int32)) hx hb dX7_kindHere_57 (by decide) ?_
        refine lv_bipush (v := (97 : Int32)) hx hb dX7_kindHere_59 (by decide) ?_
        refine lv_bipush (v := (114 : Int32)) hx hb dX7_kindHere_61 (by decide) ?_
        obtain ⟨r63, hc63, hf⟩ := zb hf
        refine zvr (o := some (.int r63)) (As := [.int (3 : Int32), .int (117 : Int32), .int (97 : Int32), .int (114 : Int32)]) (rest := []) (stk := [.int r63]) ⟨hx, hb, hml, hown, hts⟩ (mX7_isSame l D cy st sk sv B am am0 am1 am2 am3 am4 am5 am6 am7 am8 am9 am10 am11 am12 n M_isHeld M_taped M_token M_from M_to M_value M_isWrong M_rowN M_ran M_actKind M_actN M_actA M_isParted u_tape (3 : Int32) (117 : Int32) (97 : Int32) (114 : Int32) r63 hc63) (cwV 4 hts gX7_kindHere_X7_isSame rfl rfl rfl (by decide +kernel) ⟨Nat.le_of_ble_eq_true rfl, Nat.le_of_ble_eq_true rfl⟩) hG hS hAB hP [0, 1] rfl 0 7 rfl rfl rfl rfl hl.1 rfl (Nat.le_of_ble_eq_true rfl) dX7_kindHere_63 rfl ?_
        refine lv_if_eq (tgt := 71) hx hb dX7_kindHere_66 (by decide) (fun c_66 => ?_) (fun c_66 => ?_)
        · have hf := zp hf c_66
          exact hB71  hf _ (lv_sub hl [0] rfl)
        · have hf := zn hf c_66
          refine lv_iconst (v := (2 : Int32)) hx hb dX7_kindHere_69 (by decide) ?_
          cases hf
          exact W.iret hx hb hr (fun t ht hW => ⟨rfl, ht⟩) (fun q h => absurd h List.not_mem_nil) dX7_kindHere_70
    · have hf := zn hf c_33
      refine lv_iconst (v := (1 : Int32)) hx hb dX7_kindHere_36 (by decide) ?_
      cases hf
      exact W.iret hx hb hr (fun t ht hW => ⟨rfl, ht⟩) (fun q h => absurd h List.not_mem_nil) dX7_kindHere_37
  · have hf := zn hf c_14
    refine lv_iconst (v := (0 : Int32)) hx hb dX7_kindHere_17 (by decide) ?_
    cases hf
    exact W.iret hx hb hr (fun t ht hW => ⟨rfl, ht⟩) (fun q h => absurd h List.not_mem_nil) dX7_kindHere_18
set_option maxRecDepth 100000 in
set_option maxHeartbeats 100000000 in
theorem mX7_numberTo (l : Launch) (D : va_G) (cy : Nat → ClassId) (st sk sv : Nat → Nat) (B : Nat) (am : Nat) (am0 : Nat) (am1 : Nat) (am2 : Nat) (am3 : Nat) (am4 : Nat) (am5 : Nat) (am6 : Nat) (am7 : Nat) (am8 : Nat) (am9 : Nat) (am10 : Nat) (am11 : Nat) (am12 : Nat) (sz : Nat) (n : Nat) (M_isHeld : Int32) (M_taped : Int32) (M_token : Int32) (M_from : Int32) (M_to : Int32) (M_value : Int32) (M_isWrong : Int32) (M_rowN : Int32) (M_ran : Int32) (M_actKind : Int32) (M_actN : Int32) (M_actA : Int32) (M_isParted : Int32) (u_s : (Nat → Int32)) (u_tape : (Nat → Int32)) (x1 : Int32) (x2 : Int32) (z : MO × (Nat → Int32)) (hf : fX7_numberTo n (M_isHeld, M_taped, M_token, M_from, M_to, M_value, M_isWrong, M_rowN, M_ran, M_actKind, M_actN, M_actA, M_isParted) u_s u_tape x1 x2 = some z) : Met l yX7_numberTo wsX7_numberTo ({ frames := 3, cells := 0, slots := 0, locals := 63 }) (PcW [.ref am, .int x1, .int x2] D cy st sk sv B sz [(am, .inr (7, [.ref am0, .ref am1, .ref am2, .ref am3, .int M_isHeld, .ref am4, .int M_taped, .int M_token, .int M_from, .int M_to, .int M_value, .int M_isWrong, .ref am5, .int M_rowN, .ref am6, .ref am7, .ref am8, .ref am9, .ref am10, .ref am11, .ref am12, .int M_ran, .int M_actKind, .int M_actN, .int M_actA, .int M_isParted])), (am0, .inl (cy 0, 48, .inl u_s)), (am4, .inl (cy 0, 200, .inl u_tape))]) (Qw (none) D [(am, .inr (7, [.ref am0, .ref am1, .ref am2, .ref am3, .int z.1.1, .ref am4, .int z.1.2.1, .int z.1.2.2.1, .int z.1.2.2.2.1, .int z.1.2.2.2.2.1, .int z.1.2.2.2.2.2.1, .int z.1.2.2.2.2.2.2.1, .ref am5, .int z.1.2.2.2.2.2.2.2.1, .ref am6, .ref am7, .ref am8, .ref am9, .ref am10, .ref am11, .ref am12, .int z.1.2.2.2.2.2.2.2.2.1, .int z.1.2.2.2.2.2.2.2.2.2.1, .int z.1.2.2.2.2.2.2.2.2.2.2.1, .int z.1.2.2.2.2.2.2.2.2.2.2.2.1, .int z.1.2.2.2.2.2.2.2.2.2.2.2.2])), (am0, .inl (cy 0, 48, .inl z.2)), (am4, .inl (cy 0, 200, .inl u_tape))] (va_A [(am, .inr (7, [.ref am0, .ref am1, .ref am2, .ref am3, .int M_isHeld, .ref am4, .int M_taped, .int M_token, .int M_from, .int M_to, .int M_value, .int M_isWrong, .ref am5, .int M_rowN, .ref am6, .ref am7, .ref am8, .ref am9, .ref am10, .ref am11, .ref am12, .int M_ran, .int M_actKind, .int M_actN, .int M_actA, .int M_isParted])), (am0, .inl (cy 0, 48, .inl u_s)), (am4, .inl (cy 0, 200, .inl u_tape))] sz)) 0 0 (va_A [(am, .inr (7, [.ref am0, .ref am1, .ref am2, .ref am3, .int M_isHeld, .ref am4, .int M_taped, .int M_token, .int M_from, .int M_to, .int M_value, .int M_isWrong, .ref am5, .int M_rowN, .ref am6, .ref am7, .ref am8, .ref am9, .ref am10, .ref am11, .ref am12, .int M_ran, .int M_actKind, .int M_actN, .int M_actA, .int M_isParted])), (am0, .inl (cy 0, 48, .inl u_s)), (am4, .inl (cy 0, 200, .inl u_tape))] sz) := by
  refine Met.ofW (cc := cX7_numberTo) (maxL := 4) (ret := none) (by decide) rfl ?_
  intro p e s m args below meth c s₁ Bd hml hv
  obtain ⟨rfl, hsz, hP, hD0, hBs, hG⟩ := hv
  have hx := Bd.exec
  have hb := Bd.bytes
  have hr := Bd.returns
  have hts := atoms_spec (ws := wsX7_numberTo) Bd.pre
  have hown : s.vm.findClass RX7 = some m.cls := findClass_of_methodNamed Bd.named
  have hlocks := Bd.notSynchronized
  have hK := hG.1
  subst hsz
  have hD := hD0.self (sz := s.heap.size)
  have hAB0 := zA hD0 hBs
  generalize hAe : va_A [(am, .inr (7, [.ref am0, .ref am1, .ref am2, .ref am3, .int M_isHeld, .ref am4, .int M_taped, .int M_token, .int M_from, .int M_to, .int M_value, .int M_isWrong, .ref am5, .int M_rowN, .ref am6, .ref am7, .ref am8, .ref am9, .ref am10, .ref am11, .ref am12, .int M_ran, .int M_actKind, .int M_actN, .int M_actA, .int M_isParted])), (am0, .inl (cy 0, 48, .inl u_s)), (am4, .inl (cy 0, 200, .inl u_tape))] s.heap.size = A at hD hAB0 ⊢
  have hA : ∀ q : Nat, s.heap.size ≤ q → A q := fun q h => by rw [← hAe]; exact Or.inr h
  have hAB : ∀ q, A q → B ≤ q := hAB0
  have hS : va_S A s.heap s.heap [] := va_S.rf
  have hfin : ∀ (M_isHeld : Int32) (M_taped : Int32) (M_token : Int32) (M_from : Int32) (M_to : Int32) (M_value : Int32) (M_isWrong : Int32) (M_rowN : Int32) (M_ran : Int32) (M_actKind : Int32) (M_actN : Int32) (M_actA : Int32) (M_isParted : Int32) (u_s : (Nat → Int32)), some ((M_isHeld, M_taped, M_token, M_from, M_to, M_value, M_isWrong, M_rowN, M_ran, M_actKind, M_actN, M_actA, M_isParted), u_s) = some z → ∀ (H : Heap) (t : State), t.heap = H → va_P D vwCl [(am, .inr (7, [.ref am0, .ref am1, .ref am2, .ref am3, .int M_isHeld, .ref am4, .int M_taped, .int M_token, .int M_from, .int M_to, .int M_value, .int M_isWrong, .ref am5, .int M_rowN, .ref am6, .ref am7, .ref am8, .ref am9, .ref am10, .ref am11, .ref am12, .int M_ran, .int M_actKind, .int M_actN, .int M_actA, .int M_isParted])), (am0, .inl (cy 0, 48, .inl u_s)), (am4, .inl (cy 0, 200, .inl u_tape))] H → va_F A s t → Qw (none) D [(am, .inr (7, [.ref am0, .ref am1, .ref am2, .ref am3, .int z.1.1, .ref am4, .int z.1.2.1, .int z.1.2.2.1, .int z.1.2.2.2.1, .int z.1.2.2.2.2.1, .int z.1.2.2.2.2.2.1, .int z.1.2.2.2.2.2.2.1, .ref am5, .int z.1.2.2.2.2.2.2.2.1, .ref am6, .ref am7, .ref am8, .ref am9, .ref am10, .ref am11, .ref am12, .int z.1.2.2.2.2.2.2.2.2.1, .int z.1.2.2.2.2.2.2.2.2.2.1, .int z.1.2.2.2.2.2.2.2.2.2.2.1, .int z.1.2.2.2.2.2.2.2.2.2.2.2.1, .int z.1.2.2.2.2.2.2.2.2.2.2.2.2])), (am0, .inl (cy 0, 48, .inl z.2)), (am4, .inl (cy 0, 200, .inl u_tape))] A ([.ref am, .int x1, .int x2] : List Value).toArray s (.returned (none)) t := by
    intro M_isHeld M_taped M_token M_from M_to M_value M_isWrong M_rowN M_ran M_actKind M_actN M_actA M_isParted u_s h9 H t ht hP hF
    cases h9
    exact ⟨rfl, by rw [ht]; exact hP, hF⟩
  have hin7 : ∀ w ∈ u_ws RX7 TX7 26, w ∈ wsX7_numberTo := by decide +kernel
  have fl7 := hts (.fieldLink RX7 7 "KinCutleryModel" "s" "[I") (by decide +kernel)
  have fl64 := hts (.fieldLink RX7 64 "KinCutleryModel" "to" "I") (by decide +kernel)
  have fl67 := hts (.fieldLink RX7 67 "KinCutleryModel" "from" "I") (by decide +kernel)
  have fl81 := hts (.fieldLink RX7 81 "KinCutleryModel" "token" "I") (by decide +kernel)
  have fl84 := hts (.fieldLink RX7 84 "KinCutleryModel" "value" "I") (by decide +kernel)
  have fl87 := hts (.fieldLink RX7 87 "KinCutleryModel" "isWrong" "Z") (by decide +kernel)
  have hB56 : ∀ (M_isHeld : Int32) (M_taped : Int32) (M_token : Int32) (M_from : Int32) (M_to : Int32) (M_value : Int32) (M_isWrong : Int32) (M_rowN : Int32) (M_ran : Int32) (M_actKind : Int32) (M_actN : Int32) (M_actA : Int32) (M_isParted : Int32) (u_s : (Nat → Int32)) (y3 : Int32), fX7_numberTo_b56 n u_tape x1 x2  (M_isHeld, M_taped, M_token, M_from, M_to, M_value, M_isWrong, M_rowN, M_ran, M_actKind, M_actN, M_actA, M_isParted) u_s y3 = some z → ∀ (H : Heap) (locs : List Loc), va_P D vwCl [(am, .inr (7, [.ref am0, .ref am1, .ref am2, .ref am3, .int M_isHeld, .ref am4, .int M_taped, .int M_token, .int M_from, .int M_to, .int M_value, .int M_isWrong, .ref am5, .int M_rowN, .ref am6, .ref am7, .ref am8, .ref am9, .ref am10, .ref am11, .ref am12, .int M_ran, .int M_actKind, .int M_actN, .int M_actA, .int M_isParted])), (am0, .inl (cy 0, 48, .inl u_s)), (am4, .inl (cy 0, 200, .inl u_tape))] H → va_D A [(am, .inr (7, [.ref am0, .ref am1, .ref am2, .ref am3, .int M_isHeld, .ref am4, .int M_taped, .int M_token, .int M_from, .int M_to, .int M_value, .int M_isWrong, .ref am5, .int M_rowN, .ref am6, .ref am7, .ref am8, .ref am9, .ref am10, .ref am11, .ref am12, .int M_ran, .int M_actKind, .int M_actN, .int M_actA, .int M_isParted])), (am0, .inl (cy 0, 48, .inl u_s)), (am4, .inl (cy 0, 200, .inl u_tape))] → va_S A s.heap H locs → ∀ (ls : Array Slot), lv_has ls 4 [(0, .ref am), (1, .int x1), (2, .int x2), (3, .int y3)] → W p l e (headSpec wsX7_numberTo ({ frames := 3, cells := 0, slots := 0, locals := 63 })).room s m ([.ref am, .int x1, .int x2] : List Value).toArray below meth c H locs 0 0 (MQ below (Qw (none) D [(am, .inr (7, [.ref am0, .ref am1, .ref am2, .ref am3, .int z.1.1, .ref am4, .int z.1.2.1, .int z.1.2.2.1, .int z.1.2.2.2.1, .int z.1.2.2.2.2.1, .int z.1.2.2.2.2.2.1, .int z.1.2.2.2.2.2.2.1, .ref am5, .int z.1.2.2.2.2.2.2.2.1, .ref am6, .ref am7, .ref am8, .ref am9, .ref am10, .ref am11, .ref am12, .int z.1.2.2.2.2.2.2.2.2.1, .int z.1.2.2.2.2.2.2.2.2.2.1, .int z.1.2.2.2.2.2.2.2.2.2.2.1, .int z.1.2.2.2.2.2.2.2.2.2.2.2.1, .int z.1.2.2.2.2.2.2.2.2.2.2.2.2])), (am0, .inl (cy 0, 48, .inl z.2)), (am4, .inl (cy 0, 200, .inl u_tape))] A) ([.ref am, .int x1, .int x2] : List Value).toArray s 0 0 A) (F0 m 56 ls []) := by
    intro M_isHeld M_taped M_token M_from M_to M_value M_isWrong M_rowN M_ran M_actKind M_actN M_actA M_isParted u_s y3 hf H locs hP hD hS ls hl
    have hf : ((fX7_needs n (M_isHeld, M_taped, M_token, M_from, M_to, M_value, M_isWrong, M_rowN, M_ran, M_actKind, M_actN, M_actA, M_isParted) u_tape y3).bind fun r58 => some (r58, u_s)) = some z := hf
    refine lv_aload_n hx hb dX7_numberTo_56 rfl (lv_at hl 0 rfl) ?_
    refine lv_iload_n hx hb dX7_numberTo_57 rfl (lv_at hl 3 rfl) ?_
    obtain ⟨r58, hc58, hf⟩ := zb hf
    refine zvw (o := none) (As := [.int y3]) (rest := []) (stk := []) ⟨hx, hb, hml, hown, hts⟩ (mX7_needs l D cy st sk sv B am am0 am1 am2 am3 am4 am5 am6 am7 am8 am9 am10 am11 am12 _ n M_isHeld M_taped M_token M_from M_to M_value M_isWrong M_rowN M_ran M_actKind M_actN M_actA M_isParted u_tape y3 r58 hc58) (cwV 1 hts gX7_numberTo_X7_needs rfl rfl rfl (by decide +kernel) ⟨Nat.le_of_ble_eq_true rfl, Nat.le_of_ble_eq_true rfl⟩) hG hS hAB hA hP hD [0, 2] (by decide) rfl rfl rfl rfl 0 7 rfl rfl rfl rfl hl.1 rfl (Nat.le_of_ble_eq_true rfl) dX7_numberTo_58 rfl (fun H locs hP hD hS => ?_)
    have hP : va_P D vwCl [(am, .inr (7, [.ref am0, .ref am1, .ref am2, .ref am3, .int r58.1, .ref am4, .int r58.2.1, .int r58.2.2.1, .int r58.2.2.2.1, .int r58.2.2.2.2.1, .int r58.2.2.2.2.2.1, .int r58.2.2.2.2.2.2.1, .ref am5, .int r58.2.2.2.2.2.2.2.1, .ref am6, .ref am7, .ref am8, .ref am9, .ref am10, .ref am11, .ref am12, .int r58.2.2.2.2.2.2.2.2.1, .int r58.2.2.2.2.2.2.2.2.2.1, .int r58.2.2.2.2.2.2.2.2.2.2.1, .int r58.2.2.2.2.2.2.2.2.2.2.2.1, .int r58.2.2.2.2.2.2.2.2.2.2.2.2])), (am0, .inl (cy 0, 48, .inl u_s)), (am4, .inl (cy 0, 200, .inl u_tape))] H := hP
    have hD : va_D A [(am, .inr (7, [.ref am0, .ref am1, .ref am2, .ref am3, .int r58.1, .ref am4, .int r58.2.1, .int r58.2.2.1, .int r58.2.2.2.1, .int r58.2.2.2.2.1, .int r58.2.2.2.2.2.1, .int r58.2.2.2.2.2.2.1, .ref am5, .int r58.2.2.2.2.2.2.2.1, .ref am6, .ref am7, .ref am8, .ref am9, .ref am10, .ref am11, .ref am12, .int r58.2.2.2.2.2.2.2.2.1, .int r58.2.2.2.2.2.2.2.2.2.1, .int r58.2.2.2.2.2.2.2.2.2.2.1, .int r58.2.2.2.2.2.2.2.2.2.2.2.1, .int r58.2.2.2.2.2.2.2.2.2.2.2.2])), (am0, .inl (cy 0, 48, .inl u_s)), (am4, .inl (cy 0, 200, .inl u_tape))] := hD
    exact W.vret hx hb hr (fun t ht hW => hfin r58.1 r58.2.1 r58.2.2.1 r58.2.2.2.1 r58.2.2.2.2.1 r58.2.2.2.2.2.1 r58.2.2.2.2.2.2.1 r58.2.2.2.2.2.2.2.1 r58.2.2.2.2.2.2.2.2.1 r58.2.2.2.2.2.2.2.2.2.1 r58.2.2.2.2.2.2.2.2.2.2.1 r58.2.2.2.2.2.2.2.2.2.2.2.1 r58.2.2.2.2.2.2.2.2.2.2.2.2 u_s hf _ t ht hP (hS.F ht)) hS.2.2 dX7_numberTo_61
  have hB34 : ∀ (M_isHeld : Int32) (M_taped : Int32) (M_token : Int32) (M_from : Int32) (M_to : Int32) (M_value : Int32) (M_isWrong : Int32) (M_rowN : Int32) (M_ran : Int32) (M_actKind : Int32) (M_actN : Int32) (M_actA : Int32) (M_isParted : Int32) (u_s : (Nat → Int32)) (w0 : Int32), fX7_numberTo_b34 n u_tape x1 x2  (M_isHeld, M_taped, M_token, M_from, M_to, M_value, M_isWrong, M_rowN, M_ran, M_actKind, M_actN, M_actA, M_isParted) u_s w0 = some z → ∀ (H : Heap) (locs : List Loc), va_P D vwCl [(am, .inr (7, [.ref am0, .ref am1, .ref am2, .ref am3, .int M_isHeld, .ref am4, .int M_taped, .int M_token, .int M_from, .int M_to, .int M_value, .int M_isWrong, .ref am5, .int M_rowN, .ref am6, .ref am7, .ref am8, .ref am9, .ref am10, .ref am11, .ref am12, .int M_ran, .int M_actKind, .int M_actN, .int M_actA, .int M_isParted])), (am0, .inl (cy 0, 48, .inl u_s)), (am4, .inl (cy 0, 200, .inl u_tape))] H → va_D A [(am, .inr (7, [.ref am0, .ref am1, .ref am2, .ref am3, .int M_isHeld, .ref am4, .int M_taped, .int M_token, .int M_from, .int M_to, .int M_value, .int M_isWrong, .ref am5, .int M_rowN, .ref am6, .ref am7, .ref am8, .ref am9, .ref am10, .ref am11, .ref am12, .int M_ran, .int M_actKind, .int M_actN, .int M_actA, .int M_isParted])), (am0, .inl (cy 0, 48, .inl u_s)), (am4, .inl (cy 0, 200, .inl u_tape))] → va_S A s.heap H locs → ∀ (ls : Array Slot), lv_has ls 4 [(0, .ref am), (1, .int x1), (2, .int x2)] → W p l e (headSpec wsX7_numberTo ({ frames := 3, cells := 0, slots := 0, locals := 63 })).room s m ([.ref am, .int x1, .int x2] : List Value).toArray below meth c H locs 0 0 (MQ below (Qw (none) D [(am, .inr (7, [.ref am0, .ref am1, .ref am2, .ref am3, .int z.1.1, .ref am4, .int z.1.2.1, .int z.1.2.2.1, .int z.1.2.2.2.1, .int z.1.2.2.2.2.1, .int z.1.2.2.2.2.2.1, .int z.1.2.2.2.2.2.2.1, .ref am5, .int z.1.2.2.2.2.2.2.2.1, .ref am6, .ref am7, .ref am8, .ref am9, .ref am10, .ref am11, .ref am12, .int z.1.2.2.2.2.2.2.2.2.1, .int z.1.2.2.2.2.2.2.2.2.2.1, .int z.1.2.2.2.2.2.2.2.2.2.2.1, .int z.1.2.2.2.2.2.2.2.2.2.2.2.1, .int z.1.2.2.2.2.2.2.2.2.2.2.2.2])), (am0, .inl (cy 0, 48, .inl z.2)), (am4, .inl (cy 0, 200, .inl u_tape))] A) ([.ref am, .int x1, .int x2] : List Value).toArray s 0 0 A) (F0 m 34 ls [.int w0]) := by
    intro M_isHeld M_taped M_token M_from M_to M_value M_isWrong M_rowN M_ran M_actKind M_actN M_actA M_isParted u_s w0 hf H locs hP hD hS ls hl
    have hf : (if w0 = 0 then (fX7_numberTo_b56 n u_tape x1 x2  (M_isHeld, M_taped, M_token, M_from, M_to, M_value, M_isWrong, M_rowN, M_ran, M_actKind, M_actN, M_actA, M_isParted) u_s w0) else (if M_isWrong = 0 then (if x1 < 0 ∨ 48 ≤ x1.toNatClampNeg then none else fX7_numberTo_b56 n u_tape x1 x2  (M_isHeld, M_taped, M_token, M_from, M_to, M_value, M_isWrong, M_rowN, M_ran, M_actKind, M_actN, M_actA, M_isParted) (upd u_s x1.toNatClampNeg M_value) w0) else (fX7_numberTo_b56 n u_tape x1 x2  (M_isHeld, M_taped, M_token, M_from, M_to, M_value, M_isWrong, M_rowN, M_ran, M_actKind, M_actN, M_actA, M_isParted) u_s w0))) = some z := hf
    refine lv_istore_n (lv' := [(3, .int w0), (0, .ref am), (1, .int x1), (2, .int x2)]) hx hb dX7_numberTo_34 rfl hl (by decide) rfl (fun ls hl => ?_)
    refine lv_iload_n hx hb dX7_numberTo_35 rfl (lv_at hl 0 rfl) ?_
    refine lv_if_eq (tgt := 56) hx hb dX7_numberTo_36 (by decide) (fun c_36 => ?_) (fun c_36 => ?_)
    · have hf := zp hf c_36
      exact hB56 M_isHeld M_taped M_token M_from M_to M_value M_isWrong M_rowN M_ran M_actKind M_actN M_actA M_isParted u_s w0 hf _ _ hP hD hS _ (lv_sub hl [1, 2, 3, 0] rfl)
    · have hf := zn hf c_36
      refine lv_aload_n hx hb dX7_numberTo_39 rfl (lv_at hl 1 rfl) ?_
      refine va_get (D := D) (ci := 7) (v := .int M_isWrong) (C := RX7) (T := TX7) (N := 26) hx hb hts hin7 hown hK hP 0 rfl rfl 11 (by decide) fl87 (fun _ h9 => h9) rfl dX7_numberTo_40 ?_
      refine lv_if_ne (tgt := 56) hx hb dX7_numberTo_43 (by decide) (fun c_43 => ?_) (fun c_43 => ?_)
      · have hf := zn hf c_43
        exact hB56 M_isHeld M_taped M_token M_from M_to M_value M_isWrong M_rowN M_ran M_actKind M_actN M_actA M_isParted u_s w0 hf _ _ hP hD hS _ (lv_sub hl [1, 2, 3, 0] rfl)
      · have hf := zp hf c_43
        refine lv_aload_n hx hb dX7_numberTo_46 rfl (lv_at hl 1 rfl) ?_
        refine va_get (D := D) (ci := 7) (v := .ref am0) (C := RX7) (T := TX7) (N := 26) hx hb hts hin7 hown hK hP 0 rfl rfl 0 (by decide) fl7 (fun _ h9 => h9) rfl dX7_numberTo_47 ?_
        refine lv_iload_n hx hb dX7_numberTo_50 rfl (lv_at hl 2 rfl) ?_
        refine lv_aload_n hx hb dX7_numberTo_51 rfl (lv_at hl 1 rfl) ?_
        refine va_get (D := D) (ci := 7) (v := .int M_value) (C := RX7) (T := TX7) (N := 26) hx hb hts hin7 hown hK hP 0 rfl rfl 10 (by decide) fl84 (fun _ h9 => h9) rfl dX7_numberTo_52 ?_
        obtain ⟨h_55, hf⟩ := zg hf
        refine va_iast hx hb hK hP hD hS 1 0 rfl rfl h_55 dX7_numberTo_55 (fun H locs hP hD hS => ?_)
        have hP : va_P D vwCl [(am, .inr (7, [.ref am0, .ref am1, .ref am2, .ref am3, .int M_isHeld, .ref am4, .int M_taped, .int M_token, .int M_from, .int M_to, .int M_value, .int M_isWrong, .ref am5, .int M_rowN, .ref am6, .ref am7, .ref am8, .ref am9, .ref am10, .ref am11, .ref am12, .int M_ran, .int M_actKind, .int M_actN, .int M_actA, .int M_isParted])), (am0, .inl (cy 0, 48, .inl (upd u_s x1.toNatClampNeg M_value))), (am4, .inl (cy 0, 200, .inl u_tape))] H := hP
        have hD : va_D A [(am, .inr (7, [.ref am0, .ref am1, .ref am2, .ref am3, .int M_isHeld, .ref am4, .int M_taped, .int M_token, .int M_from, .int M_to, .int M_value, .int M_isWrong, .ref am5, .int M_rowN, .ref am6, .ref am7, .ref am8, .ref am9, .ref am10, .ref am11, .ref am12, .int M_ran, .int M_actKind, .int M_actN, .int M_actA, .int M_isParted])), (am0, .inl (cy 0, 48, .inl (upd u_s x1.toNatClampNeg M_value))), (am4, .inl (cy 0, 200, .inl u_tape))] := hD
        exact hB56 M_isHeld M_taped M_token M_from M_to M_value M_isWrong M_rowN M_ran M_actKind M_actN M_actA M_isParted (upd u_s x1.toNatClampNeg M_value) w0 hf _ _ hP hD hS _ (lv_sub hl [1, 2, 3, 0] rfl)
  have hB33 : ∀ (M_isHeld : Int32) (M_taped : Int32) (M_token : Int32) (M_from : Int32) (M_to : Int32) (M_value : Int32) (M_isWrong : Int32) (M_rowN : Int32) (M_ran : Int32) (M_actKind : Int32) (M_actN : Int32) (M_actA : Int32) (M_isParted : Int32) (u_s : (Nat → Int32)), fX7_numberTo_b33 n u_tape x1 x2  (M_isHeld, M_taped, M_token, M_from, M_to, M_value, M_isWrong, M_rowN, M_ran, M_actKind, M_actN, M_actA, M_isParted) u_s = some z → ∀ (H : Heap) (locs : List Loc), va_P D vwCl [(am, .inr (7, [.ref am0, .ref am1, .ref am2, .ref am3, .int M_isHeld, .ref am4, .int M_taped, .int M_token, .int M_from, .int M_to, .int M_value, .int M_isWrong, .ref am5, .int M_rowN, .ref am6, .ref am7, .ref am8, .ref am9, .ref am10, .ref am11, .ref am12, .int M_ran, .int M_actKind, .int M_actN, .int M_actA, .int M_isParted])), (am0, .inl (cy 0, 48, .inl u_s)), (am4, .inl (cy 0, 200, .inl u_tape))] H → va_D A [(am, .inr (7, [.ref am0, .ref am1, .ref am2, .ref am3, .int M_isHeld, .ref am4, .int M_taped, .int M_token, .int M_from, .int M_to, .int M_value, .int M_isWrong, .ref am5, .int M_rowN, .ref am6, .ref am7, .ref am8, .ref am9, .ref am10, .ref am11, .ref am12, .int M_ran, .int M_actKind, .int M_actN, .int M_actA, .int M_isParted])), (am0, .inl (cy 0, 48, .inl u_s)), (am4, .inl (cy 0, 200, .inl u_tape))] → va_S A s.heap H locs → ∀ (ls : Array Slot), lv_has ls 4 [(0, .ref am), (1, .int x1), (2, .int x2)] → W p l e (headSpec wsX7_numberTo ({ frames := 3, cells := 0, slots := 0, locals := 63 })).room s m ([.ref am, .int x1, .int x2] : List Value).toArray below meth c H locs 0 0 (MQ below (Qw (none) D [(am, .inr (7, [.ref am0, .ref am1, .ref am2, .ref am3, .int z.1.1, .ref am4, .int z.1.2.1, .int z.1.2.2.1, .int z.1.2.2.2.1, .int z.1.2.2.2.2.1, .int z.1.2.2.2.2.2.1, .int z.1.2.2.2.2.2.2.1, .ref am5, .int z.1.2.2.2.2.2.2.2.1, .ref am6, .ref am7, .ref am8, .ref am9, .ref am10, .ref am11, .ref am12, .int z.1.2.2.2.2.2.2.2.2.1, .int z.1.2.2.2.2.2.2.2.2.2.1, .int z.1.2.2.2.2.2.2.2.2.2.2.1, .int z.1.2.2.2.2.2.2.2.2.2.2.2.1, .int z.1.2.2.2.2.2.2.2.2.2.2.2.2])), (am0, .inl (cy 0, 48, .inl z.2)), (am4, .inl (cy 0, 200, .inl u_tape))] A) ([.ref am, .int x1, .int x2] : List Value).toArray s 0 0 A) (F0 m 33 ls []) := by
    intro M_isHeld M_taped M_token M_from M_to M_value M_isWrong M_rowN M_ran M_actKind M_actN M_actA M_isParted u_s hf H locs hP hD hS ls hl
    have hf : (fX7_numberTo_b34 n u_tape x1 x2  (M_isHeld, M_taped, M_token, M_from, M_to, M_value, M_isWrong, M_rowN, M_ran, M_actKind, M_actN, M_actA, M_isParted) u_s (0 : Int32)) = some z := hf
    refine lv_iconst (v := (0 : Int32)) hx hb dX7_numberTo_33 (by decide) ?_
    exact hB34 M_isHeld M_taped M_token M_from M_to M_value M_isWrong M_rowN M_ran M_actKind M_actN M_actA M_isParted u_s (0 : Int32) hf _ _ hP hD hS _ (lv_sub hl [0, 1, 2] rfl)
  have hl := lv_entry ([.ref am, .int x1, .int x2]) (n := 4) (Nat.le_of_ble_eq_true rfl)
  rw [lg_entry_eq]
  generalize (lg_sl ([.ref am, .int x1, .int x2]) ++ List.replicate (4 - (lg_sl ([.ref am, .int x1, .int x2])).length) Slot.unset).toArray = ls at hl ⊢
  have hl : lv_has ls 4 [(0, .ref am), (1, .int x1), (2, .int x2)] := hl
  have hf : (if M_token = (2 : Int32) then (if (3 : Int32) < (M_to - M_from) then (fX7_numberTo_b33 n u_tape x1 x2  (M_isHeld, M_taped, M_token, M_from, M_to, M_value, M_isWrong, M_rowN, M_ran, M_actKind, M_actN, M_actA, M_isParted) u_s) else (if x2 < M_value then (fX7_numberTo_b33 n u_tape x1 x2  (M_isHeld, M_taped, M_token, M_from, M_to, M_value, M_isWrong, M_rowN, M_ran, M_actKind, M_actN, M_actA, M_isParted) u_s) else (fX7_numberTo_b34 n u_tape x1 x2  (M_isHeld, M_taped, M_token, M_from, M_to, M_value, M_isWrong, M_rowN, M_ran, M_actKind, M_actN, M_actA, M_isParted) u_s (1 : Int32)))) else (fX7_numberTo_b33 n u_tape x1 x2  (M_isHeld, M_taped, M_token, M_from, M_to, M_value, M_isWrong, M_rowN, M_ran, M_actKind, M_actN, M_actA, M_isParted) u_s)) = some z := hf
  refine lv_aload_n hx hb dX7_numberTo_0 rfl (lv_at hl 0 rfl) ?_
  refine va_get (D := D) (ci := 7) (v := .int M_token) (C := RX7) (T := TX7) (N := 26) hx hb hts hin7 hown hK hP 0 rfl rfl 7 (by decide) fl81 (fun _ h9 => h9) rfl dX7_numberTo_1 ?_
  refine lv_iconst (v := (2 : Int32)) hx hb dX7_numberTo_4 (by decide) ?_
  refine lv_icmp_ne (tgt := 33) hx hb dX7_numberTo_5 (by decide) (fun c_5 => ?_) (fun c_5 => ?_)
  · have hf := zn hf c_5
    exact hB33 M_isHeld M_taped M_token M_from M_to M_value M_isWrong M_rowN M_ran M_actKind M_actN M_actA M_isParted u_s hf _ _ hP hD hS _ (lv_sub hl [0, 1, 2] rfl)
  · have hf := zp hf c_5
    refine lv_aload_n hx hb dX7_numberTo_8 rfl (lv_at hl 0 rfl) ?_
    refine va_get (D := D) (ci := 7) (v := .int M_to) (C := RX7) (T := TX7) (N := 26) hx hb hts hin7 hown hK hP 0 rfl rfl 9 (by decide) fl64 (fun _ h9 => h9) rfl dX7_numberTo_9 ?_
    refine lv_aload_n hx hb dX7_numberTo_12 rfl (lv_at hl 0 rfl) ?_
    refine va_get (D := D) (ci := 7) (v := .int M_from) (C := RX7) (T := TX7) (N := 26) hx hb hts hin7 hown hK hP 0 rfl rfl 8 (by decide) fl67 (fun _ h9 => h9) rfl dX7_numberTo_13 ?_
    refine lv_isub hx hb dX7_numberTo_16 ?_
    refine lv_iconst (v := (3 : Int32)) hx hb dX7_numberTo_17 (by decide) ?_
    refine lv_icmp_gt (tgt := 33) hx hb dX7_numberTo_18 (by decide) (fun c_18 => ?_) (fun c_18 => ?_)
    · have hf := zp hf c_18
      exact hB33 M_isHeld M_taped M_token M_from M_to M_value M_isWrong M_rowN M_ran M_actKind M_actN M_actA M_isParted u_s hf _ _ hP hD hS _ (lv_sub hl [0, 1, 2] rfl)
    · have hf := zn hf c_18
      refine lv_aload_n hx hb dX7_numberTo_21 rfl (lv_at hl 0 rfl) ?_
      refine va_get (D := D) (ci := 7) (v := .int M_value) (C := RX7) (T := TX7) (N := 26) hx hb hts hin7 hown hK hP 0 rfl rfl 10 (by decide) fl84 (fun _ h9 => h9) rfl dX7_numberTo_22 ?_
      refine lv_iload_n hx hb dX7_numberTo_25 rfl (lv_at hl 2 rfl) ?_
      refine lv_icmp_gt (tgt := 33) hx hb dX7_numberTo_26 (by decide) (fun c_26 => ?_) (fun c_26 => ?_)
      · have hf := zp hf c_26
        exact hB33 M_isHeld M_taped M_token M_from M_to M_value M_isWrong M_rowN M_ran M_actKind M_actN M_actA M_isParted u_s hf _ _ hP hD hS _ (lv_sub hl [0, 1, 2] rfl)
      · have hf := zn hf c_26
        refine lv_iconst (v := (1 : Int32)) hx hb dX7_numberTo_29 (by decide) ?_
        refine lv_goto (tgt := 34) hx hb dX7_numberTo_30 (by decide) ?_
        exact hB34 M_isHeld M_taped M_token M_from M_to M_value M_isWrong M_rowN M_ran M_actKind M_actN M_actA M_isParted u_s (1 : Int32) hf _ _ hP hD hS _ (lv_sub hl [0, 1, 2] rfl)
set_option maxRecDepth 100000 in
set_option maxHeartbeats 100000000 in
theorem mX7_comes (l : Launch) (D : va_G) (cy : Nat → ClassId) (st sk sv : Nat → Nat) (B : Nat) (am : Nat) (am0 : Nat) (am1 : Nat) (am2 : Nat) (am3 : Nat) (am4 : Nat) (am5 : Nat) (am6 : Nat) (am7 : Nat) (am8 : Nat) (am9 : Nat) (am10 : Nat) (am11 : Nat) (am12 : Nat) (sz : Nat) (n : Nat) (M_isHeld : Int32) (M_taped : Int32) (M_token : Int32) (M_from : Int32) (M_to : Int32) (M_value : Int32) (M_isWrong : Int32) (M_rowN : Int32) (M_ran : Int32) (M_actKind : Int32) (M_actN : Int32) (M_actA : Int32) (M_isParted : Int32) (u_s : (Nat → Int32)) (x1 : Int32) (x2 : Int32) (z : (Nat → Int32)) (hf : fX7_comes n (M_isHeld, M_taped, M_token, M_from, M_to, M_value, M_isWrong, M_rowN, M_ran, M_actKind, M_actN, M_actA, M_isParted) u_s x1 x2 = some z) : Met l yX7_comes wsX7_comes ({ frames := 0, cells := 0, slots := 0, locals := 0 }) (PcW [.ref am, .int x1, .int x2] D cy st sk sv B sz [(am, .inr (7, [.ref am0, .ref am1, .ref am2, .ref am3, .int M_isHeld, .ref am4, .int M_taped, .int M_token, .int M_from, .int M_to, .int M_value, .int M_isWrong, .ref am5, .int M_rowN, .ref am6, .ref am7, .ref am8, .ref am9, .ref am10, .ref am11, .ref am12, .int M_ran, .int M_actKind, .int M_actN, .int M_actA, .int M_isParted])), (am0, .inl (cy 0, 48, .inl u_s))]) (Qw (none) D [(am, .inr (7, [.ref am0, .ref am1, .ref am2, .ref am3, .int M_isHeld, .ref am4, .int M_taped, .int M_token, .int M_from, .int M_to, .int M_value, .int M_isWrong, .ref am5, .int M_rowN, .ref am6, .ref am7, .ref am8, .ref am9, .ref am10, .ref am11, .ref am12, .int M_ran, .int M_actKind, .int M_actN, .int M_actA, .int M_isParted])), (am0, .inl (cy 0, 48, .inl z))] (va_A [(am, .inr (7, [.ref am0, .ref am1, .ref am2, .ref am3, .int M_isHeld, .ref am4, .int M_taped, .int M_token, .int M_from, .int M_to, .int M_value, .int M_isWrong, .ref am5, .int M_rowN, .ref am6, .ref am7, .ref am8, .ref am9, .ref am10, .ref am11, .ref am12, .int M_ran, .int M_actKind, .int M_actN, .int M_actA, .int M_isParted])), (am0, .inl (cy 0, 48, .inl u_s))] sz)) 0 0 (va_A [(am, .inr (7, [.ref am0, .ref am1, .ref am2, .ref am3, .int M_isHeld, .ref am4, .int M_taped, .int M_token, .int M_from, .int M_to, .int M_value, .int M_isWrong, .ref am5, .int M_rowN, .ref am6, .ref am7, .ref am8, .ref am9, .ref am10, .ref am11, .ref am12, .int M_ran, .int M_actKind, .int M_actN, .int M_actA, .int M_isParted])), (am0, .inl (cy 0, 48, .inl u_s))] sz) := by
  refine Met.ofW (cc := cX7_comes) (maxL := 4) (ret := none) (by decide) rfl ?_
  intro p e s m args below meth c s₁ Bd hml hv
  obtain ⟨rfl, hsz, hP, hD0, hBs, hG⟩ := hv
  have hx := Bd.exec
  have hb := Bd.bytes
  have hr := Bd.returns
  have hts := atoms_spec (ws := wsX7_comes) Bd.pre
  have hown : s.vm.findClass RX7 = some m.cls := findClass_of_methodNamed Bd.named
  have hlocks := Bd.notSynchronized
  have hK := hG.1
  subst hsz
  have hD := hD0.self (sz := s.heap.size)
  have hAB0 := zA hD0 hBs
  generalize hAe : va_A [(am, .inr (7, [.ref am0, .ref am1, .ref am2, .ref am3, .int M_isHeld, .ref am4, .int M_taped, .int M_token, .int M_from, .int M_to, .int M_value, .int M_isWrong, .ref am5, .int M_rowN, .ref am6, .ref am7, .ref am8, .ref am9, .ref am10, .ref am11, .ref am12, .int M_ran, .int M_actKind, .int M_actN, .int M_actA, .int M_isParted])), (am0, .inl (cy 0, 48, .inl u_s))] s.heap.size = A at hD hAB0 ⊢
  have hA : ∀ q : Nat, s.heap.size ≤ q → A q := fun q h => by rw [← hAe]; exact Or.inr h
  have hAB : ∀ q, A q → B ≤ q := hAB0
  have hS : va_S A s.heap s.heap [] := va_S.rf
  have hfin : ∀ (u_s : (Nat → Int32)), some u_s = some z → ∀ (H : Heap) (t : State), t.heap = H → va_P D vwCl [(am, .inr (7, [.ref am0, .ref am1, .ref am2, .ref am3, .int M_isHeld, .ref am4, .int M_taped, .int M_token, .int M_from, .int M_to, .int M_value, .int M_isWrong, .ref am5, .int M_rowN, .ref am6, .ref am7, .ref am8, .ref am9, .ref am10, .ref am11, .ref am12, .int M_ran, .int M_actKind, .int M_actN, .int M_actA, .int M_isParted])), (am0, .inl (cy 0, 48, .inl u_s))] H → va_F A s t → Qw (none) D [(am, .inr (7, [.ref am0, .ref am1, .ref am2, .ref am3, .int M_isHeld, .ref am4, .int M_taped, .int M_token, .int M_from, .int M_to, .int M_value, .int M_isWrong, .ref am5, .int M_rowN, .ref am6, .ref am7, .ref am8, .ref am9, .ref am10, .ref am11, .ref am12, .int M_ran, .int M_actKind, .int M_actN, .int M_actA, .int M_isParted])), (am0, .inl (cy 0, 48, .inl z))] A ([.ref am, .int x1, .int x2] : List Value).toArray s (.returned (none)) t := by
    intro u_s h9 H t ht hP hF
    cases h9
    exact ⟨rfl, by rw [ht]; exact hP, hF⟩
  have hin7 : ∀ w ∈ u_ws RX7 TX7 26, w ∈ wsX7_comes := by decide +kernel
  have fl7 := hts (.fieldLink RX7 7 "KinCutleryModel" "s" "[I") (by decide +kernel)
  have hl := lv_entry ([.ref am, .int x1, .int x2]) (n := 4) (Nat.le_of_ble_eq_true rfl)
  rw [lg_entry_eq]
  generalize (lg_sl ([.ref am, .int x1, .int x2]) ++ List.replicate (4 - (lg_sl ([.ref am, .int x1, .int x2])).length) Slot.unset).toArray = ls at hl ⊢
  have hl : lv_has ls 4 [(0, .ref am), (1, .int x1), (2, .int x2)] := hl
  have hf : (if ((8 : Int32) + ((5 : Int32) * (u_s (0 : Int32).toNatClampNeg))) < 0 ∨ 48 ≤ ((8 : Int32) + ((5 : Int32) * (u_s (0 : Int32).toNatClampNeg))).toNatClampNeg then none else if (((8 : Int32) + ((5 : Int32) * (u_s (0 : Int32).toNatClampNeg))) + (1 : Int32)) < 0 ∨ 48 ≤ (((8 : Int32) + ((5 : Int32) * (u_s (0 : Int32).toNatClampNeg))) + (1 : Int32)).toNatClampNeg then none else if (((8 : Int32) + ((5 : Int32) * (u_s (0 : Int32).toNatClampNeg))) + (2 : Int32)) < 0 ∨ 48 ≤ (((8 : Int32) + ((5 : Int32) * (u_s (0 : Int32).toNatClampNeg))) + (2 : Int32)).toNatClampNeg then none else if (((8 : Int32) + ((5 : Int32) * (u_s (0 : Int32).toNatClampNeg))) + (3 : Int32)) < 0 ∨ 48 ≤ (((8 : Int32) + ((5 : Int32) * (u_s (0 : Int32).toNatClampNeg))) + (3 : Int32)).toNatClampNeg then none else if (((8 : Int32) + ((5 : Int32) * (u_s (0 : Int32).toNatClampNeg))) + (4 : Int32)) < 0 ∨ 48 ≤ (((8 : Int32) + ((5 : Int32) * (u_s (0 : Int32).toNatClampNeg))) + (4 : Int32)).toNatClampNeg then none else some (upd (upd (upd (upd (upd (upd u_s ((8 : Int32) + ((5 : Int32) * (u_s (0 : Int32).toNatClampNeg))).toNatClampNeg x1) (((8 : Int32) + ((5 : Int32) * (u_s (0 : Int32).toNatClampNeg))) + (1 : Int32)).toNatClampNeg x2) (((8 : Int32) + ((5 : Int32) * (u_s (0 : Int32).toNatClampNeg))) + (2 : Int32)).toNatClampNeg (0 : Int32)) (((8 : Int32) + ((5 : Int32) * (u_s (0 : Int32).toNatClampNeg))) + (3 : Int32)).toNatClampNeg (0 : Int32)) (((8 : Int32) + ((5 : Int32) * (u_s (0 : Int32).toNatClampNeg))) + (4 : Int32)).toNatClampNeg (0 : Int32)) (0 : Int32).toNatClampNeg (((upd (upd (upd (upd (upd u_s ((8 : Int32) + ((5 : Int32) * (u_s (0 : Int32).toNatClampNeg))).toNatClampNeg x1) (((8 : Int32) + ((5 : Int32) * (u_s (0 : Int32).toNatClampNeg))) + (1 : Int32)).toNatClampNeg x2) (((8 : Int32) + ((5 : Int32) * (u_s (0 : Int32).toNatClampNeg))) + (2 : Int32)).toNatClampNeg (0 : Int32)) (((8 : Int32) + ((5 : Int32) * (u_s (0 : Int32).toNatClampNeg))) + (3 : Int32)).toNatClampNeg (0 : Int32)) (((8 : Int32) + ((5 : Int32) * (u_s (0 : Int32).toNatClampNeg))) + (4 : Int32)).toNatClampNeg (0 : Int32)) (0 : Int32).toNatClampNeg) + (1 : Int32)))) = some z := hf
  refine lv_bipush (v := (8 : Int32)) hx hb dX7_comes_0 (by decide) ?_
  refine lv_iconst (v := (5 : Int32)) hx hb dX7_comes_2 (by decide) ?_
  refine lv_aload_n hx hb dX7_comes_3 rfl (lv_at hl 0 rfl) ?_
  refine va_get (D := D) (ci := 7) (v := .ref am0) (C := RX7) (T := TX7) (N := 26) hx hb hts hin7 hown hK hP 0 rfl rfl 0 (by decide) fl7 (fun _ h9 => h9) rfl dX7_comes_4 ?_
  refine lv_iconst (v := (0 : Int32)) hx hb dX7_comes_7 (by decide) ?_
  refine va_iald hx hb hK hP 1 0 rfl rfl vi_0_48 dX7_comes_8 ?_
  refine lv_imul hx hb dX7_comes_9 ?_
  refine lv_iadd hx hb dX7_comes_10 ?_
  refine lv_istore_n (lv' := [(3, .int ((8 : Int32) + ((5 : Int32) * (u_s (0 : Int32).toNatClampNeg)))), (0, .ref am), (1, .int x1), (2, .int x2)]) hx hb dX7_comes_11 rfl hl (by decide) rfl (fun ls hl => ?_)
  refine lv_aload_n hx hb dX7_comes_12 rfl (lv_at hl 1 rfl) ?_
  refine va_get (D := D) (ci := 7) (v := .ref am0) (C := RX7) (T := TX7) (N := 26) hx hb hts hin7 hown hK hP 0 rfl rfl 0 (by decide) fl7 (fun _ h9 => h9) rfl dX7_comes_13 ?_
  refine lv_iload_n hx hb dX7_comes_16 rfl (lv_at hl 0 rfl) ?_
  refine lv_iload_n hx hb dX7_comes_17 rfl (lv_at hl 2 rfl) ?_
  obtain ⟨h_18, hf⟩ := zg hf
  refine va_iast hx hb hK hP hD hS 1 0 rfl rfl h_18 dX7_comes_18 (fun H locs hP hD hS => ?_)
  have hP : va_P D vwCl [(am, .inr (7, [.ref am0, .ref am1, .ref am2, .ref am3, .int M_isHeld, .ref am4, .int M_taped, .int M_token, .int M_from, .int M_to, .int M_value, .int M_isWrong, .ref am5, .int M_rowN, .ref am6, .ref am7, .ref am8, .ref am9, .ref am10, .ref am11, .ref am12, .int M_ran, .int M_actKind, .int M_actN, .int M_actA, .int M_isParted])), (am0, .inl (cy 0, 48, .inl (upd u_s ((8 : Int32) + ((5 : Int32) * (u_s (0 : Int32).toNatClampNeg))).toNatClampNeg x1)))] H := hP
  have hD : va_D A [(am, .inr (7, [.ref am0, .ref am1, .ref am2, .ref am3, .int M_isHeld, .ref am4, .int M_taped, .int M_token, .int M_from, .int M_to, .int M_value, .int M_isWrong, .ref am5, .int M_rowN, .ref am6, .ref am7, .ref am8, .ref am9, .ref am10, .ref am11, .ref am12, .int M_ran, .int M_actKind, .int M_actN, .int M_actA, .int M_isParted])), (am0, .inl (cy 0, 48, .inl (upd u_s ((8 : Int32) + ((5 : Int32) * (u_s (0 : Int32).toNatClampNeg))).toNatClampNeg x1)))] := hD
  refine lv_aload_n hx hb dX7_comes_19 rfl (lv_at hl 1 rfl) ?_
  refine va_get (D := D) (ci := 7) (v := .ref am0) (C := RX7) (T := TX7) (N := 26) hx hb hts hin7 hown hK hP 0 rfl rfl 0 (by decide) fl7 (fun _ h9 => h9) rfl dX7_comes_20 ?_
  refine lv_iload_n hx hb dX7_comes_23 rfl (lv_at hl 0 rfl) ?_
  refine lv_iconst (v := (1 : Int32)) hx hb dX7_comes_24 (by decide) ?_
  refine lv_iadd hx hb dX7_comes_25 ?_
  refine lv_iload_n hx hb dX7_comes_26 rfl (lv_at hl 3 rfl) ?_
  obtain ⟨h_27, hf⟩ := zg hf
  refine va_iast hx hb hK hP hD hS 1 0 rfl rfl h_27 dX7_comes_27 (fun H locs hP hD hS => ?_)
  have hP : va_P D vwCl [(am, .inr (7, [.ref am0, .ref am1, .ref am2, .ref am3, .int M_isHeld, .ref am4, .int M_taped, .int M_token, .int M_from, .int M_to, .int M_value, .int M_isWrong, .ref am5, .int M_rowN, .ref am6, .ref am7, .ref am8, .ref am9, .ref am10, .ref am11, .ref am12, .int M_ran, .int M_actKind, .int M_actN, .int M_actA, .int M_isParted])), (am0, .inl (cy 0, 48, .inl (upd (upd u_s ((8 : Int32) + ((5 : Int32) * (u_s (0 : Int32).toNatClampNeg))).toNatClampNeg x1) (((8 : Int32) + ((5 : Int32) * (u_s (0 : Int32).toNatClampNeg))) + (1 : Int32)).toNatClampNeg x2)))] H := hP
  have hD : va_D A [(am, .inr (7, [.ref am0, .ref am1, .ref am2, .ref am3, .int M_isHeld, .ref am4, .int M_taped, .int M_token, .int M_from, .int M_to, .int M_value, .int M_isWrong, .ref am5, .int M_rowN, .ref am6, .ref am7, .ref am8, .ref am9, .ref am10, .ref am11, .ref am12, .int M_ran, .int M_actKind, .int M_actN, .int M_actA, .int M_isParted])), (am0, .inl (cy 0, 48, .inl (upd (upd u_s ((8 : Int32) + ((5 : Int32) * (u_s (0 : Int32).toNatClampNeg))).toNatClampNeg x1) (((8 : Int32) + ((5 : Int32) * (u_s (0 : Int32).toNatClampNeg))) + (1 : Int32)).toNatClampNeg x2)))] := hD
  refine lv_aload_n hx hb dX7_comes_28 rfl (lv_at hl 1 rfl) ?_
  refine va_get (D := D) (ci := 7) (v := .ref am0) (C := RX7) (T := TX7) (N := 26) hx hb hts hin7 hown hK hP 0 rfl rfl 0 (by decide) fl7 (fun _ h9 => h9) rfl dX7_comes_29 ?_
  refine lv_iload_n hx hb dX7_comes_32 rfl (lv_at hl 0 rfl) ?_
  refine lv_iconst (v := (2 : Int32)) hx hb dX7_comes_33 (by decide) ?_
  refine lv_iadd hx hb dX7_comes_34 ?_
  refine lv_iconst (v := (0 : Int32)) hx hb dX7_comes_35 (by decide) ?_
  obtain ⟨h_36, hf⟩ := zg hf
  refine va_iast hx hb hK hP hD hS 1 0 rfl rfl h_36 dX7_comes_36 (fun H locs hP hD hS => ?_)
  have hP : va_P D vwCl [(am, .inr (7, [.ref am0, .ref am1, .ref am2, .ref am3, .int M_isHeld, .ref am4, .int M_taped, .int M_token, .int M_from, .int M_to, .int M_value, .int M_isWrong, .ref am5, .int M_rowN, .ref am6, .ref am7, .ref am8, .ref am9, .ref am10, .ref am11, .ref am12, .int M_ran, .int M_actKind, .int M_actN, .int M_actA, .int M_isParted])), (am0, .inl (cy 0, 48, .inl (upd (upd (upd u_s ((8 : Int32) + ((5 : Int32) * (u_s (0 : Int32).toNatClampNeg))).toNatClampNeg x1) (((8 : Int32) + ((5 : Int32) * (u_s (0 : Int32).toNatClampNeg))) + (1 : Int32)).toNatClampNeg x2) (((8 : Int32) + ((5 : Int32) * (u_s (0 : Int32).toNatClampNeg))) + (2 : Int32)).toNatClampNeg (0 : Int32))))] H := hP
  have hD : va_D A [(am, .inr (7, [.ref am0, .ref am1, .ref am2, .ref am3, .int M_isHeld, .ref am4, .int M_taped, .int M_token, .int M_from, .int M_to, .int M_value, .int M_isWrong, .ref am5, .int M_rowN, .ref am6, .ref am7, .ref am8, .ref am9, .ref am10, .ref am11, .ref am12, .int M_ran, .int M_actKind, .int M_actN, .int M_actA, .int M_isParted])), (am0, .inl (cy 0, 48, .inl (upd (upd (upd u_s ((8 : Int32) + ((5 : Int32) * (u_s (0 : Int32).toNatClampNeg))).toNatClampNeg x1) (((8 : Int32) + ((5 : Int32) * (u_s (0 : Int32).toNatClampNeg))) + (1 : Int32)).toNatClampNeg x2) (((8 : Int32) + ((5 : Int32) * (u_s (0 : Int32).toNatClampNeg))) + (2 : Int32)).toNatClampNeg (0 : Int32))))] := hD
  refine lv_aload_n hx hb dX7_comes_37 rfl (lv_at hl 1 rfl) ?_
  refine va_get (D := D) (ci := 7) (v := .ref am0) (C := RX7) (T := TX7) (N := 26) hx hb hts hin7 hown hK hP 0 rfl rfl 0 (by decide) fl7 (fun _ h9 => h9) rfl dX7_comes_38 ?_
  refine lv_iload_n hx hb dX7_comes_41 rfl (lv_at hl 0 rfl) ?_
  refine lv_iconst (v := (3 : Int32)) hx hb dX7_comes_42 (by decide) ?_
  refine lv_iadd hx hb dX7_comes_43 ?_
  refine lv_iconst (v := (0 : Int32)) hx hb dX7_comes_44 (by decide) ?_
  obtain ⟨h_45, hf⟩ := zg hf
  refine va_iast hx hb hK hP hD hS 1 0 rfl rfl h_45 dX7_comes_45 (fun H locs hP hD hS => ?_)
  have hP : va_P D vwCl [(am, .inr (7, [.ref am0, .ref am1, .ref am2, .ref am3, .int M_isHeld, .ref am4, .int M_taped, .int M_token, .int M_from, .int M_to, .int M_value, .int M_isWrong, .ref am5, .int M_rowN, .ref am6, .ref am7, .ref am8, .ref am9, .ref am10, .ref am11, .ref am12, .int M_ran, .int M_actKind, .int M_actN, .int M_actA, .int M_isParted])), (am0, .inl (cy 0, 48, .inl (upd (upd (upd (upd u_s ((8 : Int32) + ((5 : Int32) * (u_s (0 : Int32).toNatClampNeg))).toNatClampNeg x1) (((8 : Int32) + ((5 : Int32) * (u_s (0 : Int32).toNatClampNeg))) + (1 : Int32)).toNatClampNeg x2) (((8 : Int32) + ((5 : Int32) * (u_s (0 : Int32).toNatClampNeg))) + (2 : Int32)).toNatClampNeg (0 : Int32)) (((8 : Int32) + ((5 : Int32) * (u_s (0 : Int32).toNatClampNeg))) + (3 : Int32)).toNatClampNeg (0 : Int32))))] H := hP
  have hD : va_D A [(am, .inr (7, [.ref am0, .ref am1, .ref am2, .ref am3, .int M_isHeld, .ref am4, .int M_taped, .int M_token, .int M_from, .int M_to, .int M_value, .int M_isWrong, .ref am5, .int M_rowN, .ref am6, .ref am7, .ref am8, .ref am9, .ref am10, .ref am11, .ref am12, .int M_ran, .int M_actKind, .int M_actN, .int M_actA, .int M_isParted])), (am0, .inl (cy 0, 48, .inl (upd (upd (upd (upd u_s ((8 : Int32) + ((5 : Int32) * (u_s (0 : Int32).toNatClampNeg))).toNatClampNeg x1) (((8 : Int32) + ((5 : Int32) * (u_s (0 : Int32).toNatClampNeg))) + (1 : Int32)).toNatClampNeg x2) (((8 : Int32) + ((5 : Int32) * (u_s (0 : Int32).toNatClampNeg))) + (2 : Int32)).toNatClampNeg (0 : Int32)) (((8 : Int32) + ((5 : Int32) * (u_s (0 : Int32).toNatClampNeg))) + (3 : Int32)).toNatClampNeg (0 : Int32))))] := hD
  refine lv_aload_n hx hb dX7_comes_46 rfl (lv_at hl 1 rfl) ?_
  refine va_get (D := D) (ci := 7) (v := .ref am0) (C := RX7) (T := TX7) (N := 26) hx hb hts hin7 hown hK hP 0 rfl rfl 0 (by decide) fl7 (fun _ h9 => h9) rfl dX7_comes_47 ?_
  refine lv_iload_n hx hb dX7_comes_50 rfl (lv_at hl 0 rfl) ?_
  refine lv_iconst (v := (4 : Int32)) hx hb dX7_comes_51 (by decide) ?_
  refine lv_iadd hx hb dX7_comes_52 ?_
  refine lv_iconst (v := (0 : Int32)) hx hb dX7_comes_53 (by decide) ?_
  obtain ⟨h_54, hf⟩ := zg hf
  refine va_iast hx hb hK hP hD hS 1 0 rfl rfl h_54 dX7_comes_54 (fun H locs hP hD hS => ?_)
  have hP : va_P D vwCl [(am, .inr (7, [.ref am0, .ref am1, .ref am2, .ref am3, .int M_isHeld, .ref am4, .int M_taped, .int M_token, .int M_from, .int M_to, .int M_value, .int M_isWrong, .ref am5, .int M_rowN, .ref am6, .ref am7, .ref am8, .ref am9, .ref am10, .ref am11, .ref am12, .int M_ran, .int M_actKind, .int M_actN, .int M_actA, .int M_isParted])), (am0, .inl (cy 0, 48, .inl (upd (upd (upd (upd (upd u_s ((8 : Int32) + ((5 : Int32) * (u_s (0 : Int32).toNatClampNeg))).toNatClampNeg x1) (((8 : Int32) + ((5 : Int32) * (u_s (0 : Int32).toNatClampNeg))) + (1 : Int32)).toNatClampNeg x2) (((8 : Int32) + ((5 : Int32) * (u_s (0 : Int32).toNatClampNeg))) + (2 : Int32)).toNatClampNeg (0 : Int32)) (((8 : Int32) + ((5 : Int32) * (u_s (0 : Int32).toNatClampNeg))) + (3 : Int32)).toNatClampNeg (0 : Int32)) (((8 : Int32) + ((5 : Int32) * (u_s (0 : Int32).toNatClampNeg))) + (4 : Int32)).toNatClampNeg (0 : Int32))))] H := hP
  have hD : va_D A [(am, .inr (7, [.ref am0, .ref am1, .ref am2, .ref am3, .int M_isHeld, .ref am4, .int M_taped, .int M_token, .int M_from, .int M_to, .int M_value, .int M_isWrong, .ref am5, .int M_rowN, .ref am6, .ref am7, .ref am8, .ref am9, .ref am10, .ref am11, .ref am12, .int M_ran, .int M_actKind, .int M_actN, .int M_actA, .int M_isParted])), (am0, .inl (cy 0, 48, .inl (upd (upd (upd (upd (upd u_s ((8 : Int32) + ((5 : Int32) * (u_s (0 : Int32).toNatClampNeg))).toNatClampNeg x1) (((8 : Int32) + ((5 : Int32) * (u_s (0 : Int32).toNatClampNeg))) + (1 : Int32)).toNatClampNeg x2) (((8 : Int32) + ((5 : Int32) * (u_s (0 : Int32).toNatClampNeg))) + (2 : Int32)).toNatClampNeg (0 : Int32)) (((8 : Int32) + ((5 : Int32) * (u_s (0 : Int32).toNatClampNeg))) + (3 : Int32)).toNatClampNeg (0 : Int32)) (((8 : Int32) + ((5 : Int32) * (u_s (0 : Int32).toNatClampNeg))) + (4 : Int32)).toNatClampNeg (0 : Int32))))] := hD
  refine lv_aload_n hx hb dX7_comes_55 rfl (lv_at hl 1 rfl) ?_
  refine va_get (D := D) (ci := 7) (v := .ref am0) (C := RX7) (T := TX7) (N := 26) hx hb hts hin7 hown hK hP 0 rfl rfl 0 (by decide) fl7 (fun _ h9 => h9) rfl dX7_comes_56 ?_
  refine lv_iconst (v := (0 : Int32)) hx hb dX7_comes_59 (by decide) ?_
  refine lv_dup2_11 hx hb dX7_comes_60 rfl rfl ?_
  refine va_iald hx hb hK hP 1 0 rfl rfl vi_0_48 dX7_comes_61 ?_
  refine lv_iconst (v := (1 : Int32)) hx hb dX7_comes_62 (by decide) ?_
  refine lv_iadd hx hb dX7_comes_63 ?_
  refine va_iast hx hb hK hP hD hS 1 0 rfl rfl vi_0_48 dX7_comes_64 (fun H locs hP hD hS => ?_)
  have hP : va_P D vwCl [(am, .inr (7, [.ref am0, .ref am1, .ref am2, .ref am3, .int M_isHeld, .ref am4, .int M_taped, .int M_token, .int M_from, .int M_to, .int M_value, .int M_isWrong, .ref am5, .int M_rowN, .ref am6, .ref am7, .ref am8, .ref am9, .ref am10, .ref am11, .ref am12, .int M_ran, .int M_actKind, .int M_actN, .int M_actA, .int M_isParted])), (am0, .inl (cy 0, 48, .inl (upd (upd (upd (upd (upd (upd u_s ((8 : Int32) + ((5 : Int32) * (u_s (0 : Int32).toNatClampNeg))).toNatClampNeg x1) (((8 : Int32) + ((5 : Int32) * (u_s (0 : Int32).toNatClampNeg))) + (1 : Int32)).toNatClampNeg x2) (((8 : Int32) + ((5 : Int32) * (u_s (0 : Int32).toNatClampNeg))) + (2 : Int32)).toNatClampNeg (0 : Int32)) (((8 : Int32) + ((5 : Int32) * (u_s (0 : Int32).toNatClampNeg))) + (3 : Int32)).toNatClampNeg (0 : Int32)) (((8 : Int32) + ((5 : Int32) * (u_s (0 : Int32).toNatClampNeg))) + (4 : Int32)).toNatClampNeg (0 : Int32)) (0 : Int32).toNatClampNeg (((upd (upd (upd (upd (upd u_s ((8 : Int32) + ((5 : Int32) * (u_s (0 : Int32).toNatClampNeg))).toNatClampNeg x1) (((8 : Int32) + ((5 : Int32) * (u_s (0 : Int32).toNatClampNeg))) + (1 : Int32)).toNatClampNeg x2) (((8 : Int32) + ((5 : Int32) * (u_s (0 : Int32).toNatClampNeg))) + (2 : Int32)).toNatClampNeg (0 : Int32)) (((8 : Int32) + ((5 : Int32) * (u_s (0 : Int32).toNatClampNeg))) + (3 : Int32)).toNatClampNeg (0 : Int32)) (((8 : Int32) + ((5 : Int32) * (u_s (0 : Int32).toNatClampNeg))) + (4 : Int32)).toNatClampNeg (0 : Int32)) (0 : Int32).toNatClampNeg) + (1 : Int32)))))] H := hP
  have hD : va_D A [(am, .inr (7, [.ref am0, .ref am1, .ref am2, .ref am3, .int M_isHeld, .ref am4, .int M_taped, .int M_token, .int M_from, .int M_to, .int M_value, .int M_isWrong, .ref am5, .int M_rowN, .ref am6, .ref am7, .ref am8, .ref am9, .ref am10, .ref am11, .ref am12, .int M_ran, .int M_actKind, .int M_actN, .int M_actA, .int M_isParted])), (am0, .inl (cy 0, 48, .inl (upd (upd (upd (upd (upd (upd u_s ((8 : Int32) + ((5 : Int32) * (u_s (0 : Int32).toNatClampNeg))).toNatClampNeg x1) (((8 : Int32) + ((5 : Int32) * (u_s (0 : Int32).toNatClampNeg))) + (1 : Int32)).toNatClampNeg x2) (((8 : Int32) + ((5 : Int32) * (u_s (0 : Int32).toNatClampNeg))) + (2 : Int32)).toNatClampNeg (0 : Int32)) (((8 : Int32) + ((5 : Int32) * (u_s (0 : Int32).toNatClampNeg))) + (3 : Int32)).toNatClampNeg (0 : Int32)) (((8 : Int32) + ((5 : Int32) * (u_s (0 : Int32).toNatClampNeg))) + (4 : Int32)).toNatClampNeg (0 : Int32)) (0 : Int32).toNatClampNeg (((upd (upd (upd (upd (upd u_s ((8 : Int32) + ((5 : Int32) * (u_s (0 : Int32).toNatClampNeg))).toNatClampNeg x1) (((8 : Int32) + ((5 : Int32) * (u_s (0 : Int32).toNatClampNeg))) + (1 : Int32)).toNatClampNeg x2) (((8 : Int32) + ((5 : Int32) * (u_s (0 : Int32).toNatClampNeg))) + (2 : Int32)).toNatClampNeg (0 : Int32)) (((8 : Int32) + ((5 : Int32) * (u_s (0 : Int32).toNatClampNeg))) + (3 : Int32)).toNatClampNeg (0 : Int32)) (((8 : Int32) + ((5 : Int32) * (u_s (0 : Int32).toNatClampNeg))) + (4 : Int32)).toNatClampNeg (0 : Int32)) (0 : Int32).toNatClampNeg) + (1 : Int32)))))] := hD
  exact W.vret hx hb hr (fun t ht hW => hfin (upd (upd (upd (upd (upd (upd u_s ((8 : Int32) + ((5 : Int32) * (u_s (0 : Int32).toNatClampNeg))).toNatClampNeg x1) (((8 : Int32) + ((5 : Int32) * (u_s (0 : Int32).toNatClampNeg))) + (1 : Int32)).toNatClampNeg x2) (((8 : Int32) + ((5 : Int32) * (u_s (0 : Int32).toNatClampNeg))) + (2 : Int32)).toNatClampNeg (0 : Int32)) (((8 : Int32) + ((5 : Int32) * (u_s (0 : Int32).toNatClampNeg))) + (3 : Int32)).toNatClampNeg (0 : Int32)) (((8 : Int32) + ((5 : Int32) * (u_s (0 : Int32).toNatClampNeg))) + (4 : Int32)).toNatClampNeg (0 : Int32)) (0 : Int32).toNatClampNeg (((upd (upd (upd (upd (upd u_s ((8 : Int32) + ((5 : Int32) * (u_s (0 : Int32).toNatClampNeg))).toNatClampNeg x1) (((8 : Int32) + ((5 : Int32) * (u_s (0 : Int32).toNatClampNeg))) + (1 : Int32)).toNatClampNeg x2) (((8 : Int32) + ((5 : Int32) * (u_s (0 : Int32).toNatClampNeg))) + (2 : Int32)).toNatClampNeg (0 : Int32)) (((8 : Int32) + ((5 : Int32) * (u_s (0 : Int32).toNatClampNeg))) + (3 : Int32)).toNatClampNeg (0 : Int32)) (((8 : Int32) + ((5 : Int32) * (u_s (0 : Int32).toNatClampNeg))) + (4 : Int32)).toNatClampNeg (0 : Int32)) (0 : Int32).toNatClampNeg) + (1 : Int32))) hf _ t ht hP (hS.F ht)) hS.2.2 dX7_comes_65
set_option maxRecDepth 100000 in
set_option maxHeartbeats 100000000 in
theorem mX7_guestHere (l : Launch) (D : va_G) (cy : Nat → ClassId) (st sk sv : Nat → Nat) (B : Nat) (am : Nat) (am0 : Nat) (am1 : Nat) (am2 : Nat) (am3 : Nat) (am4 : Nat) (am5 : Nat) (am6 : Nat) (am7 : Nat) (am8 : Nat) (am9 : Nat) (am10 : Nat) (am11 : Nat) (am12 : Nat) (sz : Nat) (n : Nat) (M_isHeld : Int32) (M_taped : Int32) (M_token : Int32) (M_from : Int32) (M_to : Int32) (M_value : Int32) (M_isWrong : Int32) (M_rowN : Int32) (M_ran : Int32) (M_actKind : Int32) (M_actN : Int32) (M_actA : Int32) (M_isParted : Int32) (u_s : (Nat → Int32)) (u_tape : (Nat → Int32)) (x1 : Int32) (z : MO × (Nat → Int32)) (hf : fX7_guestHere n (M_isHeld, M_taped, M_token, M_from, M_to, M_value, M_isWrong, M_rowN, M_ran, M_actKind, M_actN, M_actA, M_isParted) u_s u_tape x1 = some z) : Met l yX7_guestHere wsX7_guestHere ({ frames := 4, cells := 0, slots := 0, locals := 86 }) (PcW [.ref am, .int x1] D cy st sk sv B sz [(am, .inr (7, [.ref am0, .ref am1, .ref am2, .ref am3, .int M_isHeld, .ref am4, .int M_taped, .int M_token, .int M_from, .int M_to, .int M_value, .int M_isWrong, .ref am5, .int M_rowN, .ref am6, .ref am7, .ref am8, .ref am9, .ref am10, .ref am11, .ref am12, .int M_ran, .int M_actKind, .int M_actN, .int M_actA, .int M_isParted])), (am0, .inl (cy 0, 48, .inl u_s)), (am4, .inl (cy 0, 200, .inl u_tape))]) (Qw (none) D [(am, .inr (7, [.ref am0, .ref am1, .ref am2, .ref am3, .int z.1.1, .ref am4, .int z.1.2.1, .int z.1.2.2.1, .int z.1.2.2.2.1, .int z.1.2.2.2.2.1, .int z.1.2.2.2.2.2.1, .int z.1.2.2.2.2.2.2.1, .ref am5, .int z.1.2.2.2.2.2.2.2.1, .ref am6, .ref am7, .ref am8, .ref am9, .ref am10, .ref am11, .ref am12, .int z.1.2.2.2.2.2.2.2.2.1, .int z.1.2.2.2.2.2.2.2.2.2.1, .int z.1.2.2.2.2.2.2.2.2.2.2.1, .int z.1.2.2.2.2.2.2.2.2.2.2.2.1, .int z.1.2.2.2.2.2.2.2.2.2.2.2.2])), (am0, .inl (cy 0, 48, .inl z.2)), (am4, .inl (cy 0, 200, .inl u_tape))] (va_A [(am, .inr (7, [.ref am0, .ref am1, .ref am2, .ref am3, .int M_isHeld, .ref am4, .int M_taped, .int M_token, .int M_from, .int M_to, .int M_value, .int M_isWrong, .ref am5, .int M_rowN, .ref am6, .ref am7, .ref am8, .ref am9, .ref am10, .ref am11, .ref am12, .int M_ran, .int M_actKind, .int M_actN, .int M_actA, .int M_isParted])), (am0, .inl (cy 0, 48, .inl u_s)), (am4, .inl (cy 0, 200, .inl u_tape))] sz)) 0 0 (va_A [(am, .inr (7, [.ref am0, .ref am1, .ref am2, .ref am3, .int M_isHeld, .ref am4, .int M_taped, .int M_token, .int M_from, .int M_to, .int M_value, .int M_isWrong, .ref am5, .int M_rowN, .ref am6, .ref am7, .ref am8, .ref am9, .ref am10, .ref am11, .ref am12, .int M_ran, .int M_actKind, .int M_actN, .int M_actA, .int M_isParted])), (am0, .inl (cy 0, 48, .inl u_s)), (am4, .inl (cy 0, 200, .inl u_tape))] sz) := by
  refine Met.ofW (cc := cX7_guestHere) (maxL := 3) (ret := none) (by decide) rfl ?_
  intro p e s m args below meth c s₁ Bd hml hv
  obtain ⟨rfl, hsz, hP, hD0, hBs, hG⟩ := hv
  have hx := Bd.exec
  have hb := Bd.bytes
  have hr := Bd.returns
  have hts := atoms_spec (ws := wsX7_guestHere) Bd.pre
  have hown : s.vm.findClass RX7 = some m.cls := findClass_of_methodNamed Bd.named
  have hlocks := Bd.notSynchronized
  have hK := hG.1
  subst hsz
  have hD := hD0.self (sz := s.heap.size)
  have hAB0 := zA hD0 hBs
  generalize hAe : va_A [(am, .inr (7, [.ref am0, .ref am1, .ref am2, .ref am3, .int M_isHeld, .ref am4, .int M_taped, .int M_token, .int M_from, .int M_to, .int M_value, .int M_isWrong, .ref am5, .int M_rowN, .ref am6, .ref am7, .ref am8, .ref am9, .ref am10, .ref am11, .ref am12, .int M_ran, .int M_actKind, .int M_actN, .int M_actA, .int M_isParted])), (am0, .inl (cy 0, 48, .inl u_s)), (am4, .inl (cy 0, 200, .inl u_tape))] s.heap.size = A at hD hAB0 ⊢
  have hA : ∀ q : Nat, s.heap.size ≤ q → A q := fun q h => by rw [← hAe]; exact Or.inr h
  have hAB : ∀ q, A q → B ≤ q := hAB0
  have hS : va_S A s.heap s.heap [] := va_S.rf
  have hfin : ∀ (M_isHeld : Int32) (M_taped : Int32) (M_token : Int32) (M_from : Int32) (M_to : Int32) (M_value : Int32) (M_isWrong : Int32) (M_rowN : Int32) (M_ran : Int32) (M_actKind : Int32) (M_actN : Int32) (M_actA : Int32) (M_isParted : Int32) (u_s : (Nat → Int32)), some ((M_isHeld, M_taped, M_token, M_from, M_to, M_value, M_isWrong, M_rowN, M_ran, M_actKind, M_actN, M_actA, M_isParted), u_s) = some z → ∀ (H : Heap) (t : State), t.heap = H → va_P D vwCl [(am, .inr (7, [.ref am0, .ref am1, .ref am2, .ref am3, .int M_isHeld, .ref am4, .int M_taped, .int M_token, .int M_from, .int M_to, .int M_value, .int M_isWrong, .ref am5, .int M_rowN, .ref am6, .ref am7, .ref am8, .ref am9, .ref am10, .ref am11, .ref am12, .int M_ran, .int M_actKind, .int M_actN, .int M_actA, .int M_isParted])), (am0, .inl (cy 0, 48, .inl u_s)), (am4, .inl (cy 0, 200, .inl u_tape))] H → va_F A s t → Qw (none) D [(am, .inr (7, [.ref am0, .ref am1, .ref am2, .ref am3, .int z.1.1, .ref am4, .int z.1.2.1, .int z.1.2.2.1, .int z.1.2.2.2.1, .int z.1.2.2.2.2.1, .int z.1.2.2.2.2.2.1, .int z.1.2.2.2.2.2.2.1, .ref am5, .int z.1.2.2.2.2.2.2.2.1, .ref am6, .ref am7, .ref am8, .ref am9, .ref am10, .ref am11, .ref am12, .int z.1.2.2.2.2.2.2.2.2.1, .int z.1.2.2.2.2.2.2.2.2.2.1, .int z.1.2.2.2.2.2.2.2.2.2.2.1, .int z.1.2.2.2.2.2.2.2.2.2.2.2.1, .int z.1.2.2.2.2.2.2.2.2.2.2.2.2])), (am0, .inl (cy 0, 48, .inl z.2)), (am4, .inl (cy 0, 200, .inl u_tape))] A ([.ref am, .int x1] : List Value).toArray s (.returned (none)) t := by
    intro M_isHeld M_taped M_token M_from M_to M_value M_isWrong M_rowN M_ran M_actKind M_actN M_actA M_isParted u_s h9 H t ht hP hF
    cases h9
    exact ⟨rfl, by rw [ht]; exact hP, hF⟩
  have hin7 : ∀ w ∈ u_ws RX7 TX7 26, w ∈ wsX7_guestHere := by decide +kernel
  have fl7 := hts (.fieldLink RX7 7 "KinCutleryModel" "s" "[I") (by decide +kernel)
  have fl87 := hts (.fieldLink RX7 87 "KinCutleryModel" "isWrong" "Z") (by decide +kernel)
  have hB116 : ∀ (M_isHeld : Int32) (M_taped : Int32) (M_token : Int32) (M_from : Int32) (M_to : Int32) (M_value : Int32) (M_isWrong : Int32) (M_rowN : Int32) (M_ran : Int32) (M_actKind : Int32) (M_actN : Int32) (M_actA : Int32) (M_isParted : Int32) (u_s : (Nat → Int32)) (y2 : Int32), fX7_guestHere_b116 n u_tape x1  (M_isHeld, M_taped, M_token, M_from, M_to, M_value, M_isWrong, M_rowN, M_ran, M_actKind, M_actN, M_actA, M_isParted) u_s y2 = some z → ∀ (H : Heap) (locs : List Loc), va_P D vwCl [(am, .inr (7, [.ref am0, .ref am1, .ref am2, .ref am3, .int M_isHeld, .ref am4, .int M_taped, .int M_token, .int M_from, .int M_to, .int M_value, .int M_isWrong, .ref am5, .int M_rowN, .ref am6, .ref am7, .ref am8, .ref am9, .ref am10, .ref am11, .ref am12, .int M_ran, .int M_actKind, .int M_actN, .int M_actA, .int M_isParted])), (am0, .inl (cy 0, 48, .inl u_s)), (am4, .inl (cy 0, 200, .inl u_tape))] H → va_D A [(am, .inr (7, [.ref am0, .ref am1, .ref am2, .ref am3, .int M_isHeld, .ref am4, .int M_taped, .int M_token, .int M_from, .int M_to, .int M_value, .int M_isWrong, .ref am5, .int M_rowN, .ref am6, .ref am7, .ref am8, .ref am9, .ref am10, .ref am11, .ref am12, .int M_ran, .int M_actKind, .int M_actN, .int M_actA, .int M_isParted])), (am0, .inl (cy 0, 48, .inl u_s)), (am4, .inl (cy 0, 200, .inl u_tape))] → va_S A s.heap H locs → ∀ (ls : Array Slot), lv_has ls 3 [(0, .ref am), (1, .int x1), (2, .int y2)] → W p l e (headSpec wsX7_guestHere ({ frames := 4, cells := 0, slots := 0, locals := 86 })).room s m ([.ref am, .int x1] : List Value).toArray below meth c H locs 0 0 (MQ below (Qw (none) D [(am, .inr (7, [.ref am0, .ref am1, .ref am2, .ref am3, .int z.1.1, .ref am4, .int z.1.2.1, .int z.1.2.2.1, .int z.1.2.2.2.1, .int z.1.2.2.2.2.1, .int z.1.2.2.2.2.2.1, .int z.1.2.2.2.2.2.2.1, .ref am5, .int z.1.2.2.2.2.2.2.2.1, .ref am6, .ref am7, .ref am8, .ref am9, .ref am10, .ref am11, .ref am12, .int z.1.2.2.2.2.2.2.2.2.1, .int z.1.2.2.2.2.2.2.2.2.2.1, .int z.1.2.2.2.2.2.2.2.2.2.2.1, .int z.1.2.2.2.2.2.2.2.2.2.2.2.1, .int z.1.2.2.2.2.2.2.2.2.2.2.2.2])), (am0, .inl (cy 0, 48, .inl z.2)), (am4, .inl (cy 0, 200, .inl u_tape))] A) ([.ref am, .int x1] : List Value).toArray s 0 0 A) (F0 m 116 ls []) := by
    intro M_isHeld M_taped M_token M_from M_to M_value M_isWrong M_rowN M_ran M_actKind M_actN M_actA M_isParted u_s y2 hf H locs hP hD hS ls hl
    have hf : (if M_isWrong = 0 then ((fX7_isName n (M_isHeld, M_taped, M_token, M_from, M_to, M_value, M_isWrong, M_rowN, M_ran, M_actKind, M_actN, M_actA, M_isParted) u_tape (7 : Int32) (100 : Int32) (114 : Int32) (111 : Int32) (100 : Int32)).bind fun r134 => if r134 = 0 then (some ((M_isHeld, M_taped, M_token, M_from, M_to, M_value, M_isWrong, M_rowN, M_ran, M_actKind, M_actN, M_actA, M_isParted), u_s)) else ((fX7_isSame n (M_isHeld, M_taped, M_token, M_from, M_to, M_value, M_isWrong, M_rowN, M_ran, M_actKind, M_actN, M_actA, M_isParted) u_tape (3 : Int32) (119 : Int32) (110 : Int32) (101 : Int32)).bind fun r148 => if r148 = 0 then (some ((M_isHeld, M_taped, M_token, M_from, M_to, M_value, M_isWrong, M_rowN, M_ran, M_actKind, M_actN, M_actA, M_isParted), u_s)) else ((fX7_nextToken n (M_isHeld, M_taped, M_token, M_from, M_to, M_value, M_isWrong, M_rowN, M_ran, M_actKind, M_actN, M_actA, M_isParted) u_tape).bind fun r155 => if (y2 + (4 : Int32)) < 0 ∨ 48 ≤ (y2 + (4 : Int32)).toNatClampNeg then none else some (r155, (upd u_s (y2 + (4 : Int32)).toNatClampNeg (1 : Int32)))))) else (some ((M_isHeld, M_taped, M_token, M_from, M_to, M_value, M_isWrong, M_rowN, M_ran, M_actKind, M_actN, M_actA, M_isParted), u_s))) = some z := hf
    refine lv_aload_n hx hb dX7_guestHere_116 rfl (lv_at hl 0 rfl) ?_
    refine va_get (D := D) (ci := 7) (v := .int M_isWrong) (C := RX7) (T := TX7) (N := 26) hx hb hts hin7 hown hK hP 0 rfl rfl 11 (by decide) fl87 (fun _ h9 => h9) rfl dX7_guestHere_117 ?_
    refine lv_if_ne (tgt := 167) hx hb dX7_guestHere_120 (by decide) (fun c_120 => ?_) (fun c_120 => ?_)
    · have hf := zn hf c_120
      exact W.vret hx hb hr (fun t ht hW => hfin M_isHeld M_taped M_token M_from M_to M_value M_isWrong M_rowN M_ran M_actKind M_actN M_actA M_isParted u_s hf _ t ht hP (hS.F ht)) hS.2.2 dX7_guestHere_167
    · have hf := zp hf c_120
      refine lv_aload_n hx hb dX7_guestHere_123 rfl (lv_at hl 0 rfl) ?_
      refine lv_bipush (v := (7 : Int32)) hx hb dX7_guestHere_124 (by decide) ?_
      refine lv_bipush (v := (100 : Int32)) hx hb dX7_guestHere_126 (by decide) ?_
      refine lv_bipush (v := (114 : Int32)) hx hb dX7_guestHere_128 (by decide) ?_
      refine lv_bipush (v := (111 : Int32)) hx hb dX7_guestHere_130 (by decide) ?_
      refine lv_bipush (v := (100 : Int32)) hx hb dX7_guestHere_132 (by decide) ?_
      obtain ⟨r134, hc134, hf⟩ := zb hf
      refine zvr (o := some (.int r134)) (As := [.int (7 : Int32), .int (100 : Int32), .int (114 : Int32), .int (111 : Int32), .int (100 : Int32)]) (rest := []) (stk := [.int r134]) ⟨hx, hb, hml, hown, hts⟩ (mX7_isName l D cy st sk sv B am am0 am1 am2 am3 am4 am5 am6 am7 am8 am9 am10 am11 am12 n M_isHeld M_taped M_token M_from M_to M_value M_isWrong M_rowN M_ran M_actKind M_actN M_actA M_isParted u_tape (7 : Int32) (100 : Int32) (114 : Int32) (111 : Int32) (100 : Int32) r134 hc134) (cwV 5 hts gX7_guestHere_X7_isName rfl rfl rfl (by decide +kernel) ⟨Nat.le_of_ble_eq_true rfl, Nat.le_of_ble_eq_true rfl⟩) hG hS hAB hP [0, 2] rfl 0 7 rfl rfl rfl rfl hl.1 rfl (Nat.le_of_ble_eq_true rfl) dX7_guestHere_134 rfl ?_
      refine lv_if_eq (tgt := 167) hx hb dX7_guestHere_137 (by decide) (fun c_137 => ?_) (fun c_137 => ?_)
      · have hf := zp hf c_137
        exact W.vret hx hb hr (fun t ht hW => hfin M_isHeld M_taped M_token M_from M_to M_value M_isWrong M_rowN M_ran M_actKind M_actN M_actA M_isParted u_s hf _ t ht hP (hS.F ht)) hS.2.2 dX7_guestHere_167
      · have hf := zn hf c_137
        refine lv_aload_n hx hb dX7_guestHere_140 rfl (lv_at hl 0 rfl) ?_
        refine lv_iconst (v := (3 : Int32)) hx hb dX7_guestHere_141 (by decide) ?_
        refine lv_bipush (v := (119 : Int32)) hx hb dX7_guestHere_142 (by decide) ?_
        refine lv_bipush (v := (110 : Int32)) hx hb dX7_guestHere_144 (by decide) ?_
        refine lv_bipush (v := (101 : Int32)) hx hb dX7_guestHere_146 (by decide) ?_
        obtain ⟨r148, hc148, hf⟩ := zb hf
        refine zvr (o := some (.int r148)) (As := [.int (3 : Int32), .int (119 : Int32), .int (110 : Int32), .int (101 : Int32)]) (rest := []) (stk := [.int r148]) ⟨hx, hb, hml, hown, hts⟩ (mX7_isSame l D cy st sk sv B am am0 am1 am2 am3 am4 am5 am6 am7 am8 am9 am10 am11 am12 n M_isHeld M_taped M_token M_from M_to M_value M_isWrong M_rowN M_ran M_actKind M_actN M_actA M_isParted u_tape (3 : Int32) (119 : Int32) (110 : Int32) (101 : Int32) r148 hc148) (cwV 4 hts gX7_guestHere_X7_isSame rfl rfl rfl (by decide +kernel) ⟨Nat.le_of_ble_eq_true rfl, Nat.le_of_ble_eq_true rfl⟩) hG hS hAB hP [0, 2] rfl 0 7 rfl rfl rfl rfl hl.1 rfl (Nat.le_of_ble_eq_true rfl) dX7_guestHere_148 rfl ?_
        refine lv_if_eq (tgt := 167) hx hb dX7_guestHere_151 (by decide) (fun c_151 => ?_) (fun c_151 => ?_)
        · have hf := zp hf c_151
          exact W.vret hx hb hr (fun t ht hW => hfin M_isHeld M_taped M_token M_from M_to M_value M_isWrong M_rowN M_ran M_actKind M_actN M_actA M_isParted u_s hf _ t ht hP (hS.F ht)) hS.2.2 dX7_guestHere_167
        · have hf := zn hf c_151
          refine lv_aload_n hx hb dX7_guestHere_154 rfl (lv_at hl 0 rfl) ?_
          obtain ⟨r155, hc155, hf⟩ := zb hf
          refine zvw (o := none) (As := []) (rest := []) (stk := []) ⟨hx, hb, hml, hown, hts⟩ (mX7_nextToken l D cy st sk sv B am am0 am1 am2 am3 am4 am5 am6 am7 am8 am9 am10 am11 am12 _ n M_isHeld M_taped M_token M_from M_to M_value M_isWrong M_rowN M_ran M_actKind M_actN M_actA M_isParted u_tape r155 hc155) (cwV 0 hts gX7_guestHere_X7_nextToken rfl rfl rfl (by decide +kernel) ⟨Nat.le_of_ble_eq_true rfl, Nat.le_of_ble_eq_true rfl⟩) hG hS hAB hA hP hD [0, 2] (by decide) rfl rfl rfl rfl 0 7 rfl rfl rfl rfl hl.1 rfl (Nat.le_of_ble_eq_true rfl) dX7_guestHere_155 rfl (fun H locs hP hD hS => ?_)
          have hP : va_P D vwCl [(am, .inr (7, [.ref am0, .ref am1, .ref am2, .ref am3, .int r155.1, .ref am4, .int r155.2.1, .int r155.2.2.1, .int r155.2.2.2.1, .int r155.2.2.2.2.1, .int r155.2.2.2.2.2.1, .int r155.2.2.2.2.2.2.1, .ref am5, .int r155.2.2.2.2.2.2.2.1, .ref am6, .ref am7, .ref am8, .ref am9, .ref am10, .ref am11, .ref am12, .int r155.2.2.2.2.2.2.2.2.1, .int r155.2.2.2.2.2.2.2.2.2.1, .int r155.2.2.2.2.2.2.2.2.2.2.1, .int r155.2.2.2.2.2.2.2.2.2.2.2.1, .int r155.2.2.2.2.2.2.2.2.2.2.2.2])), (am0, .inl (cy 0, 48, .inl u_s)), (am4, .inl (cy 0, 200, .inl u_tape))] H := hP
          have hD : va_D A [(am, .inr (7, [.ref am0, .ref am1, .ref am2, .ref am3, .int r155.1, .ref am4, .int r155.2.1, .int r155.2.2.1, .int r155.2.2.2.1, .int r155.2.2.2.2.1, .int r155.2.2.2.2.2.1, .int r155.2.2.2.2.2.2.1, .ref am5, .int r155.2.2.2.2.2.2.2.1, .ref am6, .ref am7, .ref am8, .ref am9, .ref am10, .ref am11, .ref am12, .int r155.2.2.2.2.2.2.2.2.1, .int r155.2.2.2.2.2.2.2.2.2.1, .int r155.2.2.2.2.2.2.2.2.2.2.1, .int r155.2.2.2.2.2.2.2.2.2.2.2.1, .int r155.2.2.2.2.2.2.2.2.2.2.2.2])), (am0, .inl (cy 0, 48, .inl u_s)), (am4, .inl (cy 0, 200, .inl u_tape))] := hD
          refine lv_aload_n hx hb dX7_guestHere_158 rfl (lv_at hl 0 rfl) ?_
          refine va_get (D := D) (ci := 7) (v := .ref am0) (C := RX7) (T := TX7) (N := 26) hx hb hts hin7 hown hK hP 0 rfl rfl 0 (by decide) fl7 (fun _ h9 => h9) rfl dX7_guestHere_159 ?_
          refine lv_iload_n hx hb dX7_guestHere_162 rfl (lv_at hl 2 rfl) ?_
          refine lv_iconst (v := (4 : Int32)) hx hb dX7_guestHere_163 (by decide) ?_
          refine lv_iadd hx hb dX7_guestHere_164 ?_
          refine lv_iconst (v := (1 : Int32)) hx hb dX7_guestHere_165 (by decide) ?_
          obtain ⟨h_166, hf⟩ := zg hf
          refine va_iast hx hb hK hP hD hS 1 0 rfl rfl h_166 dX7_guestHere_166 (fun H locs hP hD hS => ?_)
          have hP : va_P D vwCl [(am, .inr (7, [.ref am0, .ref am1, .ref am2, .ref am3, .int r155.1, .ref am4, .int r155.2.1, .int r155.2.2.1, .int r155.2.2.2.1, .int r155.2.2.2.2.1, .int r155.2.2.2.2.2.1, .int r155.2.2.2.2.2.2.1, .ref am5, .int r155.2.2.2.2.2.2.2.1, .ref am6, .ref am7, .ref am8, .ref am9, .ref am10, .ref am11, .ref am12, .int r155.2.2.2.2.2.2.2.2.1, .int r155.2.2.2.2.2.2.2.2.2.1, .int r155.2.2.2.2.2.2.2.2.2.2.1, .int r155.2.2.2.2.2.2.2.2.2.2.2.1, .int r155.2.2.2.2.2.2.2.2.2.2.2.2])), (am0, .inl (cy 0, 48, .inl (upd u_s (y2 + (4 : Int32)).toNatClampNeg (1 : Int32)))), (am4, .inl (cy 0, 200, .inl u_tape))] H := hP
          have hD : va_D A [(am, .inr (7, [.ref am0, .ref am1, .ref am2, .ref am3, .int r155.1, .ref am4, .int r155.2.1, .int r155.2.2.1, .int r155.2.2.2.1, .int r155.2.2.2.2.1, .int r155.2.2.2.2.2.1, .int r155.2.2.2.2.2.2.1, .ref am5, .int r155.2.2.2.2.2.2.2.1, .ref am6, .ref am7, .ref am8, .ref am9, .ref am10, .ref am11, .ref am12, .int r155.2.2.2.2.2.2.2.2.1, .int r155.2.2.2.2.2.2.2.2.2.1, .int r155.2.2.2.2.2.2.2.2.2.2.1, .int r155.2.2.2.2.2.2.2.2.2.2.2.1, .int r155.2.2.2.2.2.2.2.2.2.2.2.2])), (am0, .inl (cy 0, 48, .inl (upd u_s (y2 + (4 : Int32)).toNatClampNeg (1 : Int32)))), (am4, .inl (cy 0, 200, .inl u_tape))] := hD
          exact W.vret hx hb hr (fun t ht hW => hfin r155.1 r155.2.1 r155.2.2.1 r155.2.2.2.1 r155.2.2.2.2.1 r155.2.2.2.2.2.1 r155.2.2.2.2.2.2.1 r155.2.2.2.2.2.2.2.1 r155.2.2.2.2.2.2.2.2.1 r155.2.2.2.2.2.2.2.2.2.1 r155.2.2.2.2.2.2.2.2.2.2.1 r155.2.2.2.2.2.2.2.2.2.2.2.1 r155.2.2.2.2.2.2.2.2.2.2.2.2 (upd u_s (y2 + (4 : Int32)).toNatClampNeg (1 : Int32)) hf _ t ht hP (hS.F ht)) hS.2.2 dX7_guestHere_167
  have hB76 : ∀ (M_isHeld : Int32) (M_taped : Int32) (M_token : Int32) (M_from : Int32) (M_to : Int32) (M_value : Int32) (M_isWrong : Int32) (M_rowN : Int32) (M_ran : Int32) (M_actKind : Int32) (M_actN : Int32) (M_actA : Int32) (M_isParted : Int32) (u_s : (Nat → Int32)) (y2 : Int32) (w1 : Int32), fX7_guestHere_b76 n u_tape x1  (M_isHeld, M_taped, M_token, M_from, M_to, M_value, M_isWrong, M_rowN, M_ran, M_actKind, M_actN, M_actA, M_isParted) u_s y2 w1 = some z → ∀ (H : Heap) (locs : List Loc), va_P D vwCl [(am, .inr (7, [.ref am0, .ref am1, .ref am2, .ref am3, .int M_isHeld, .ref am4, .int M_taped, .int M_token, .int M_from, .int M_to, .int M_value, .int M_isWrong, .ref am5, .int M_rowN, .ref am6, .ref am7, .ref am8, .ref am9, .ref am10, .ref am11, .ref am12, .int M_ran, .int M_actKind, .int M_actN, .int M_actA, .int M_isParted])), (am0, .inl (cy 0, 48, .inl u_s)), (am4, .inl (cy 0, 200, .inl u_tape))] H → va_D A [(am, .inr (7, [.ref am0, .ref am1, .ref am2, .ref am3, .int M_isHeld, .ref am4, .int M_taped, .int M_token, .int M_from, .int M_to, .int M_value, .int M_isWrong, .ref am5, .int M_rowN, .ref am6, .ref am7, .ref am8, .ref am9, .ref am10, .ref am11, .ref am12, .int M_ran, .int M_actKind, .int M_actN, .int M_actA, .int M_isParted])), (am0, .inl (cy 0, 48, .inl u_s)), (am4, .inl (cy 0, 200, .inl u_tape))] → va_S A s.heap H locs → ∀ (ls : Array Slot), lv_has ls 3 [(0, .ref am), (1, .int x1), (2, .int y2)] → W p l e (headSpec wsX7_guestHere ({ frames := 4, cells := 0, slots := 0, locals := 86 })).room s m ([.ref am, .int x1] : List Value).toArray below meth c H locs 0 0 (MQ below (Qw (none) D [(am, .inr (7, [.ref am0, .ref am1, .ref am2, .ref am3, .int z.1.1, .ref am4, .int z.1.2.1, .int z.1.2.2.1, .int z.1.2.2.2.1, .int z.1.2.2.2.2.1, .int z.1.2.2.2.2.2.1, .int z.1.2.2.2.2.2.2.1, .ref am5, .int z.1.2.2.2.2.2.2.2.1, .ref am6, .ref am7, .ref am8, .ref am9, .ref am10, .ref am11, .ref am12, .int z.1.2.2.2.2.2.2.2.2.1, .int z.1.2.2.2.2.2.2.2.2.2.1, .int z.1.2.2.2.2.2.2.2.2.2.2.1, .int z.1.2.2.2.2.2.2.2.2.2.2.2.1, .int z.1.2.2.2.2.2.2.2.2.2.2.2.2])), (am0, .inl (cy 0, 48, .inl z.2)), (am4, .inl (cy 0, 200, .inl u_tape))] A) ([.ref am, .int x1] : List Value).toArray s 0 0 A) (F0 m 76 ls [.int w1, .ref am]) := by
    intro M_isHeld M_taped M_token M_from M_to M_value M_isWrong M_rowN M_ran M_actKind M_actN M_actA M_isParted u_s y2 w1 hf H locs hP hD hS ls hl
    have hf : ((fX7_numberTo n (M_isHeld, M_taped, M_token, M_from, M_to, M_value, M_isWrong, M_rowN, M_ran, M_actKind, M_actN, M_actA, M_isParted) u_s u_tape w1 (7 : Int32)).bind fun r78 => if r78.1.2.2.2.2.2.2.1 = 0 then ((fX7_isFour n r78.1 u_tape (103 : Int32) (111 : Int32) (110 : Int32) (101 : Int32)).bind fun r97 => if r97 = 0 then (fX7_guestHere_b116 n u_tape x1  r78.1 r78.2 y2) else ((fX7_nextToken n r78.1 u_tape).bind fun r104 => (fX7_numberTo n r104 r78.2 u_tape (y2 + (2 : Int32)) (99 : Int32)).bind fun r113 => fX7_guestHere_b116 n u_tape x1  r113.1 r113.2 y2)) else (fX7_guestHere_b116 n u_tape x1  r78.1 r78.2 y2)) = some z := hf
    refine lv_bipush (v := (7 : Int32)) hx hb dX7_guestHere_76 (by decide) ?_
    obtain ⟨r78, hc78, hf⟩ := zb hf
    refine zvw (o := none) (As := [.int w1, .int (7 : Int32)]) (rest := []) (stk := []) ⟨hx, hb, hml, hown, hts⟩ (mX7_numberTo l D cy st sk sv B am am0 am1 am2 am3 am4 am5 am6 am7 am8 am9 am10 am11 am12 _ n M_isHeld M_taped M_token M_from M_to M_value M_isWrong M_rowN M_ran M_actKind M_actN M_actA M_isParted u_s u_tape w1 (7 : Int32) r78 hc78) (cwV 2 hts gX7_guestHere_X7_numberTo rfl rfl rfl (by decide +kernel) ⟨Nat.le_of_ble_eq_true rfl, Nat.le_of_ble_eq_true rfl⟩) hG hS hAB hA hP hD [0, 1, 2] (by decide) rfl rfl rfl rfl 0 7 rfl rfl rfl rfl hl.1 rfl (Nat.le_of_ble_eq_true rfl) dX7_guestHere_78 rfl (fun H locs hP hD hS => ?_)
    have hP : va_P D vwCl [(am, .inr (7, [.ref am0, .ref am1, .ref am2, .ref am3, .int r78.1.1, .ref am4, .int r78.1.2.1, .int r78.1.2.2.1, .int r78.1.2.2.2.1, .int r78.1.2.2.2.2.1, .int r78.1.2.2.2.2.2.1, .int r78.1.2.2.2.2.2.2.1, .ref am5, .int r78.1.2.2.2.2.2.2.2.1, .ref am6, .ref am7, .ref am8, .ref am9, .ref am10, .ref am11, .ref am12, .int r78.1.2.2.2.2.2.2.2.2.1, .int r78.1.2.2.2.2.2.2.2.2.2.1, .int r78.1.2.2.2.2.2.2.2.2.2.2.1, .int r78.1.2.2.2.2.2.2.2.2.2.2.2.1, .int r78.1.2.2.2.2.2.2.2.2.2.2.2.2])), (am0, .inl (cy 0, 48, .inl r78.2)), (am4, .inl (cy 0, 200, .inl u_tape))] H := hP
    have hD : va_D A [(am, .inr (7, [.ref am0, .ref am1, .ref am2, .ref am3, .int r78.1.1, .ref am4, .int r78.1.2.1, .int r78.1.2.2.1, .int r78.1.2.2.2.1, .int r78.1.2.2.2.2.1, .int r78.1.2.2.2.2.2.1, .int r78.1.2.2.2.2.2.2.1, .ref am5, .int r78.1.2.2.2.2.2.2.2.1, .ref am6, .ref am7, .ref am8, .ref am9, .ref am10, .ref am11, .ref am12, .int r78.1.2.2.2.2.2.2.2.2.1, .int r78.1.2.2.2.2.2.2.2.2.2.1, .int r78.1.2.2.2.2.2.2.2.2.2.2.1, .int r78.1.2.2.2.2.2.2.2.2.2.2.2.1, .int r78.1.2.2.2.2.2.2.2.2.2.2.2.2])), (am0, .inl (cy 0, 48, .inl r78.2)), (am4, .inl (cy 0, 200, .inl u_tape))] := hD
    refine lv_aload_n hx hb dX7_guestHere_81 rfl (lv_at hl 0 rfl) ?_
    refine va_get (D := D) (ci := 7) (v := .int r78.1.2.2.2.2.2.2.1) (C := RX7) (T := TX7) (N := 26) hx hb hts hin7 hown hK hP 0 rfl rfl 11 (by decide) fl87 (fun _ h9 => h9) rfl dX7_guestHere_82 ?_
    refine lv_if_ne (tgt := 116) hx hb dX7_guestHere_85 (by decide) (fun c_85 => ?_) (fun c_85 => ?_)
    · have hf := zn hf c_85
      exact hB116 r78.1.1 r78.1.2.1 r78.1.2.2.1 r78.1.2.2.2.1 r78.1.2.2.2.2.1 r78.1.2.2.2.2.2.1 r78.1.2.2.2.2.2.2.1 r78.1.2.2.2.2.2.2.2.1 r78.1.2.2.2.2.2.2.2.2.1 r78.1.2.2.2.2.2.2.2.2.2.1 r78.1.2.2.2.2.2.2.2.2.2.2.1 r78.1.2.2.2.2.2.2.2.2.2.2.2.1 r78.1.2.2.2.2.2.2.2.2.2.2.2.2 r78.2 y2 hf _ _ hP hD hS _ (lv_sub hl [0, 1, 2] rfl)
    · have hf := zp hf c_85
      refine lv_aload_n hx hb dX7_guestHere_88 rfl (lv_at hl 0 rfl) ?_
      refine lv_bipush (v := (103 : Int32)) hx hb dX7_guestHere_89 (by decide) ?_
      refine lv_bipush (v := (111 : Int32)) hx hb dX7_guestHere_91 (by decide) ?_
      refine lv_bipush (v := (110 : Int32)) hx hb dX7_guestHere_93 (by decide) ?_
      refine lv_bipush (v := (101 : Int32)) hx hb dX7_guestHere_95 (by decide) ?_
      obtain ⟨r97, hc97, hf⟩ := zb hf
      refine zvr (o := some (.int r97)) (As := [.int (103 : Int32), .int (111 : Int32), .int (110 : Int32), .int (101 : Int32)]) (rest := []) (stk := [.int r97]) ⟨hx, hb, hml, hown, hts⟩ (mX7_isFour l D cy st sk sv B am am0 am1 am2 am3 am4 am5 am6 am7 am8 am9 am10 am11 am12 n r78.1.1 r78.1.2.1 r78.1.2.2.1 r78.1.2.2.2.1 r78.1.2.2.2.2.1 r78.1.2.2.2.2.2.1 r78.1.2.2.2.2.2.2.1 r78.1.2.2.2.2.2.2.2.1 r78.1.2.2.2.2.2.2.2.2.1 r78.1.2.2.2.2.2.2.2.2.2.1 r78.1.2.2.2.2.2.2.2.2.2.2.1 r78.1.2.2.2.2.2.2.2.2.2.2.2.1 r78.1.2.2.2.2.2.2.2.2.2.2.2.2 u_tape (103 : Int32) (111 : Int32) (110 : Int32) (101 : Int32) r97 hc97) (cwV 4 hts gX7_guestHere_X7_isFour rfl rfl rfl (by decide +kernel) ⟨Nat.le_of_ble_eq_true rfl, Nat.le_of_ble_eq_true rfl⟩) hG hS hAB hP [0, 2] rfl 0 7 rfl rfl rfl rfl hl.1 rfl (Nat.le_of_ble_eq_true rfl) dX7_guestHere_97 rfl ?_
      refine lv_if_eq (tgt := 116) hx hb dX7_guestHere_100 (by decide) (fun c_100 => ?_) (fun c_100 => ?_)
      · have hf := zp hf c_100
        exact hB116 r78.1.1 r78.1.2.1 r78.1.2.2.1 r78.1.2.2.2.1 r78.1.2.2.2.2.1 r78.1.2.2.2.2.2.1 r78.1.2.2.2.2.2.2.1 r78.1.2.2.2.2.2.2.2.1 r78.1.2.2.2.2.2.2.2.2.1 r78.1.2.2.2.2.2.2.2.2.2.1 r78.1.2.2.2.2.2.2.2.2.2.2.1 r78.1.2.2.2.2.2.2.2.2.2.2.2.1 r78.1.2.2.2.2.2.2.2.2.2.2.2.2 r78.2 y2 hf _ _ hP hD hS _ (lv_sub hl [0, 1, 2] rfl)
      · have hf := zn hf c_100
        refine lv_aload_n hx hb dX7_guestHere_103 rfl (lv_at hl 0 rfl) ?_
        obtain ⟨r104, hc104, hf⟩ := zb hf
        refine zvw (o := none) (As := []) (rest := []) (stk := []) ⟨hx, hb, hml, hown, hts⟩ (mX7_nextToken l D cy st sk sv B am am0 am1 am2 am3 am4 am5 am6 am7 am8 am9 am10 am11 am12 _ n r78.1.1 r78.1.2.1 r78.1.2.2.1 r78.1.2.2.2.1 r78.1.2.2.2.2.1 r78.1.2.2.2.2.2.1 r78.1.2.2.2.2.2.2.1 r78.1.2.2.2.2.2.2.2.1 r78.1.2.2.2.2.2.2.2.2.1 r78.1.2.2.2.2.2.2.2.2.2.1 r78.1.2.2.2.2.2.2.2.2.2.2.1 r78.1.2.2.2.2.2.2.2.2.2.2.2.1 r78.1.2.2.2.2.2.2.2.2.2.2.2.2 u_tape r104 hc104) (cwV 0 hts gX7_guestHere_X7_nextToken rfl rfl rfl (by decide +kernel) ⟨Nat.le_of_ble_eq_true rfl, Nat.le_of_ble_eq_true rfl⟩) hG hS hAB hA hP hD [0, 2] (by decide) rfl rfl rfl rfl 0 7 rfl rfl rfl rfl hl.1 rfl (Nat.le_of_ble_eq_true rfl) dX7_guestHere_104 rfl (fun H locs hP hD hS => ?_)
        have hP : va_P D vwCl [(am, .inr (7, [.ref am0, .ref am1, .ref am2, .ref am3, .int r104.1, .ref am4, .int r104.2.1, .int r104.2.2.1, .int r104.2.2.2.1, .int r104.2.2.2.2.1, .int r104.2.2.2.2.2.1, .int r104.2.2.2.2.2.2.1, .ref am5, .int r104.2.2.2.2.2.2.2.1, .ref am6, .ref am7, .ref am8, .ref am9, .ref am10, .ref am11, .ref am12, .int r104.2.2.2.2.2.2.2.2.1, .int r104.2.2.2.2.2.2.2.2.2.1, .int r104.2.2.2.2.2.2.2.2.2.2.1, .int r104.2.2.2.2.2.2.2.2.2.2.2.1, .int r104.2.2.2.2.2.2.2.2.2.2.2.2])), (am0, .inl (cy 0, 48, .inl r78.2)), (am4, .inl (cy 0, 200, .inl u_tape))] H := hP
        have hD : va_D A [(am, .inr (7, [.ref am0, .ref am1, .ref am2, .ref am3, .int r104.1, .ref am4, .int r104.2.1, .int r104.2.2.1, .int r104.2.2.2.1, .int r104.2.2.2.2.1, .int r104.2.2.2.2.2.1, .int r104.2.2.2.2.2.2.1, .ref am5, .int r104.2.2.2.2.2.2.2.1, .ref am6, .ref am7, .ref am8, .ref am9, .ref am10, .ref am11, .ref am12, .int r104.2.2.2.2.2.2.2.2.1, .int r104.2.2.2.2.2.2.2.2.2.1, .int r104.2.2.2.2.2.2.2.2.2.2.1, .int r104.2.2.2.2.2.2.2.2.2.2.2.1, .int r104.2.2.2.2.2.2.2.2.2.2.2.2])), (am0, .inl (cy 0, 48, .inl r78.2)), (am4, .inl (cy 0, 200, .inl u_tape))] := hD
        refine lv_aload_n hx hb dX7_guestHere_107 rfl (lv_at hl 0 rfl) ?_
        refine lv_iload_n hx hb dX7_guestHere_108 rfl (lv_at hl 2 rfl) ?_
        refine lv_iconst (v := (2 : Int32)) hx hb dX7_guestHere_109 (by decide) ?_
        refine lv_iadd hx hb dX7_guestHere_110 ?_
        refine lv_bipush (v := (99 : Int32)) hx hb dX7_guestHere_111 (by decide) ?_
        obtain ⟨r113, hc113, hf⟩ := zb hf
        refine zvw (o := none) (As := [.int (y2 + (2 : Int32)), .int (99 : Int32)]) (rest := []) (stk := []) ⟨hx, hb, hml, hown, hts⟩ (mX7_numberTo l D cy st sk sv B am am0 am1 am2 am3 am4 am5 am6 am7 am8 am9 am10 am11 am12 _ n r104.1 r104.2.1 r104.2.2.1 r104.2.2.2.1 r104.2.2.2.2.1 r104.2.2.2.2.2.1 r104.2.2.2.2.2.2.1 r104.2.2.2.2.2.2.2.1 r104.2.2.2.2.2.2.2.2.1 r104.2.2.2.2.2.2.2.2.2.1 r104.2.2.2.2.2.2.2.2.2.2.1 r104.2.2.2.2.2.2.2.2.2.2.2.1 r104.2.2.2.2.2.2.2.2.2.2.2.2 r78.2 u_tape (y2 + (2 : Int32)) (99 : Int32) r113 hc113) (cwV 2 hts gX7_guestHere_X7_numberTo rfl rfl rfl (by decide +kernel) ⟨Nat.le_of_ble_eq_true rfl, Nat.le_of_ble_eq_true rfl⟩) hG hS hAB hA hP hD [0, 1, 2] (by decide) rfl rfl rfl rfl 0 7 rfl rfl rfl rfl hl.1 rfl (Nat.le_of_ble_eq_true rfl) dX7_guestHere_113 rfl (fun H locs hP hD hS => ?_)
        have hP : va_P D vwCl [(am, .inr (7, [.ref am0, .ref am1, .ref am2, .ref am3, .int r113.1.1, .ref am4, .int r113.1.2.1, .int r113.1.2.2.1, .int r113.1.2.2.2.1, .int r113.1.2.2.2.2.1, .int r113.1.2.2.2.2.2.1, .int r113.1.2.2.2.2.2.2.1, .ref am5, .int r113.1.2.2.2.2.2.2.2.1, .ref am6, .ref am7, .ref am8, .ref am9, .ref am10, .ref am11, .ref am12, .int r113.1.2.2.2.2.2.2.2.2.1, .int r113.1.2.2.2.2.2.2.2.2.2.1, .int r113.1.2.2.2.2.2.2.2.2.2.2.1, .int r113.1.2.2.2.2.2.2.2.2.2.2.2.1, .int r113.1.2.2.2.2.2.2.2.2.2.2.2.2])), (am0, .inl (cy 0, 48, .inl r113.2)), (am4, .inl (cy 0, 200, .inl u_tape))] H := hP
        have hD : va_D A [(am, .inr (7, [.ref am0, .ref am1, .ref am2, .ref am3, .int r113.1.1, .ref am4, .int r113.1.2.1, .int r113.1.2.2.1, .int r113.1.2.2.2.1, .int r113.1.2.2.2.2.1, .int r113.1.2.2.2.2.2.1, .int r113.1.2.2.2.2.2.2.1, .ref am5, .int r113.1.2.2.2.2.2.2.2.1, .ref am6, .ref am7, .ref am8, .ref am9, .ref am10, .ref am11, .ref am12, .int r113.1.2.2.2.2.2.2.2.2.1, .int r113.1.2.2.2.2.2.2.2.2.2.1, .int r113.1.2.2.2.2.2.2.2.2.2.2.1, .int r113.1.2.2.2.2.2.2.2.2.2.2.2.1, .int r113.1.2.2.2.2.2.2.2.2.2.2.2.2])), (am0, .inl (cy 0, 48, .inl r113.2)), (am4, .inl (cy 0, 200, .inl u_tape))] := hD
        exact hB116 r113.1.1 r113.1.2.1 r113.1.2.2.1 r113.1.2.2.2.1 r113.1.2.2.2.2.1 r113.1.2.2.2.2.2.1 r113.1.2.2.2.2.2.2.1 r113.1.2.2.2.2.2.2.2.1 r113.1.2.2.2.2.2.2.2.2.1 r113.1.2.2.2.2.2.2.2.2.2.1 r113.1.2.2.2.2.2.2.2.2.2.2.1 r113.1.2.2.2.2.2.2.2.2.2.2.2.1 r113.1.2.2.2.2.2.2.2.2.2.2.2.2 r113.2 y2 hf _ _ hP hD hS _ (lv_sub hl [0, 1, 2] rfl)
  have hB61 : ∀ (M_isHeld : Int32) (M_taped : Int32) (M_token : Int32) (M_from : Int32) (M_to : Int32) (M_value : Int32) (M_isWrong : Int32) (M_rowN : Int32) (M_ran : Int32) (M_actKind : Int32) (M_actN : Int32) (M_actA : Int32) (M_isParted : Int32) (u_s : (Nat → Int32)) (y2 : Int32), fX7_guestHere_b61 n u_tape x1  (M_isHeld, M_taped, M_token, M_from, M_to, M_value, M_isWrong, M_rowN, M_ran, M_actKind, M_actN, M_actA, M_isParted) u_s y2 = some z → ∀ (H : Heap) (locs : List Loc), va_P D vwCl [(am, .inr (7, [.ref am0, .ref am1, .ref am2, .ref am3, .int M_isHeld, .ref am4, .int M_taped, .int M_token, .int M_from, .int M_to, .int M_value, .int M_isWrong, .ref am5, .int M_rowN, .ref am6, .ref am7, .ref am8, .ref am9, .ref am10, .ref am11, .ref am12, .int M_ran, .int M_actKind, .int M_actN, .int M_actA, .int M_isParted])), (am0, .inl (cy 0, 48, .inl u_s)), (am4, .inl (cy 0, 200, .inl u_tape))] H → va_D A [(am, .inr (7, [.ref am0, .ref am1, .ref am2, .ref am3, .int M_isHeld, .ref am4, .int M_taped, .int M_token, .int M_from, .int M_to, .int M_value, .int M_isWrong, .ref am5, .int M_rowN, .ref am6, .ref am7, .ref am8, .ref am9, .ref am10, .ref am11, .ref am12, .int M_ran, .int M_actKind, .int M_actN, .int M_actA, .int M_isParted])), (am0, .inl (cy 0, 48, .inl u_s)), (am4, .inl (cy 0, 200, .inl u_tape))] → va_S A s.heap H locs → ∀ (ls : Array Slot), lv_has ls 3 [(0, .ref am), (1, .int x1), (2, .int y2)] → W p l e (headSpec wsX7_guestHere ({ frames := 4, cells := 0, slots := 0, locals := 86 })).room s m ([.ref am, .int x1] : List Value).toArray below meth c H locs 0 0 (MQ below (Qw (none) D [(am, .inr (7, [.ref am0, .ref am1, .ref am2, .ref am3, .int z.1.1, .ref am4, .int z.1.2.1, .int z.1.2.2.1, .int z.1.2.2.2.1, .int z.1.2.2.2.2.1, .int z.1.2.2.2.2.2.1, .int z.1.2.2.2.2.2.2.1, .ref am5, .int z.1.2.2.2.2.2.2.2.1, .ref am6, .ref am7, .ref am8, .ref am9, .ref am10, .ref am11, .ref am12, .int z.1.2.2.2.2.2.2.2.2.1, .int z.1.2.2.2.2.2.2.2.2.2.1, .int z.1.2.2.2.2.2.2.2.2.2.2.1, .int z.1.2.2.2.2.2.2.2.2.2.2.2.1, .int z.1.2.2.2.2.2.2.2.2.2.2.2.2])), (am0, .inl (cy 0, 48, .inl z.2)), (am4, .inl (cy 0, 200, .inl u_tape))] A) ([.ref am, .int x1] : List Value).toArray s 0 0 A) (F0 m 61 ls []) := by
    intro M_isHeld M_taped M_token M_from M_to M_value M_isWrong M_rowN M_ran M_actKind M_actN M_actA M_isParted u_s y2 hf H locs hP hD hS ls hl
    have hf : (if M_isWrong = 0 then (fX7_guestHere_b76 n u_tape x1  (M_isHeld, M_taped, M_token, M_from, M_to, M_value, M_isWrong, M_rowN, M_ran, M_actKind, M_actN, M_actA, M_isParted) u_s y2 (y2 + (1 : Int32))) else (fX7_guestHere_b76 n u_tape x1  (M_isHeld, M_taped, M_token, M_from, M_to, M_value, M_isWrong, M_rowN, M_ran, M_actKind, M_actN, M_actA, M_isParted) u_s y2 (0 : Int32))) = some z := hf
    refine lv_aload_n hx hb dX7_guestHere_61 rfl (lv_at hl 0 rfl) ?_
    refine lv_aload_n hx hb dX7_guestHere_62 rfl (lv_at hl 0 rfl) ?_
    refine va_get (D := D) (ci := 7) (v := .int M_isWrong) (C := RX7) (T := TX7) (N := 26) hx hb hts hin7 hown hK hP 0 rfl rfl 11 (by decide) fl87 (fun _ h9 => h9) rfl dX7_guestHere_63 ?_
    refine lv_if_eq (tgt := 73) hx hb dX7_guestHere_66 (by decide) (fun c_66 => ?_) (fun c_66 => ?_)
    · have hf := zp hf c_66
      refine lv_iload_n hx hb dX7_guestHere_73 rfl (lv_at hl 2 rfl) ?_
      refine lv_iconst (v := (1 : Int32)) hx hb dX7_guestHere_74 (by decide) ?_
      refine lv_iadd hx hb dX7_guestHere_75 ?_
      exact hB76 M_isHeld M_taped M_token M_from M_to M_value M_isWrong M_rowN M_ran M_actKind M_actN M_actA M_isParted u_s y2 (y2 + (1 : Int32)) hf _ _ hP hD hS _ (lv_sub hl [0, 1, 2] rfl)
    · have hf := zn hf c_66
      refine lv_iconst (v := (0 : Int32)) hx hb dX7_guestHere_69 (by decide) ?_
      refine lv_goto (tgt := 76) hx hb dX7_guestHere_70 (by decide) ?_
      exact hB76 M_isHeld M_taped M_token M_from M_to M_value M_isWrong M_rowN M_ran M_actKind M_actN M_actA M_isParted u_s y2 (0 : Int32) hf _ _ hP hD hS _ (lv_sub hl [0, 1, 2] rfl)
  have hB29 : ∀ (M_isHeld : Int32) (M_taped : Int32) (M_token : Int32) (M_from : Int32) (M_to : Int32) (M_value : Int32) (M_isWrong : Int32) (M_rowN : Int32) (M_ran : Int32) (M_actKind : Int32) (M_actN : Int32) (M_actA : Int32) (M_isParted : Int32) (u_s : (Nat → Int32)) (y2 : Int32) (w1 : Int32), fX7_guestHere_b29 n u_tape x1  (M_isHeld, M_taped, M_token, M_from, M_to, M_value, M_isWrong, M_rowN, M_ran, M_actKind, M_actN, M_actA, M_isParted) u_s y2 w1 = some z → ∀ (H : Heap) (locs : List Loc), va_P D vwCl [(am, .inr (7, [.ref am0, .ref am1, .ref am2, .ref am3, .int M_isHeld, .ref am4, .int M_taped, .int M_token, .int M_from, .int M_to, .int M_value, .int M_isWrong, .ref am5, .int M_rowN, .ref am6, .ref am7, .ref am8, .ref am9, .ref am10, .ref am11, .ref am12, .int M_ran, .int M_actKind, .int M_actN, .int M_actA, .int M_isParted])), (am0, .inl (cy 0, 48, .inl u_s)), (am4, .inl (cy 0, 200, .inl u_tape))] H → va_D A [(am, .inr (7, [.ref am0, .ref am1, .ref am2, .ref am3, .int M_isHeld, .ref am4, .int M_taped, .int M_token, .int M_from, .int M_to, .int M_value, .int M_isWrong, .ref am5, .int M_rowN, .ref am6, .ref am7, .ref am8, .ref am9, .ref am10, .ref am11, .ref am12, .int M_ran, .int M_actKind, .int M_actN, .int M_actA, .int M_isParted])), (am0, .inl (cy 0, 48, .inl u_s)), (am4, .inl (cy 0, 200, .inl u_tape))] → va_S A s.heap H locs → ∀ (ls : Array Slot), lv_has ls 3 [(0, .ref am), (1, .int x1), (2, .int y2)] → W p l e (headSpec wsX7_guestHere ({ frames := 4, cells := 0, slots := 0, locals := 86 })).room s m ([.ref am, .int x1] : List Value).toArray below meth c H locs 0 0 (MQ below (Qw (none) D [(am, .inr (7, [.ref am0, .ref am1, .ref am2, .ref am3, .int z.1.1, .ref am4, .int z.1.2.1, .int z.1.2.2.1, .int z.1.2.2.2.1, .int z.1.2.2.2.2.1, .int z.1.2.2.2.2.2.1, .int z.1.2.2.2.2.2.2.1, .ref am5, .int z.1.2.2.2.2.2.2.2.1, .ref am6, .ref am7, .ref am8, .ref am9, .ref am10, .ref am11, .ref am12, .int z.1.2.2.2.2.2.2.2.2.1, .int z.1.2.2.2.2.2.2.2.2.2.1, .int z.1.2.2.2.2.2.2.2.2.2.2.1, .int z.1.2.2.2.2.2.2.2.2.2.2.2.1, .int z.1.2.2.2.2.2.2.2.2.2.2.2.2])), (am0, .inl (cy 0, 48, .inl z.2)), (am4, .inl (cy 0, 200, .inl u_tape))] A) ([.ref am, .int x1] : List Value).toArray s 0 0 A) (F0 m 29 ls [.int w1, .ref am]) := by
    intro M_isHeld M_taped M_token M_from M_to M_value M_isWrong M_rowN M_ran M_actKind M_actN M_actA M_isParted u_s y2 w1 hf H locs hP hD hS ls hl
    have hf : ((fX7_needs n (M_isHeld, M_taped, M_token, M_from, M_to, M_value, M_isWrong, M_rowN, M_ran, M_actKind, M_actN, M_actA, M_isParted) u_tape w1).bind fun r29 => (fX7_isFour n r29 u_tape (119 : Int32) (105 : Int32) (116 : Int32) (104 : Int32)).bind fun r42 => (fX7_needs n r29 u_tape r42).bind fun r45 => if r45.2.2.2.2.2.2.1 = 0 then ((fX7_comes n r45 u_s x1 (0 : Int32)).bind fun r58 => fX7_guestHere_b61 n u_tape x1  r45 r58 y2) else (fX7_guestHere_b61 n u_tape x1  r45 u_s y2)) = some z := hf
    obtain ⟨r29, hc29, hf⟩ := zb hf
    refine zvw (o := none) (As := [.int w1]) (rest := []) (stk := []) ⟨hx, hb, hml, hown, hts⟩ (mX7_needs l D cy st sk sv B am am0 am1 am2 am3 am4 am5 am6 am7 am8 am9 am10 am11 am12 _ n M_isHeld M_taped M_token M_from M_to M_value M_isWrong M_rowN M_ran M_actKind M_actN M_actA M_isParted u_tape w1 r29 hc29) (cwV 1 hts gX7_guestHere_X7_needs rfl rfl rfl (by decide +kernel) ⟨Nat.le_of_ble_eq_true rfl, Nat.le_of_ble_eq_true rfl⟩) hG hS hAB hA hP hD [0, 2] (by decide) rfl rfl rfl rfl 0 7 rfl rfl rfl rfl hl.1 rfl (Nat.le_of_ble_eq_true rfl) dX7_guestHere_29 rfl (fun H locs hP hD hS => ?_)
    have hP : va_P D vwCl [(am, .inr (7, [.ref am0, .ref am1, .ref am2, .ref am3, .int r29.1, .ref am4, .int r29.2.1, .int r29.2.2.1, .int r29.2.2.2.1, .int r29.2.2.2.2.1, .int r29.2.2.2.2.2.1, .int r29.2.2.2.2.2.2.1, .ref am5, .int r29.2.2.2.2.2.2.2.1, .ref am6, .ref am7, .ref am8, .ref am9, .ref am10, .ref am11, .ref am12, .int r29.2.2.2.2.2.2.2.2.1, .int r29.2.2.2.2.2.2.2.2.2.1, .int r29.2.2.2.2.2.2.2.2.2.2.1, .int r29.2.2.2.2.2.2.2.2.2.2.2.1, .int r29.2.2.2.2.2.2.2.2.2.2.2.2])), (am0, .inl (cy 0, 48, .inl u_s)), (am4, .inl (cy 0, 200, .inl u_tape))] H := hP
    have hD : va_D A [(am, .inr (7, [.ref am0, .ref am1, .ref am2, .ref am3, .int r29.1, .ref am4, .int r29.2.1, .int r29.2.2.1, .int r29.2.2.2.1, .int r29.2.2.2.2.1, .int r29.2.2.2.2.2.1, .int r29.2.2.2.2.2.2.1, .ref am5, .int r29.2.2.2.2.2.2.2.1, .ref am6, .ref am7, .ref am8, .ref am9, .ref am10, .ref am11, .ref am12, .int r29.2.2.2.2.2.2.2.2.1, .int r29.2.2.2.2.2.2.2.2.2.1, .int r29.2.2.2.2.2.2.2.2.2.2.1, .int r29.2.2.2.2.2.2.2.2.2.2.2.1, .int r29.2.2.2.2.2.2.2.2.2.2.2.2])), (am0, .inl (cy 0, 48, .inl u_s)), (am4, .inl (cy 0, 200, .inl u_tape))] := hD
    refine lv_aload_n hx hb dX7_guestHere_32 rfl (lv_at hl 0 rfl) ?_
    refine lv_aload_n hx hb dX7_guestHere_33 rfl (lv_at hl 0 rfl) ?_
    refine lv_bipush (v := (119 : Int32)) hx hb dX7_guestHere_34 (by decide) ?_
    refine lv_bipush (v := (105 : Int32)) hx hb dX7_guestHere_36 (by decide) ?_
    refine lv_bipush (v := (116 : Int32)) hx hb dX7_guestHere_38 (by decide) ?_
    refine lv_bipush (v := (104 : Int32)) hx hb dX7_guestHere_40 (by decide) ?_
    obtain ⟨r42, hc42, hf⟩ := zb hf
    refine zvr (o := some (.int r42)) (As := [.int (119 : Int32), .int (105 : Int32), .int (116 : Int32), .int (104 : Int32)]) (rest := [.ref am]) (stk := [.int r42, .ref am]) ⟨hx, hb, hml, hown, hts⟩ (mX7_isFour l D cy st sk sv B am am0 am1 am2 am3 am4 am5 am6 am7 am8 am9 am10 am11 am12 n r29.1 r29.2.1 r29.2.2.1 r29.2.2.2.1 r29.2.2.2.2.1 r29.2.2.2.2.2.1 r29.2.2.2.2.2.2.1 r29.2.2.2.2.2.2.2.1 r29.2.2.2.2.2.2.2.2.1 r29.2.2.2.2.2.2.2.2.2.1 r29.2.2.2.2.2.2.2.2.2.2.1 r29.2.2.2.2.2.2.2.2.2.2.2.1 r29.2.2.2.2.2.2.2.2.2.2.2.2 u_tape (119 : Int32) (105 : Int32) (116 : Int32) (104 : Int32) r42 hc42) (cwV 4 hts gX7_guestHere_X7_isFour rfl rfl rfl (by decide +kernel) ⟨Nat.le_of_ble_eq_true rfl, Nat.le_of_ble_eq_true rfl⟩) hG hS hAB hP [0, 2] rfl 0 7 rfl rfl rfl rfl hl.1 rfl (Nat.le_of_ble_eq_true rfl) dX7_guestHere_42 rfl ?_
    obtain ⟨r45, hc45, hf⟩ := zb hf
    refine zvw (o := none) (As := [.int r42]) (rest := []) (stk := []) ⟨hx, hb, hml, hown, hts⟩ (mX7_needs l D cy st sk sv B am am0 am1 am2 am3 am4 am5 am6 am7 am8 am9 am10 am11 am12 _ n r29.1 r29.2.1 r29.2.2.1 r29.2.2.2.1 r29.2.2.2.2.1 r29.2.2.2.2.2.1 r29.2.2.2.2.2.2.1 r29.2.2.2.2.2.2.2.1 r29.2.2.2.2.2.2.2.2.1 r29.2.2.2.2.2.2.2.2.2.1 r29.2.2.2.2.2.2.2.2.2.2.1 r29.2.2.2.2.2.2.2.2.2.2.2.1 r29.2.2.2.2.2.2.2.2.2.2.2.2 u_tape r42 r45 hc45) (cwV 1 hts gX7_guestHere_X7_needs rfl rfl rfl (by decide +kernel) ⟨Nat.le_of_ble_eq_true rfl, Nat.le_of_ble_eq_true rfl⟩) hG hS hAB hA hP hD [0, 2] (by decide) rfl rfl rfl rfl 0 7 rfl rfl rfl rfl hl.1 rfl (Nat.le_of_ble_eq_true rfl) dX7_guestHere_45 rfl (fun H locs hP hD hS => ?_)
    have hP : va_P D vwCl [(am, .inr (7, [.ref am0, .ref am1, .ref am2, .ref am3, .int r45.1, .ref am4, .int r45.2.1, .int r45.2.2.1, .int r45.2.2.2.1, .int r45.2.2.2.2.1, .int r45.2.2.2.2.2.1, .int r45.2.2.2.2.2.2.1, .ref am5, .int r45.2.2.2.2.2.2.2.1, .ref am6, .ref am7, .ref am8, .ref am9, .ref am10, .ref am11, .ref am12, .int r45.2.2.2.2.2.2.2.2.1, .int r45.2.2.2.2.2.2.2.2.2.1, .int r45.2.2.2.2.2.2.2.2.2.2.1, .int r45.2.2.2.2.2.2.2.2.2.2.2.1, .int r45.2.2.2.2.2.2.2.2.2.2.2.2])), (am0, .inl (cy 0, 48, .inl u_s)), (am4, .inl (cy 0, 200, .inl u_tape))] H := hP
    have hD : va_D A [(am, .inr (7, [.ref am0, .ref am1, .ref am2, .ref am3, .int r45.1, .ref am4, .int r45.2.1, .int r45.2.2.1, .int r45.2.2.2.1, .int r45.2.2.2.2.1, .int r45.2.2.2.2.2.1, .int r45.2.2.2.2.2.2.1, .ref am5, .int r45.2.2.2.2.2.2.2.1, .ref am6, .ref am7, .ref am8, .ref am9, .ref am10, .ref am11, .ref am12, .int r45.2.2.2.2.2.2.2.2.1, .int r45.2.2.2.2.2.2.2.2.2.1, .int r45.2.2.2.2.2.2.2.2.2.2.1, .int r45.2.2.2.2.2.2.2.2.2.2.2.1, .int r45.2.2.2.2.2.2.2.2.2.2.2.2])), (am0, .inl (cy 0, 48, .inl u_s)), (am4, .inl (cy 0, 200, .inl u_tape))] := hD
    refine lv_aload_n hx hb dX7_guestHere_48 rfl (lv_at hl 0 rfl) ?_
    refine va_get (D := D) (ci := 7) (v := .int r45.2.2.2.2.2.2.1) (C := RX7) (T := TX7) (N := 26) hx hb hts hin7 hown hK hP 0 rfl rfl 11 (by decide) fl87 (fun _ h9 => h9) rfl dX7_guestHere_49 ?_
    refine lv_if_ne (tgt := 61) hx hb dX7_guestHere_52 (by decide) (fun c_52 => ?_) (fun c_52 => ?_)
    · have hf := zn hf c_52
      exact hB61 r45.1 r45.2.1 r45.2.2.1 r45.2.2.2.1 r45.2.2.2.2.1 r45.2.2.2.2.2.1 r45.2.2.2.2.2.2.1 r45.2.2.2.2.2.2.2.1 r45.2.2.2.2.2.2.2.2.1 r45.2.2.2.2.2.2.2.2.2.1 r45.2.2.2.2.2.2.2.2.2.2.1 r45.2.2.2.2.2.2.2.2.2.2.2.1 r45.2.2.2.2.2.2.2.2.2.2.2.2 u_s y2 hf _ _ hP hD hS _ (lv_sub hl [0, 1, 2] rfl)
    · have hf := zp hf c_52
      refine lv_aload_n hx hb dX7_guestHere_55 rfl (lv_at hl 0 rfl) ?_
      refine lv_iload_n hx hb dX7_guestHere_56 rfl (lv_at hl 1 rfl) ?_
      refine lv_iconst (v := (0 : Int32)) hx hb dX7_guestHere_57 (by decide) ?_
      obtain ⟨r58, hc58, hf⟩ := zb hf
      refine zvw (o := none) (As := [.int x1, .int (0 : Int32)]) (rest := []) (stk := []) ⟨hx, hb, hml, hown, hts⟩ (mX7_comes l D cy st sk sv B am am0 am1 am2 am3 am4 am5 am6 am7 am8 am9 am10 am11 am12 _ n r45.1 r45.2.1 r45.2.2.1 r45.2.2.2.1 r45.2.2.2.2.1 r45.2.2.2.2.2.1 r45.2.2.2.2.2.2.1 r45.2.2.2.2.2.2.2.1 r45.2.2.2.2.2.2.2.2.1 r45.2.2.2.2.2.2.2.2.2.1 r45.2.2.2.2.2.2.2.2.2.2.1 r45.2.2.2.2.2.2.2.2.2.2.2.1 r45.2.2.2.2.2.2.2.2.2.2.2.2 u_s x1 (0 : Int32) r58 hc58) (cwV 2 hts gX7_guestHere_X7_comes rfl rfl rfl (by decide +kernel) ⟨Nat.le_of_ble_eq_true rfl, Nat.le_of_ble_eq_true rfl⟩) hG hS hAB hA hP hD [0, 1] (by decide) rfl rfl rfl rfl 0 7 rfl rfl rfl rfl hl.1 rfl (Nat.le_of_ble_eq_true rfl) dX7_guestHere_58 rfl (fun H locs hP hD hS => ?_)
      have hP : va_P D vwCl [(am, .inr (7, [.ref am0, .ref am1, .ref am2, .ref am3, .int r45.1, .ref am4, .int r45.2.1, .int r45.2.2.1, .int r45.2.2.2.1, .int r45.2.2.2.2.1, .int r45.2.2.2.2.2.1, .int r45.2.2.2.2.2.2.1, .ref am5, .int r45.2.2.2.2.2.2.2.1, .ref am6, .ref am7, .ref am8, .ref am9, .ref am10, .ref am11, .ref am12, .int r45.2.2.2.2.2.2.2.2.1, .int r45.2.2.2.2.2.2.2.2.2.1, .int r45.2.2.2.2.2.2.2.2.2.2.1, .int r45.2.2.2.2.2.2.2.2.2.2.2.1, .int r45.2.2.2.2.2.2.2.2.2.2.2.2])), (am0, .inl (cy 0, 48, .inl r58)), (am4, .inl (cy 0, 200, .inl u_tape))] H := hP
      have hD : va_D A [(am, .inr (7, [.ref am0, .ref am1, .ref am2, .ref am3, .int r45.1, .ref am4, .int r45.2.1, .int r45.2.2.1, .int r45.2.2.2.1, .int r45.2.2.2.2.1, .int r45.2.2.2.2.2.1, .int r45.2.2.2.2.2.2.1, .ref am5, .int r45.2.2.2.2.2.2.2.1, .ref am6, .ref am7, .ref am8, .ref am9, .ref am10, .ref am11, .ref am12, .int r45.2.2.2.2.2.2.2.2.1, .int r45.2.2.2.2.2.2.2.2.2.1, .int r45.2.2.2.2.2.2.2.2.2.2.1, .int r45.2.2.2.2.2.2.2.2.2.2.2.1, .int r45.2.2.2.2.2.2.2.2.2.2.2.2])), (am0, .inl (cy 0, 48, .inl r58)), (am4, .inl (cy 0, 200, .inl u_tape))] := hD
      exact hB61 r45.1 r45.2.1 r45.2.2.1 r45.2.2.2.1 r45.2.2.2.2.1 r45.2.2.2.2.2.1 r45.2.2.2.2.2.2.1 r45.2.2.2.2.2.2.2.1 r45.2.2.2.2.2.2.2.2.1 r45.2.2.2.2.2.2.2.2.2.1 r45.2.2.2.2.2.2.2.2.2.2.1 r45.2.2.2.2.2.2.2.2.2.2.2.1 r45.2.2.2.2.2.2.2.2.2.2.2.2 r58 y2 hf _ _ hP hD hS _ (lv_sub hl [0, 1, 2] rfl)
  have hl := lv_entry ([.ref am, .int x1]) (n := 3) (Nat.le_of_ble_eq_true rfl)
  rw [lg_entry_eq]
  generalize (lg_sl ([.ref am, .int x1]) ++ List.replicate (3 - (lg_sl ([.ref am, .int x1])).length) Slot.unset).toArray = ls at hl ⊢
  have hl : lv_has ls 3 [(0, .ref am), (1, .int x1)] := hl
  have hf : (if (8 : Int32) ≤ (u_s (0 : Int32).toNatClampNeg) then (fX7_guestHere_b29 n u_tape x1  (M_isHeld, M_taped, M_token, M_from, M_to, M_value, M_isWrong, M_rowN, M_ran, M_actKind, M_actN, M_actA, M_isParted) u_s ((8 : Int32) + ((5 : Int32) * (u_s (0 : Int32).toNatClampNeg))) (0 : Int32)) else (fX7_guestHere_b29 n u_tape x1  (M_isHeld, M_taped, M_token, M_from, M_to, M_value, M_isWrong, M_rowN, M_ran, M_actKind, M_actN, M_actA, M_isParted) u_s ((8 : Int32) + ((5 : Int32) * (u_s (0 : Int32).toNatClampNeg))) (1 : Int32))) = some z := hf
  refine lv_bipush (v := (8 : Int32)) hx hb dX7_guestHere_0 (by decide) ?_
  refine lv_iconst (v := (5 : Int32)) hx hb dX7_guestHere_2 (by decide) ?_
  refine lv_aload_n hx hb dX7_guestHere_3 rfl (lv_at hl 0 rfl) ?_
  refine va_get (D := D) (ci := 7) (v := .ref am0) (C := RX7) (T := TX7) (N := 26) hx hb hts hin7 hown hK hP 0 rfl rfl 0 (by decide) fl7 (fun _ h9 => h9) rfl dX7_guestHere_4 ?_
  refine lv_iconst (v := (0 : Int32)) hx hb dX7_guestHere_7 (by decide) ?_
  refine va_iald hx hb hK hP 1 0 rfl rfl vi_0_48 dX7_guestHere_8 ?_
  refine lv_imul hx hb dX7_guestHere_9 ?_
  refine lv_iadd hx hb dX7_guestHere_10 ?_
  refine lv_istore_n (lv' := [(2, .int ((8 : Int32) + ((5 : Int32) * (u_s (0 : Int32).toNatClampNeg)))), (0, .ref am), (1, .int x1)]) hx hb dX7_guestHere_11 rfl hl (by decide) rfl (fun ls hl => ?_)
  refine lv_aload_n hx hb dX7_guestHere_12 rfl (lv_at hl 1 rfl) ?_
  refine lv_aload_n hx hb dX7_guestHere_13 rfl (lv_at hl 1 rfl) ?_
  refine va_get (D := D) (ci := 7) (v := .ref am0) (C := RX7) (T := TX7) (N := 26) hx hb hts hin7 hown hK hP 0 rfl rfl 0 (by decide) fl7 (fun _ h9 => h9) rfl dX7_guestHere_14 ?_
  refine lv_iconst (v := (0 : Int32)) hx hb dX7_guestHere_17 (by decide) ?_
  refine va_iald hx hb hK hP 1 0 rfl rfl vi_0_48 dX7_guestHere_18 ?_
  refine lv_bipush (v := (8 : Int32)) hx hb dX7_guestHere_19 (by decide) ?_
  refine lv_icmp_ge (tgt := 28) hx hb dX7_guestHere_21 (by decide) (fun c_21 => ?_) (fun c_21 => ?_)
  · have hf := zp hf c_21
    refine lv_iconst (v := (0 : Int32)) hx hb dX7_guestHere_28 (by decide) ?_
    exact hB29 M_isHeld M_taped M_token M_from M_to M_value M_isWrong M_rowN M_ran M_actKind M_actN M_actA M_isParted u_s ((8 : Int32) + ((5 : Int32) * (u_s (0 : Int32).toNatClampNeg))) (0 : Int32) hf _ _ hP hD hS _ (lv_sub hl [1, 2, 0] rfl)
  · have hf := zn hf c_21
    refine lv_iconst (v := (1 : Int32)) hx hb dX7_guestHere_24 (by decide) ?_
    refine lv_goto (tgt := 29) hx hb dX7_guestHere_25 (by decide) ?_
    exact hB29 M_isHeld M_taped M_token M_from M_to M_value M_isWrong M_rowN M_ran M_actKind M_actN M_actA M_isParted u_s ((8 : Int32) + ((5 : Int32) * (u_s (0 : Int32).toNatClampNeg))) (1 : Int32) hf _ _ hP hD hS _ (lv_sub hl [1, 2, 0] rfl)
