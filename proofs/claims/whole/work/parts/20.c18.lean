set_option maxRecDepth 100000 in
set_option maxHeartbeats 100000000 in
theorem mX7_lawHere (l : Launch) (D : va_G) (cy : Nat → ClassId) (st sk sv : Nat → Nat) (B : Nat) (am : Nat) (am0 : Nat) (am1 : Nat) (am2 : Nat) (am3 : Nat) (am4 : Nat) (am5 : Nat) (am6 : Nat) (am7 : Nat) (am8 : Nat) (am9 : Nat) (am10 : Nat) (am11 : Nat) (am12 : Nat) (n : Nat) (M_isHeld : Int32) (M_taped : Int32) (M_token : Int32) (M_from : Int32) (M_to : Int32) (M_value : Int32) (M_isWrong : Int32) (M_rowN : Int32) (M_ran : Int32) (M_actKind : Int32) (M_actN : Int32) (M_actA : Int32) (M_isParted : Int32) (u_tape : (Nat → Int32))  (z : Int32) (hf : fX7_lawHere n (M_isHeld, M_taped, M_token, M_from, M_to, M_value, M_isWrong, M_rowN, M_ran, M_actKind, M_actN, M_actA, M_isParted) u_tape = some z) : Met l yX7_lawHere wsX7_lawHere ({ frames := 3, cells := 0, slots := 0, locals := 71 }) (PcR [.ref am] D cy st sk sv B [(am, .inr (7, [.ref am0, .ref am1, .ref am2, .ref am3, .int M_isHeld, .ref am4, .int M_taped, .int M_token, .int M_from, .int M_to, .int M_value, .int M_isWrong, .ref am5, .int M_rowN, .ref am6, .ref am7, .ref am8, .ref am9, .ref am10, .ref am11, .ref am12, .int M_ran, .int M_actKind, .int M_actN, .int M_actA, .int M_isParted])), (am4, .inl (cy 0, 200, .inl u_tape))]) (Qr (some (.int z))) 0 0 (fun _ => False) := by
  refine Met.ofW (cc := cX7_lawHere) (maxL := 1) (ret := (some .int)) (by decide) rfl ?_
  intro p e s m args below meth c s₁ Bd hml hv
  obtain ⟨rfl, hP, hG⟩ := hv
  have hx := Bd.exec
  have hb := Bd.bytes
  have hr := Bd.returns
  have hts := atoms_spec (ws := wsX7_lawHere) Bd.pre
  have hown : s.vm.findClass RX7 = some m.cls := findClass_of_methodNamed Bd.named
  have hlocks := Bd.notSynchronized
  have hK := hG.1
  have hS : va_S (fun q => B ≤ q) s.heap s.heap [] := va_S.rf
  have hAB : ∀ q, (fun q => B ≤ q) q → B ≤ q := fun _ h => h
  have hB33 : fX7_lawHere_b33 n (M_isHeld, M_taped, M_token, M_from, M_to, M_value, M_isWrong, M_rowN, M_ran, M_actKind, M_actN, M_actA, M_isParted) u_tape   = some z → ∀ (ls : Array Slot), lv_has ls 1 [(0, .ref am)] → W p l e (headSpec wsX7_lawHere ({ frames := 3, cells := 0, slots := 0, locals := 71 })).room s m ([.ref am] : List Value).toArray below meth c s.heap [] 0 0 (MQ below (Qr (some (.int z))) ([.ref am] : List Value).toArray s 0 0 (fun _ => False)) (F0 m 33 ls []) := by
    intro  hf ls hl
    have hf : ((fX7_isFour n (M_isHeld, M_taped, M_token, M_from, M_to, M_value, M_isWrong, M_rowN, M_ran, M_actKind, M_actN, M_actA, M_isParted) u_tape (115 : Int32) (97 : Int32) (108 : Int32) (116 : Int32)).bind fun r42 => if r42 = 0 then ((fX7_isFive n (M_isHeld, M_taped, M_token, M_from, M_to, M_value, M_isWrong, M_rowN, M_ran, M_actKind, M_actN, M_actA, M_isParted) u_tape (100 : Int32) (101 : Int32) (112 : Int32) (116 : Int32) (104 : Int32)).bind fun r61 => if r61 = 0 then ((fX7_isFour n (M_isHeld, M_taped, M_token, M_from, M_to, M_value, M_isWrong, M_rowN, M_ran, M_actKind, M_actN, M_actA, M_isParted) u_tape (115 : Int32) (108 : Int32) (105 : Int32) (112 : Int32)).bind fun r79 => if r79 = 0 then ((fX7_isFour n (M_isHeld, M_taped, M_token, M_from, M_to, M_value, M_isWrong, M_rowN, M_ran, M_actKind, M_actN, M_actA, M_isParted) u_tape (116 : Int32) (111 : Int32) (108 : Int32) (100 : Int32)).bind fun r97 => if r97 = 0 then (some (-1 : Int32)) else (some (3 : Int32))) else (some (7 : Int32))) else (some (6 : Int32))) else (some (5 : Int32))) = some z := hf
    refine lv_aload_n hx hb dX7_lawHere_33 rfl (lv_at hl 0 rfl) ?_
    refine lv_bipush (v := (115 : Int32)) hx hb dX7_lawHere_34 (by decide) ?_
    refine lv_bipush (v := (97 : Int32)) hx hb dX7_lawHere_36 (by decide) ?_
    refine lv_bipush (v := (108 : Int32)) hx hb dX7_lawHere_38 (by decide) ?_
    refine lv_bipush (v := (116 : Int32)) hx hb dX7_lawHere_40 (by decide) ?_
    obtain ⟨r42, hc42, hf⟩ := zb hf
    refine zvr (o := some (.int r42)) (As := [.int (115 : Int32), .int (97 : Int32), .int (108 : Int32), .int (116 : Int32)]) (rest := []) (stk := [.int r42]) ⟨hx, hb, hml, hown, hts⟩ (mX7_isFour l D cy st sk sv B am am0 am1 am2 am3 am4 am5 am6 am7 am8 am9 am10 am11 am12 n M_isHeld M_taped M_token M_from M_to M_value M_isWrong M_rowN M_ran M_actKind M_actN M_actA M_isParted u_tape (115 : Int32) (97 : Int32) (108 : Int32) (116 : Int32) r42 hc42) (cwV 4 hts gX7_lawHere_X7_isFour rfl rfl rfl (by decide +kernel) ⟨Nat.le_of_ble_eq_true rfl, Nat.le_of_ble_eq_true rfl⟩) hG hS hAB hP [0, 1] rfl 0 7 rfl rfl rfl rfl hl.1 rfl (Nat.le_of_ble_eq_true rfl) dX7_lawHere_42 rfl ?_
    refine lv_if_eq (tgt := 50) hx hb dX7_lawHere_45 (by decide) (fun c_45 => ?_) (fun c_45 => ?_)
    · have hf := zp hf c_45
      refine lv_aload_n hx hb dX7_lawHere_50 rfl (lv_at hl 0 rfl) ?_
      refine lv_bipush (v := (100 : Int32)) hx hb dX7_lawHere_51 (by decide) ?_
      refine lv_bipush (v := (101 : Int32)) hx hb dX7_lawHere_53 (by decide) ?_
      refine lv_bipush (v := (112 : Int32)) hx hb dX7_lawHere_55 (by decide) ?_
      refine lv_bipush (v := (116 : Int32)) hx hb dX7_lawHere_57 (by decide) ?_
      refine lv_bipush (v := (104 : Int32)) hx hb dX7_lawHere_59 (by decide) ?_
      obtain ⟨r61, hc61, hf⟩ := zb hf
      refine zvr (o := some (.int r61)) (As := [.int (100 : Int32), .int (101 : Int32), .int (112 : Int32), .int (116 : Int32), .int (104 : Int32)]) (rest := []) (stk := [.int r61]) ⟨hx, hb, hml, hown, hts⟩ (mX7_isFive l D cy st sk sv B am am0 am1 am2 am3 am4 am5 am6 am7 am8 am9 am10 am11 am12 n M_isHeld M_taped M_token M_from M_to M_value M_isWrong M_rowN M_ran M_actKind M_actN M_actA M_isParted u_tape (100 : Int32) (101 : Int32) (112 : Int32) (116 : Int32) (104 : Int32) r61 hc61) (cwV 5 hts gX7_lawHere_X7_isFive rfl rfl rfl (by decide +kernel) ⟨Nat.le_of_ble_eq_true rfl, Nat.le_of_ble_eq_true rfl⟩) hG hS hAB hP [0, 1] rfl 0 7 rfl rfl rfl rfl hl.1 rfl (Nat.le_of_ble_eq_true rfl) dX7_lawHere_61 rfl ?_
      refine lv_if_eq (tgt := 70) hx hb dX7_lawHere_64 (by decide) (fun c_64 => ?_) (fun c_64 => ?_)
      · have hf := zp hf c_64
        refine lv_aload_n hx hb dX7_lawHere_70 rfl (lv_at hl 0 rfl) ?_
        refine lv_bipush (v := (115 : Int32)) hx hb dX7_lawHere_71 (by decide) ?_
        refine lv_bipush (v := (108 : Int32)) hx hb dX7_lawHere_73 (by decide) ?_
        refine lv_bipush (v := (105 : Int32)) hx hb dX7_lawHere_75 (by decide) ?_
        refine lv_bipush (v := (112 : Int32)) hx hb dX7_lawHere_77 (by decide) ?_
        obtain ⟨r79, hc79, hf⟩ := zb hf
        refine zvr (o := some (.int r79)) (As := [.int (115 : Int32), .int (108 : Int32), .int (105 : Int32), .int (112 : Int32)]) (rest := []) (stk := [.int r79]) ⟨hx, hb, hml, hown, hts⟩ (mX7_isFour l D cy st sk sv B am am0 am1 am2 am3 am4 am5 am6 am7 am8 am9 am10 am11 am12 n M_isHeld M_taped M_token M_from M_to M_value M_isWrong M_rowN M_ran M_actKind M_actN M_actA M_isParted u_tape (115 : Int32) (108 : Int32) (105 : Int32) (112 : Int32) r79 hc79) (cwV 4 hts gX7_lawHere_X7_isFour rfl rfl rfl (by decide +kernel) ⟨Nat.le_of_ble_eq_true rfl, Nat.le_of_ble_eq_true rfl⟩) hG hS hAB hP [0, 1] rfl 0 7 rfl rfl rfl rfl hl.1 rfl (Nat.le_of_ble_eq_true rfl) dX7_lawHere_79 rfl ?_
        refine lv_if_eq (tgt := 88) hx hb dX7_lawHere_82 (by decide) (fun c_82 => ?_) (fun c_82 => ?_)
        · have hf := zp hf c_82
          refine lv_aload_n hx hb dX7_lawHere_88 rfl (lv_at hl 0 rfl) ?_
          refine lv_bipush (v := (116 : Int32)) hx hb dX7_lawHere_89 (by decide) ?_
          refine lv_bipush (v := (111 : Int32)) hx hb dX7_lawHere_91 (by decide) ?_
          refine lv_bipush (v := (108 : Int32)) hx hb dX7_lawHere_93 (by decide) ?_
          refine lv_bipush (v := (100 : Int32)) hx hb dX7_lawHere_95 (by decide) ?_
          obtain ⟨r97, hc97, hf⟩ := zb hf
          refine zvr (o := some (.int r97)) (As := [.int (116 : Int32), .int (111 : Int32), .int (108 : Int32), .int (100 : Int32)]) (rest := []) (stk := [.int r97]) ⟨hx, hb, hml, hown, hts⟩ (mX7_isFour l D cy st sk sv B am am0 am1 am2 am3 am4 am5 am6 am7 am8 am9 am10 am11 am12 n M_isHeld M_taped M_token M_from M_to M_value M_isWrong M_rowN M_ran M_actKind M_actN M_actA M_isParted u_tape (116 : Int32) (111 : Int32) (108 : Int32) (100 : Int32) r97 hc97) (cwV 4 hts gX7_lawHere_X7_isFour rfl rfl rfl (by decide +kernel) ⟨Nat.le_of_ble_eq_true rfl, Nat.le_of_ble_eq_true rfl⟩) hG hS hAB hP [0, 1] rfl 0 7 rfl rfl rfl rfl hl.1 rfl (Nat.le_of_ble_eq_true rfl) dX7_lawHere_97 rfl ?_
          refine lv_if_eq (tgt := 107) hx hb dX7_lawHere_100 (by decide) (fun c_100 => ?_) (fun c_100 => ?_)
          · have hf := zp hf c_100
            refine lv_iconst (v := (-1 : Int32)) hx hb dX7_lawHere_107 (by decide) ?_
            cases hf
            exact W.iret hx hb hr (fun t ht hW => ⟨rfl, ht⟩) (fun q h => absurd h List.not_mem_nil) dX7_lawHere_108
          · have hf := zn hf c_100
            refine lv_iconst (v := (3 : Int32)) hx hb dX7_lawHere_103 (by decide) ?_
            refine lv_goto (tgt := 108) hx hb dX7_lawHere_104 (by decide) ?_
            cases hf
            exact W.iret hx hb hr (fun t ht hW => ⟨rfl, ht⟩) (fun q h => absurd h List.not_mem_nil) dX7_lawHere_108
        · have hf := zn hf c_82
          refine lv_bipush (v := (7 : Int32)) hx hb dX7_lawHere_85 (by decide) ?_
          cases hf
          exact W.iret hx hb hr (fun t ht hW => ⟨rfl, ht⟩) (fun q h => absurd h List.not_mem_nil) dX7_lawHere_87
      · have hf := zn hf c_64
        refine lv_bipush (v := (6 : Int32)) hx hb dX7_lawHere_67 (by decide) ?_
        cases hf
        exact W.iret hx hb hr (fun t ht hW => ⟨rfl, ht⟩) (fun q h => absurd h List.not_mem_nil) dX7_lawHere_69
    · have hf := zn hf c_45
      refine lv_iconst (v := (5 : Int32)) hx hb dX7_lawHere_48 (by decide) ?_
      cases hf
      exact W.iret hx hb hr (fun t ht hW => ⟨rfl, ht⟩) (fun q h => absurd h List.not_mem_nil) dX7_lawHere_49
  have hl := lv_entry ([.ref am]) (n := 1) (Nat.le_of_ble_eq_true rfl)
  rw [lg_entry_eq]
  generalize (lg_sl ([.ref am]) ++ List.replicate (1 - (lg_sl ([.ref am])).length) Slot.unset).toArray = ls at hl ⊢
  have hl : lv_has ls 1 [(0, .ref am)] := hl
  have hf : ((fX7_isName n (M_isHeld, M_taped, M_token, M_from, M_to, M_value, M_isWrong, M_rowN, M_ran, M_actKind, M_actN, M_actA, M_isParted) u_tape (6 : Int32) (98 : Int32) (114 : Int32) (101 : Int32) (104 : Int32)).bind fun r11 => if r11 = 0 then (fX7_lawHere_b33 n (M_isHeld, M_taped, M_token, M_from, M_to, M_value, M_isWrong, M_rowN, M_ran, M_actKind, M_actN, M_actA, M_isParted) u_tape  ) else ((fX7_isSame n (M_isHeld, M_taped, M_token, M_from, M_to, M_value, M_isWrong, M_rowN, M_ran, M_actKind, M_actN, M_actA, M_isParted) u_tape (3 : Int32) (97 : Int32) (116 : Int32) (104 : Int32)).bind fun r25 => if r25 = 0 then (fX7_lawHere_b33 n (M_isHeld, M_taped, M_token, M_from, M_to, M_value, M_isWrong, M_rowN, M_ran, M_actKind, M_actN, M_actA, M_isParted) u_tape  ) else (some (4 : Int32)))) = some z := hf
  refine lv_aload_n hx hb dX7_lawHere_0 rfl (lv_at hl 0 rfl) ?_
  refine lv_bipush (v := (6 : Int32)) hx hb dX7_lawHere_1 (by decide) ?_
  refine lv_bipush (v := (98 : Int32)) hx hb dX7_lawHere_3 (by decide) ?_
  refine lv_bipush (v := (114 : Int32)) hx hb dX7_lawHere_5 (by decide) ?_
  refine lv_bipush (v := (101 : Int32)) hx hb dX7_lawHere_7 (by decide) ?_
  refine lv_bipush (v := (104 : Int32)) hx hb dX7_lawHere_9 (by decide) ?_
  obtain ⟨r11, hc11, hf⟩ := zb hf
  refine zvr (o := some (.int r11)) (As := [.int (6 : Int32), .int (98 : Int32), .int (114 : Int32), .int (101 : Int32), .int (104 : Int32)]) (rest := []) (stk := [.int r11]) ⟨hx, hb, hml, hown, hts⟩ (mX7_isName l D cy st sk sv B am am0 am1 am2 am3 am4 am5 am6 am7 am8 am9 am10 am11 am12 n M_isHeld M_taped M_token M_from M_to M_value M_isWrong M_rowN M_ran M_actKind M_actN M_actA M_isParted u_tape (6 : Int32) (98 : Int32) (114 : Int32) (101 : Int32) (104 : Int32) r11 hc11) (cwV 5 hts gX7_lawHere_X7_isName rfl rfl rfl (by decide +kernel) ⟨Nat.le_of_ble_eq_true rfl, Nat.le_of_ble_eq_true rfl⟩) hG hS hAB hP [0, 1] rfl 0 7 rfl rfl rfl rfl hl.1 rfl (Nat.le_of_ble_eq_true rfl) dX7_lawHere_11 rfl ?_
  refine lv_if_eq (tgt := 33) hx hb dX7_lawHere_14 (by decide) (fun c_14 => ?_) (fun c_14 => ?_)
  · have hf := zp hf c_14
    exact hB33  hf _ (lv_sub hl [0] rfl)
  · have hf := zn hf c_14
    refine lv_aload_n hx hb dX7_lawHere_17 rfl (lv_at hl 0 rfl) ?_
    refine lv_iconst (v := (3 : Int32)) hx hb dX7_lawHere_18 (by decide) ?_
    refine lv_bipush (v := (97 : Int32)) hx hb dX7_lawHere_19 (by decide) ?_
    refine lv_bipush (v := (116 : Int32)) hx hb dX7_lawHere_21 (by decide) ?_
    refine lv_bipush (v := (104 : Int32)) hx hb dX7_lawHere_23 (by decide) ?_
    obtain ⟨r25, hc25, hf⟩ := zb hf
    refine zvr (o := some (.int r25)) (As := [.int (3 : Int32), .int (97 : Int32), .int (116 : Int32), .int (104 : Int32)]) (rest := []) (stk := [.int r25]) ⟨hx, hb, hml, hown, hts⟩ (mX7_isSame l D cy st sk sv B am am0 am1 am2 am3 am4 am5 am6 am7 am8 am9 am10 am11 am12 n M_isHeld M_taped M_token M_from M_to M_value M_isWrong M_rowN M_ran M_actKind M_actN M_actA M_isParted u_tape (3 : Int32) (97 : Int32) (116 : Int32) (104 : Int32) r25 hc25) (cwV 4 hts gX7_lawHere_X7_isSame rfl rfl rfl (by decide +kernel) ⟨Nat.le_of_ble_eq_true rfl, Nat.le_of_ble_eq_true rfl⟩) hG hS hAB hP [0, 1] rfl 0 7 rfl rfl rfl rfl hl.1 rfl (Nat.le_of_ble_eq_true rfl) dX7_lawHere_25 rfl ?_
    refine lv_if_eq (tgt := 33) hx hb dX7_lawHere_28 (by decide) (fun c_28 => ?_) (fun c_28 => ?_)
    · have hf := zp hf c_28
      exact hB33  hf _ (lv_sub hl [0] rfl)
    · have hf := zn hf c_28
      refine lv_iconst (v := (4 : Int32)) hx hb dX7_lawHere_31 (by decide) ?_
      cases hf
      exact W.iret hx hb hr (fun t ht hW => ⟨rfl, ht⟩) (fun q h => absurd h List.not_mem_nil) dX7_lawHere_32
set_option maxRecDepth 100000 in
set_option maxHeartbeats 100000000 in
theorem mX7_mostOf (l : Launch) (D : va_G) (cy : Nat → ClassId) (st sk sv : Nat → Nat) (B : Nat)  (n : Nat)  (x0 : Int32) (z : Int32) (hf : fX7_mostOf n x0 = some z) : Met l yX7_mostOf wsX7_mostOf ({ frames := 0, cells := 0, slots := 0, locals := 0 }) (PcR [.int x0] D cy st sk sv B []) (Qr (some (.int z))) 0 0 (fun _ => False) := by
  refine Met.ofW (cc := cX7_mostOf) (maxL := 1) (ret := (some .int)) (by decide) rfl ?_
  intro p e s m args below meth c s₁ Bd hml hv
  obtain ⟨rfl, hP, hG⟩ := hv
  have hx := Bd.exec
  have hb := Bd.bytes
  have hr := Bd.returns
  have hts := atoms_spec (ws := wsX7_mostOf) Bd.pre
  have hown : s.vm.findClass RX7 = some m.cls := findClass_of_methodNamed Bd.named
  have hlocks := Bd.notSynchronized
  have hK := hG.1
  have hS : va_S (fun q => B ≤ q) s.heap s.heap [] := va_S.rf
  have hAB : ∀ q, (fun q => B ≤ q) q → B ≤ q := fun _ h => h
  have hl := lv_entry ([.int x0]) (n := 1) (Nat.le_of_ble_eq_true rfl)
  rw [lg_entry_eq]
  generalize (lg_sl ([.int x0]) ++ List.replicate (1 - (lg_sl ([.int x0])).length) Slot.unset).toArray = ls at hl ⊢
  have hl : lv_has ls 1 [(0, .int x0)] := hl
  have hf : (if (2 : Int32) ≤ x0 then (some (99 : Int32)) else (some (9 : Int32))) = some z := hf
  refine lv_iload_n hx hb dX7_mostOf_0 rfl (lv_at hl 0 rfl) ?_
  refine lv_iconst (v := (2 : Int32)) hx hb dX7_mostOf_1 (by decide) ?_
  refine lv_icmp_ge (tgt := 10) hx hb dX7_mostOf_2 (by decide) (fun c_2 => ?_) (fun c_2 => ?_)
  · have hf := zp hf c_2
    refine lv_bipush (v := (99 : Int32)) hx hb dX7_mostOf_10 (by decide) ?_
    cases hf
    exact W.iret hx hb hr (fun t ht hW => ⟨rfl, ht⟩) (fun q h => absurd h List.not_mem_nil) dX7_mostOf_12
  · have hf := zn hf c_2
    refine lv_bipush (v := (9 : Int32)) hx hb dX7_mostOf_5 (by decide) ?_
    refine lv_goto (tgt := 12) hx hb dX7_mostOf_7 (by decide) ?_
    cases hf
    exact W.iret hx hb hr (fun t ht hW => ⟨rfl, ht⟩) (fun q h => absurd h List.not_mem_nil) dX7_mostOf_12
set_option maxRecDepth 100000 in
set_option maxHeartbeats 100000000 in
theorem mX7_itemHere (l : Launch) (D : va_G) (cy : Nat → ClassId) (st sk sv : Nat → Nat) (B : Nat) (am : Nat) (am0 : Nat) (am1 : Nat) (am2 : Nat) (am3 : Nat) (am4 : Nat) (am5 : Nat) (am6 : Nat) (am7 : Nat) (am8 : Nat) (am9 : Nat) (am10 : Nat) (am11 : Nat) (am12 : Nat) (sz : Nat) (n : Nat) (M_isHeld : Int32) (M_taped : Int32) (M_token : Int32) (M_from : Int32) (M_to : Int32) (M_value : Int32) (M_isWrong : Int32) (M_rowN : Int32) (M_ran : Int32) (M_actKind : Int32) (M_actN : Int32) (M_actA : Int32) (M_isParted : Int32) (u_s : (Nat → Int32)) (u_tape : (Nat → Int32))  (z : MO × (Nat → Int32)) (hf : fX7_itemHere n (M_isHeld, M_taped, M_token, M_from, M_to, M_value, M_isWrong, M_rowN, M_ran, M_actKind, M_actN, M_actA, M_isParted) u_s u_tape = some z) : Met l yX7_itemHere wsX7_itemHere ({ frames := 5, cells := 0, slots := 0, locals := 108 }) (PcW [.ref am] D cy st sk sv B sz [(am, .inr (7, [.ref am0, .ref am1, .ref am2, .ref am3, .int M_isHeld, .ref am4, .int M_taped, .int M_token, .int M_from, .int M_to, .int M_value, .int M_isWrong, .ref am5, .int M_rowN, .ref am6, .ref am7, .ref am8, .ref am9, .ref am10, .ref am11, .ref am12, .int M_ran, .int M_actKind, .int M_actN, .int M_actA, .int M_isParted])), (am0, .inl (cy 0, 48, .inl u_s)), (am4, .inl (cy 0, 200, .inl u_tape))]) (Qw (none) D [(am, .inr (7, [.ref am0, .ref am1, .ref am2, .ref am3, .int z.1.1, .ref am4, .int z.1.2.1, .int z.1.2.2.1, .int z.1.2.2.2.1, .int z.1.2.2.2.2.1, .int z.1.2.2.2.2.2.1, .int z.1.2.2.2.2.2.2.1, .ref am5, .int z.1.2.2.2.2.2.2.2.1, .ref am6, .ref am7, .ref am8, .ref am9, .ref am10, .ref am11, .ref am12, .int z.1.2.2.2.2.2.2.2.2.1, .int z.1.2.2.2.2.2.2.2.2.2.1, .int z.1.2.2.2.2.2.2.2.2.2.2.1, .int z.1.2.2.2.2.2.2.2.2.2.2.2.1, .int z.1.2.2.2.2.2.2.2.2.2.2.2.2])), (am0, .inl (cy 0, 48, .inl z.2)), (am4, .inl (cy 0, 200, .inl u_tape))] (va_A [(am, .inr (7, [.ref am0, .ref am1, .ref am2, .ref am3, .int M_isHeld, .ref am4, .int M_taped, .int M_token, .int M_from, .int M_to, .int M_value, .int M_isWrong, .ref am5, .int M_rowN, .ref am6, .ref am7, .ref am8, .ref am9, .ref am10, .ref am11, .ref am12, .int M_ran, .int M_actKind, .int M_actN, .int M_actA, .int M_isParted])), (am0, .inl (cy 0, 48, .inl u_s)), (am4, .inl (cy 0, 200, .inl u_tape))] sz)) 0 0 (va_A [(am, .inr (7, [.ref am0, .ref am1, .ref am2, .ref am3, .int M_isHeld, .ref am4, .int M_taped, .int M_token, .int M_from, .int M_to, .int M_value, .int M_isWrong, .ref am5, .int M_rowN, .ref am6, .ref am7, .ref am8, .ref am9, .ref am10, .ref am11, .ref am12, .int M_ran, .int M_actKind, .int M_actN, .int M_actA, .int M_isParted])), (am0, .inl (cy 0, 48, .inl u_s)), (am4, .inl (cy 0, 200, .inl u_tape))] sz) := by
  refine Met.ofW (cc := cX7_itemHere) (maxL := 3) (ret := none) (by decide) rfl ?_
  intro p e s m args below meth c s₁ Bd hml hv
  obtain ⟨rfl, hsz, hP, hD0, hBs, hG⟩ := hv
  have hx := Bd.exec
  have hb := Bd.bytes
  have hr := Bd.returns
  have hts := atoms_spec (ws := wsX7_itemHere) Bd.pre
  have hown : s.vm.findClass RX7 = some m.cls := findClass_of_methodNamed Bd.named
  have hlocks := Bd.notSynchronized
  have hK := hG.1
  subst hsz
  have hD := hD0.self (sz := s.heap.size)
  have hAB0 := zA hD0 hBs
  generalize hAe : va_A [(am, .inr (7, [.ref am0, .ref am1, .ref am2, .ref am3, .int M_isHeld, .ref am4, .int M_taped, .int M_token, .int M_from, .int M_to, .int M_value, .int M_isWrong, .ref am5, .int M_rowN, .ref am6, .ref am7, .ref am8, .ref am9, .ref am10, .ref am11, .ref am12, .int M_ran, .int M_actKind, .int M_actN, .int M_actA, .int M_isParted])), (am0, .inl (cy 0, 48, .inl u_s)), (am4, .inl (cy 0, 200, .inl u_tape))] s.heap.size = A at hD hAB0 ⊢
  have hA : ∀ q : Nat, s.heap.size ≤ q → A q := fun q h => by rw [← hAe]; exact Or.inr h
  have hAB : ∀ q, A q → B ≤ q := hAB0
  have hS : va_S A s.heap s.heap [] := va_S.rf
  have hfin : ∀ (M_isHeld : Int32) (M_taped : Int32) (M_token : Int32) (M_from : Int32) (M_to : Int32) (M_value : Int32) (M_isWrong : Int32) (M_rowN : Int32) (M_ran : Int32) (M_actKind : Int32) (M_actN : Int32) (M_actA : Int32) (M_isParted : Int32) (u_s : (Nat → Int32)), some ((M_isHeld, M_taped, M_token, M_from, M_to, M_value, M_isWrong, M_rowN, M_ran, M_actKind, M_actN, M_actA, M_isParted), u_s) = some z → ∀ (H : Heap) (t : State), t.heap = H → va_P D vwCl [(am, .inr (7, [.ref am0, .ref am1, .ref am2, .ref am3, .int M_isHeld, .ref am4, .int M_taped, .int M_token, .int M_from, .int M_to, .int M_value, .int M_isWrong, .ref am5, .int M_rowN, .ref am6, .ref am7, .ref am8, .ref am9, .ref am10, .ref am11, .ref am12, .int M_ran, .int M_actKind, .int M_actN, .int M_actA, .int M_isParted])), (am0, .inl (cy 0, 48, .inl u_s)), (am4, .inl (cy 0, 200, .inl u_tape))] H → va_F A s t → Qw (none) D [(am, .inr (7, [.ref am0, .ref am1, .ref am2, .ref am3, .int z.1.1, .ref am4, .int z.1.2.1, .int z.1.2.2.1, .int z.1.2.2.2.1, .int z.1.2.2.2.2.1, .int z.1.2.2.2.2.2.1, .int z.1.2.2.2.2.2.2.1, .ref am5, .int z.1.2.2.2.2.2.2.2.1, .ref am6, .ref am7, .ref am8, .ref am9, .ref am10, .ref am11, .ref am12, .int z.1.2.2.2.2.2.2.2.2.1, .int z.1.2.2.2.2.2.2.2.2.2.1, .int z.1.2.2.2.2.2.2.2.2.2.2.1, .int z.1.2.2.2.2.2.2.2.2.2.2.2.1, .int z.1.2.2.2.2.2.2.2.2.2.2.2.2])), (am0, .inl (cy 0, 48, .inl z.2)), (am4, .inl (cy 0, 200, .inl u_tape))] A ([.ref am] : List Value).toArray s (.returned (none)) t := by
    intro M_isHeld M_taped M_token M_from M_to M_value M_isWrong M_rowN M_ran M_actKind M_actN M_actA M_isParted u_s h9 H t ht hP hF
    cases h9
    exact ⟨rfl, by rw [ht]; exact hP, hF⟩
  have hin7 : ∀ w ∈ u_ws RX7 TX7 26, w ∈ wsX7_itemHere := by decide +kernel
  have fl67 := hts (.fieldLink RX7 67 "KinCutleryModel" "from" "I") (by decide +kernel)
  have fl81 := hts (.fieldLink RX7 81 "KinCutleryModel" "token" "I") (by decide +kernel)
  have fl87 := hts (.fieldLink RX7 87 "KinCutleryModel" "isWrong" "Z") (by decide +kernel)
  have hB95 : ∀ (M_isHeld : Int32) (M_taped : Int32) (M_token : Int32) (M_from : Int32) (M_to : Int32) (M_value : Int32) (M_isWrong : Int32) (M_rowN : Int32) (M_ran : Int32) (M_actKind : Int32) (M_actN : Int32) (M_actA : Int32) (M_isParted : Int32) (u_s : (Nat → Int32)) (w1 : Int32), fX7_itemHere_b95 n u_tape  (M_isHeld, M_taped, M_token, M_from, M_to, M_value, M_isWrong, M_rowN, M_ran, M_actKind, M_actN, M_actA, M_isParted) u_s w1 = some z → ∀ (H : Heap) (locs : List Loc), va_P D vwCl [(am, .inr (7, [.ref am0, .ref am1, .ref am2, .ref am3, .int M_isHeld, .ref am4, .int M_taped, .int M_token, .int M_from, .int M_to, .int M_value, .int M_isWrong, .ref am5, .int M_rowN, .ref am6, .ref am7, .ref am8, .ref am9, .ref am10, .ref am11, .ref am12, .int M_ran, .int M_actKind, .int M_actN, .int M_actA, .int M_isParted])), (am0, .inl (cy 0, 48, .inl u_s)), (am4, .inl (cy 0, 200, .inl u_tape))] H → va_D A [(am, .inr (7, [.ref am0, .ref am1, .ref am2, .ref am3, .int M_isHeld, .ref am4, .int M_taped, .int M_token, .int M_from, .int M_to, .int M_value, .int M_isWrong, .ref am5, .int M_rowN, .ref am6, .ref am7, .ref am8, .ref am9, .ref am10, .ref am11, .ref am12, .int M_ran, .int M_actKind, .int M_actN, .int M_actA, .int M_isParted])), (am0, .inl (cy 0, 48, .inl u_s)), (am4, .inl (cy 0, 200, .inl u_tape))] → va_S A s.heap H locs → ∀ (ls : Array Slot), lv_has ls 3 [(0, .ref am)] → W p l e (headSpec wsX7_itemHere ({ frames := 5, cells := 0, slots := 0, locals := 108 })).room s m ([.ref am] : List Value).toArray below meth c H locs 0 0 (MQ below (Qw (none) D [(am, .inr (7, [.ref am0, .ref am1, .ref am2, .ref am3, .int z.1.1, .ref am4, .int z.1.2.1, .int z.1.2.2.1, .int z.1.2.2.2.1, .int z.1.2.2.2.2.1, .int z.1.2.2.2.2.2.1, .int z.1.2.2.2.2.2.2.1, .ref am5, .int z.1.2.2.2.2.2.2.2.1, .ref am6, .ref am7, .ref am8, .ref am9, .ref am10, .ref am11, .ref am12, .int z.1.2.2.2.2.2.2.2.2.1, .int z.1.2.2.2.2.2.2.2.2.2.1, .int z.1.2.2.2.2.2.2.2.2.2.2.1, .int z.1.2.2.2.2.2.2.2.2.2.2.2.1, .int z.1.2.2.2.2.2.2.2.2.2.2.2.2])), (am0, .inl (cy 0, 48, .inl z.2)), (am4, .inl (cy 0, 200, .inl u_tape))] A) ([.ref am] : List Value).toArray s 0 0 A) (F0 m 95 ls [.int w1, .ref am]) := by
    intro M_isHeld M_taped M_token M_from M_to M_value M_isWrong M_rowN M_ran M_actKind M_actN M_actA M_isParted u_s w1 hf H locs hP hD hS ls hl
    have hf : ((fX7_needs n (M_isHeld, M_taped, M_token, M_from, M_to, M_value, M_isWrong, M_rowN, M_ran, M_actKind, M_actN, M_actA, M_isParted) u_tape w1).bind fun r95 => some (r95, u_s)) = some z := hf
    obtain ⟨r95, hc95, hf⟩ := zb hf
    refine zvw (o := none) (As := [.int w1]) (rest := []) (stk := []) ⟨hx, hb, hml, hown, hts⟩ (mX7_needs l D cy st sk sv B am am0 am1 am2 am3 am4 am5 am6 am7 am8 am9 am10 am11 am12 _ n M_isHeld M_taped M_token M_from M_to M_value M_isWrong M_rowN M_ran M_actKind M_actN M_actA M_isParted u_tape w1 r95 hc95) (cwV 1 hts gX7_itemHere_X7_needs rfl rfl rfl (by decide +kernel) ⟨Nat.le_of_ble_eq_true rfl, Nat.le_of_ble_eq_true rfl⟩) hG hS hAB hA hP hD [0, 2] (by decide) rfl rfl rfl rfl 0 7 rfl rfl rfl rfl hl.1 rfl (Nat.le_of_ble_eq_true rfl) dX7_itemHere_95 rfl (fun H locs hP hD hS => ?_)
    have hP : va_P D vwCl [(am, .inr (7, [.ref am0, .ref am1, .ref am2, .ref am3, .int r95.1, .ref am4, .int r95.2.1, .int r95.2.2.1, .int r95.2.2.2.1, .int r95.2.2.2.2.1, .int r95.2.2.2.2.2.1, .int r95.2.2.2.2.2.2.1, .ref am5, .int r95.2.2.2.2.2.2.2.1, .ref am6, .ref am7, .ref am8, .ref am9, .ref am10, .ref am11, .ref am12, .int r95.2.2.2.2.2.2.2.2.1, .int r95.2.2.2.2.2.2.2.2.2.1, .int r95.2.2.2.2.2.2.2.2.2.2.1, .int r95.2.2.2.2.2.2.2.2.2.2.2.1, .int r95.2.2.2.2.2.2.2.2.2.2.2.2])), (am0, .inl (cy 0, 48, .inl u_s)), (am4, .inl (cy 0, 200, .inl u_tape))] H := hP
    have hD : va_D A [(am, .inr (7, [.ref am0, .ref am1, .ref am2, .ref am3, .int r95.1, .ref am4, .int r95.2.1, .int r95.2.2.1, .int r95.2.2.2.1, .int r95.2.2.2.2.1, .int r95.2.2.2.2.2.1, .int r95.2.2.2.2.2.2.1, .ref am5, .int r95.2.2.2.2.2.2.2.1, .ref am6, .ref am7, .ref am8, .ref am9, .ref am10, .ref am11, .ref am12, .int r95.2.2.2.2.2.2.2.2.1, .int r95.2.2.2.2.2.2.2.2.2.1, .int r95.2.2.2.2.2.2.2.2.2.2.1, .int r95.2.2.2.2.2.2.2.2.2.2.2.1, .int r95.2.2.2.2.2.2.2.2.2.2.2.2])), (am0, .inl (cy 0, 48, .inl u_s)), (am4, .inl (cy 0, 200, .inl u_tape))] := hD
    exact W.vret hx hb hr (fun t ht hW => hfin r95.1 r95.2.1 r95.2.2.1 r95.2.2.2.1 r95.2.2.2.2.1 r95.2.2.2.2.2.1 r95.2.2.2.2.2.2.1 r95.2.2.2.2.2.2.2.1 r95.2.2.2.2.2.2.2.2.1 r95.2.2.2.2.2.2.2.2.2.1 r95.2.2.2.2.2.2.2.2.2.2.1 r95.2.2.2.2.2.2.2.2.2.2.2.1 r95.2.2.2.2.2.2.2.2.2.2.2.2 u_s hf _ t ht hP (hS.F ht)) hS.2.2 dX7_itemHere_98
  have hB94 : ∀ (M_isHeld : Int32) (M_taped : Int32) (M_token : Int32) (M_from : Int32) (M_to : Int32) (M_value : Int32) (M_isWrong : Int32) (M_rowN : Int32) (M_ran : Int32) (M_actKind : Int32) (M_actN : Int32) (M_actA : Int32) (M_isParted : Int32) (u_s : (Nat → Int32)), fX7_itemHere_b94 n u_tape  (M_isHeld, M_taped, M_token, M_from, M_to, M_value, M_isWrong, M_rowN, M_ran, M_actKind, M_actN, M_actA, M_isParted) u_s = some z → ∀ (H : Heap) (locs : List Loc), va_P D vwCl [(am, .inr (7, [.ref am0, .ref am1, .ref am2, .ref am3, .int M_isHeld, .ref am4, .int M_taped, .int M_token, .int M_from, .int M_to, .int M_value, .int M_isWrong, .ref am5, .int M_rowN, .ref am6, .ref am7, .ref am8, .ref am9, .ref am10, .ref am11, .ref am12, .int M_ran, .int M_actKind, .int M_actN, .int M_actA, .int M_isParted])), (am0, .inl (cy 0, 48, .inl u_s)), (am4, .inl (cy 0, 200, .inl u_tape))] H → va_D A [(am, .inr (7, [.ref am0, .ref am1, .ref am2, .ref am3, .int M_isHeld, .ref am4, .int M_taped, .int M_token, .int M_from, .int M_to, .int M_value, .int M_isWrong, .ref am5, .int M_rowN, .ref am6, .ref am7, .ref am8, .ref am9, .ref am10, .ref am11, .ref am12, .int M_ran, .int M_actKind, .int M_actN, .int M_actA, .int M_isParted])), (am0, .inl (cy 0, 48, .inl u_s)), (am4, .inl (cy 0, 200, .inl u_tape))] → va_S A s.heap H locs → ∀ (ls : Array Slot), lv_has ls 3 [(0, .ref am)] → W p l e (headSpec wsX7_itemHere ({ frames := 5, cells := 0, slots := 0, locals := 108 })).room s m ([.ref am] : List Value).toArray below meth c H locs 0 0 (MQ below (Qw (none) D [(am, .inr (7, [.ref am0, .ref am1, .ref am2, .ref am3, .int z.1.1, .ref am4, .int z.1.2.1, .int z.1.2.2.1, .int z.1.2.2.2.1, .int z.1.2.2.2.2.1, .int z.1.2.2.2.2.2.1, .int z.1.2.2.2.2.2.2.1, .ref am5, .int z.1.2.2.2.2.2.2.2.1, .ref am6, .ref am7, .ref am8, .ref am9, .ref am10, .ref am11, .ref am12, .int z.1.2.2.2.2.2.2.2.2.1, .int z.1.2.2.2.2.2.2.2.2.2.1, .int z.1.2.2.2.2.2.2.2.2.2.2.1, .int z.1.2.2.2.2.2.2.2.2.2.2.2.1, .int z.1.2.2.2.2.2.2.2.2.2.2.2.2])), (am0, .inl (cy 0, 48, .inl z.2)), (am4, .inl (cy 0, 200, .inl u_tape))] A) ([.ref am] : List Value).toArray s 0 0 A) (F0 m 94 ls [.ref am]) := by
    intro M_isHeld M_taped M_token M_from M_to M_value M_isWrong M_rowN M_ran M_actKind M_actN M_actA M_isParted u_s hf H locs hP hD hS ls hl
    have hf : (fX7_itemHere_b95 n u_tape  (M_isHeld, M_taped, M_token, M_from, M_to, M_value, M_isWrong, M_rowN, M_ran, M_actKind, M_actN, M_actA, M_isParted) u_s (0 : Int32)) = some z := hf
    refine lv_iconst (v := (0 : Int32)) hx hb dX7_itemHere_94 (by decide) ?_
    exact hB95 M_isHeld M_taped M_token M_from M_to M_value M_isWrong M_rowN M_ran M_actKind M_actN M_actA M_isParted u_s (0 : Int32) hf _ _ hP hD hS _ (lv_sub hl [0] rfl)
  have hB68 : ∀ (M_isHeld : Int32) (M_taped : Int32) (M_token : Int32) (M_from : Int32) (M_to : Int32) (M_value : Int32) (M_isWrong : Int32) (M_rowN : Int32) (M_ran : Int32) (M_actKind : Int32) (M_actN : Int32) (M_actA : Int32) (M_isParted : Int32) (u_s : (Nat → Int32)), fX7_itemHere_b68 n u_tape  (M_isHeld, M_taped, M_token, M_from, M_to, M_value, M_isWrong, M_rowN, M_ran, M_actKind, M_actN, M_actA, M_isParted) u_s = some z → ∀ (H : Heap) (locs : List Loc), va_P D vwCl [(am, .inr (7, [.ref am0, .ref am1, .ref am2, .ref am3, .int M_isHeld, .ref am4, .int M_taped, .int M_token, .int M_from, .int M_to, .int M_value, .int M_isWrong, .ref am5, .int M_rowN, .ref am6, .ref am7, .ref am8, .ref am9, .ref am10, .ref am11, .ref am12, .int M_ran, .int M_actKind, .int M_actN, .int M_actA, .int M_isParted])), (am0, .inl (cy 0, 48, .inl u_s)), (am4, .inl (cy 0, 200, .inl u_tape))] H → va_D A [(am, .inr (7, [.ref am0, .ref am1, .ref am2, .ref am3, .int M_isHeld, .ref am4, .int M_taped, .int M_token, .int M_from, .int M_to, .int M_value, .int M_isWrong, .ref am5, .int M_rowN, .ref am6, .ref am7, .ref am8, .ref am9, .ref am10, .ref am11, .ref am12, .int M_ran, .int M_actKind, .int M_actN, .int M_actA, .int M_isParted])), (am0, .inl (cy 0, 48, .inl u_s)), (am4, .inl (cy 0, 200, .inl u_tape))] → va_S A s.heap H locs → ∀ (ls : Array Slot), lv_has ls 3 [(0, .ref am)] → W p l e (headSpec wsX7_itemHere ({ frames := 5, cells := 0, slots := 0, locals := 108 })).room s m ([.ref am] : List Value).toArray below meth c H locs 0 0 (MQ below (Qw (none) D [(am, .inr (7, [.ref am0, .ref am1, .ref am2, .ref am3, .int z.1.1, .ref am4, .int z.1.2.1, .int z.1.2.2.1, .int z.1.2.2.2.1, .int z.1.2.2.2.2.1, .int z.1.2.2.2.2.2.1, .int z.1.2.2.2.2.2.2.1, .ref am5, .int z.1.2.2.2.2.2.2.2.1, .ref am6, .ref am7, .ref am8, .ref am9, .ref am10, .ref am11, .ref am12, .int z.1.2.2.2.2.2.2.2.2.1, .int z.1.2.2.2.2.2.2.2.2.2.1, .int z.1.2.2.2.2.2.2.2.2.2.2.1, .int z.1.2.2.2.2.2.2.2.2.2.2.2.1, .int z.1.2.2.2.2.2.2.2.2.2.2.2.2])), (am0, .inl (cy 0, 48, .inl z.2)), (am4, .inl (cy 0, 200, .inl u_tape))] A) ([.ref am] : List Value).toArray s 0 0 A) (F0 m 68 ls []) := by
    intro M_isHeld M_taped M_token M_from M_to M_value M_isWrong M_rowN M_ran M_actKind M_actN M_actA M_isParted u_s hf H locs hP hD hS ls hl
    have hf : (if M_token = (3 : Int32) then ((fX7_byteAt n (M_isHeld, M_taped, M_token, M_from, M_to, M_value, M_isWrong, M_rowN, M_ran, M_actKind, M_actN, M_actA, M_isParted) u_tape M_from).bind fun r82 => if r82 = (59 : Int32) then (fX7_itemHere_b95 n u_tape  (M_isHeld, M_taped, M_token, M_from, M_to, M_value, M_isWrong, M_rowN, M_ran, M_actKind, M_actN, M_actA, M_isParted) u_s (1 : Int32)) else (fX7_itemHere_b94 n u_tape  (M_isHeld, M_taped, M_token, M_from, M_to, M_value, M_isWrong, M_rowN, M_ran, M_actKind, M_actN, M_actA, M_isParted) u_s)) else (fX7_itemHere_b94 n u_tape  (M_isHeld, M_taped, M_token, M_from, M_to, M_value, M_isWrong, M_rowN, M_ran, M_actKind, M_actN, M_actA, M_isParted) u_s)) = some z := hf
    refine lv_aload_n hx hb dX7_itemHere_68 rfl (lv_at hl 0 rfl) ?_
    refine lv_aload_n hx hb dX7_itemHere_69 rfl (lv_at hl 0 rfl) ?_
    refine va_get (D := D) (ci := 7) (v := .int M_token) (C := RX7) (T := TX7) (N := 26) hx hb hts hin7 hown hK hP 0 rfl rfl 7 (by decide) fl81 (fun _ h9 => h9) rfl dX7_itemHere_70 ?_
    refine lv_iconst (v := (3 : Int32)) hx hb dX7_itemHere_73 (by decide) ?_
    refine lv_icmp_ne (tgt := 94) hx hb dX7_itemHere_74 (by decide) (fun c_74 => ?_) (fun c_74 => ?_)
    · have hf := zn hf c_74
      exact hB94 M_isHeld M_taped M_token M_from M_to M_value M_isWrong M_rowN M_ran M_actKind M_actN M_actA M_isParted u_s hf _ _ hP hD hS _ (lv_sub hl [0] rfl)
    · have hf := zp hf c_74
      refine lv_aload_n hx hb dX7_itemHere_77 rfl (lv_at hl 0 rfl) ?_
      refine lv_aload_n hx hb dX7_itemHere_78 rfl (lv_at hl 0 rfl) ?_
      refine va_get (D := D) (ci := 7) (v := .int M_from) (C := RX7) (T := TX7) (N := 26) hx hb hts hin7 hown hK hP 0 rfl rfl 8 (by decide) fl67 (fun _ h9 => h9) rfl dX7_itemHere_79 ?_
      obtain ⟨r82, hc82, hf⟩ := zb hf
      refine zvr (o := some (.int r82)) (As := [.int M_from]) (rest := [.ref am]) (stk := [.int r82, .ref am]) ⟨hx, hb, hml, hown, hts⟩ (mX7_byteAt l D cy st sk sv B am am0 am1 am2 am3 am4 am5 am6 am7 am8 am9 am10 am11 am12 n M_isHeld M_taped M_token M_from M_to M_value M_isWrong M_rowN M_ran M_actKind M_actN M_actA M_isParted u_tape M_from r82 hc82) (cwV 1 hts gX7_itemHere_X7_byteAt rfl rfl rfl (by decide +kernel) ⟨Nat.le_of_ble_eq_true rfl, Nat.le_of_ble_eq_true rfl⟩) hG hS hAB hP [0, 2] rfl 0 7 rfl rfl rfl rfl hl.1 rfl (Nat.le_of_ble_eq_true rfl) dX7_itemHere_82 rfl ?_
      refine lv_bipush (v := (59 : Int32)) hx hb dX7_itemHere_85 (by decide) ?_
      refine lv_icmp_ne (tgt := 94) hx hb dX7_itemHere_87 (by decide) (fun c_87 => ?_) (fun c_87 => ?_)
      · have hf := zn hf c_87
        exact hB94 M_isHeld M_taped M_token M_from M_to M_value M_isWrong M_rowN M_ran M_actKind M_actN M_actA M_isParted u_s hf _ _ hP hD hS _ (lv_sub hl [0] rfl)
      · have hf := zp hf c_87
        refine lv_iconst (v := (1 : Int32)) hx hb dX7_itemHere_90 (by decide) ?_
        refine lv_goto (tgt := 95) hx hb dX7_itemHere_91 (by decide) ?_
        exact hB95 M_isHeld M_taped M_token M_from M_to M_value M_isWrong M_rowN M_ran M_actKind M_actN M_actA M_isParted u_s (1 : Int32) hf _ _ hP hD hS _ (lv_sub hl [0] rfl)
  have hB65 : ∀ (M_isHeld : Int32) (M_taped : Int32) (M_token : Int32) (M_from : Int32) (M_to : Int32) (M_value : Int32) (M_isWrong : Int32) (M_rowN : Int32) (M_ran : Int32) (M_actKind : Int32) (M_actN : Int32) (M_actA : Int32) (M_isParted : Int32) (u_s : (Nat → Int32)) (w1 : Int32) (w2 : Int32), fX7_itemHere_b65 n u_tape  (M_isHeld, M_taped, M_token, M_from, M_to, M_value, M_isWrong, M_rowN, M_ran, M_actKind, M_actN, M_actA, M_isParted) u_s w1 w2 = some z → ∀ (H : Heap) (locs : List Loc), va_P D vwCl [(am, .inr (7, [.ref am0, .ref am1, .ref am2, .ref am3, .int M_isHeld, .ref am4, .int M_taped, .int M_token, .int M_from, .int M_to, .int M_value, .int M_isWrong, .ref am5, .int M_rowN, .ref am6, .ref am7, .ref am8, .ref am9, .ref am10, .ref am11, .ref am12, .int M_ran, .int M_actKind, .int M_actN, .int M_actA, .int M_isParted])), (am0, .inl (cy 0, 48, .inl u_s)), (am4, .inl (cy 0, 200, .inl u_tape))] H → va_D A [(am, .inr (7, [.ref am0, .ref am1, .ref am2, .ref am3, .int M_isHeld, .ref am4, .int M_taped, .int M_token, .int M_from, .int M_to, .int M_value, .int M_isWrong, .ref am5, .int M_rowN, .ref am6, .ref am7, .ref am8, .ref am9, .ref am10, .ref am11, .ref am12, .int M_ran, .int M_actKind, .int M_actN, .int M_actA, .int M_isParted])), (am0, .inl (cy 0, 48, .inl u_s)), (am4, .inl (cy 0, 200, .inl u_tape))] → va_S A s.heap H locs → ∀ (ls : Array Slot), lv_has ls 3 [(0, .ref am)] → W p l e (headSpec wsX7_itemHere ({ frames := 5, cells := 0, slots := 0, locals := 108 })).room s m ([.ref am] : List Value).toArray below meth c H locs 0 0 (MQ below (Qw (none) D [(am, .inr (7, [.ref am0, .ref am1, .ref am2, .ref am3, .int z.1.1, .ref am4, .int z.1.2.1, .int z.1.2.2.1, .int z.1.2.2.2.1, .int z.1.2.2.2.2.1, .int z.1.2.2.2.2.2.1, .int z.1.2.2.2.2.2.2.1, .ref am5, .int z.1.2.2.2.2.2.2.2.1, .ref am6, .ref am7, .ref am8, .ref am9, .ref am10, .ref am11, .ref am12, .int z.1.2.2.2.2.2.2.2.2.1, .int z.1.2.2.2.2.2.2.2.2.2.1, .int z.1.2.2.2.2.2.2.2.2.2.2.1, .int z.1.2.2.2.2.2.2.2.2.2.2.2.1, .int z.1.2.2.2.2.2.2.2.2.2.2.2.2])), (am0, .inl (cy 0, 48, .inl z.2)), (am4, .inl (cy 0, 200, .inl u_tape))] A) ([.ref am] : List Value).toArray s 0 0 A) (F0 m 65 ls [.int w2, .int w1, .ref am]) := by
    intro M_isHeld M_taped M_token M_from M_to M_value M_isWrong M_rowN M_ran M_actKind M_actN M_actA M_isParted u_s w1 w2 hf H locs hP hD hS ls hl
    have hf : ((fX7_numberTo n (M_isHeld, M_taped, M_token, M_from, M_to, M_value, M_isWrong, M_rowN, M_ran, M_actKind, M_actN, M_actA, M_isParted) u_s u_tape w1 w2).bind fun r65 => fX7_itemHere_b68 n u_tape  r65.1 r65.2) = some z := hf
    obtain ⟨r65, hc65, hf⟩ := zb hf
    refine zvw (o := none) (As := [.int w1, .int w2]) (rest := []) (stk := []) ⟨hx, hb, hml, hown, hts⟩ (mX7_numberTo l D cy st sk sv B am am0 am1 am2 am3 am4 am5 am6 am7 am8 am9 am10 am11 am12 _ n M_isHeld M_taped M_token M_from M_to M_value M_isWrong M_rowN M_ran M_actKind M_actN M_actA M_isParted u_s u_tape w1 w2 r65 hc65) (cwV 2 hts gX7_itemHere_X7_numberTo rfl rfl rfl (by decide +kernel) ⟨Nat.le_of_ble_eq_true rfl, Nat.le_of_ble_eq_true rfl⟩) hG hS hAB hA hP hD [0, 1, 2] (by decide) rfl rfl rfl rfl 0 7 rfl rfl rfl rfl hl.1 rfl (Nat.le_of_ble_eq_true rfl) dX7_itemHere_65 rfl (fun H locs hP hD hS => ?_)
    have hP : va_P D vwCl [(am, .inr (7, [.ref am0, .ref am1, .ref am2, .ref am3, .int r65.1.1, .ref am4, .int r65.1.2.1, .int r65.1.2.2.1, .int r65.1.2.2.2.1, .int r65.1.2.2.2.2.1, .int r65.1.2.2.2.2.2.1, .int r65.1.2.2.2.2.2.2.1, .ref am5, .int r65.1.2.2.2.2.2.2.2.1, .ref am6, .ref am7, .ref am8, .ref am9, .ref am10, .ref am11, .ref am12, .int r65.1.2.2.2.2.2.2.2.2.1, .int r65.1.2.2.2.2.2.2.2.2.2.1, .int r65.1.2.2.2.2.2.2.2.2.2.2.1, .int r65.1.2.2.2.2.2.2.2.2.2.2.2.1, .int r65.1.2.2.2.2.2.2.2.2.2.2.2.2])), (am0, .inl (cy 0, 48, .inl r65.2)), (am4, .inl (cy 0, 200, .inl u_tape))] H := hP
    have hD : va_D A [(am, .inr (7, [.ref am0, .ref am1, .ref am2, .ref am3, .int r65.1.1, .ref am4, .int r65.1.2.1, .int r65.1.2.2.1, .int r65.1.2.2.2.1, .int r65.1.2.2.2.2.1, .int r65.1.2.2.2.2.2.1, .int r65.1.2.2.2.2.2.2.1, .ref am5, .int r65.1.2.2.2.2.2.2.2.1, .ref am6, .ref am7, .ref am8, .ref am9, .ref am10, .ref am11, .ref am12, .int r65.1.2.2.2.2.2.2.2.2.1, .int r65.1.2.2.2.2.2.2.2.2.2.1, .int r65.1.2.2.2.2.2.2.2.2.2.2.1, .int r65.1.2.2.2.2.2.2.2.2.2.2.2.1, .int r65.1.2.2.2.2.2.2.2.2.2.2.2.2])), (am0, .inl (cy 0, 48, .inl r65.2)), (am4, .inl (cy 0, 200, .inl u_tape))] := hD
    exact hB68 r65.1.1 r65.1.2.1 r65.1.2.2.1 r65.1.2.2.2.1 r65.1.2.2.2.2.1 r65.1.2.2.2.2.2.1 r65.1.2.2.2.2.2.2.1 r65.1.2.2.2.2.2.2.2.1 r65.1.2.2.2.2.2.2.2.2.1 r65.1.2.2.2.2.2.2.2.2.2.1 r65.1.2.2.2.2.2.2.2.2.2.2.1 r65.1.2.2.2.2.2.2.2.2.2.2.2.1 r65.1.2.2.2.2.2.2.2.2.2.2.2.2 r65.2 hf _ _ hP hD hS _ (lv_sub hl [0] rfl)
  have hB48 : ∀ (M_isHeld : Int32) (M_taped : Int32) (M_token : Int32) (M_from : Int32) (M_to : Int32) (M_value : Int32) (M_isWrong : Int32) (M_rowN : Int32) (M_ran : Int32) (M_actKind : Int32) (M_actN : Int32) (M_actA : Int32) (M_isParted : Int32) (u_s : (Nat → Int32)) (y2 : Int32) (w1 : Int32), fX7_itemHere_b48 n u_tape  (M_isHeld, M_taped, M_token, M_from, M_to, M_value, M_isWrong, M_rowN, M_ran, M_actKind, M_actN, M_actA, M_isParted) u_s y2 w1 = some z → ∀ (H : Heap) (locs : List Loc), va_P D vwCl [(am, .inr (7, [.ref am0, .ref am1, .ref am2, .ref am3, .int M_isHeld, .ref am4, .int M_taped, .int M_token, .int M_from, .int M_to, .int M_value, .int M_isWrong, .ref am5, .int M_rowN, .ref am6, .ref am7, .ref am8, .ref am9, .ref am10, .ref am11, .ref am12, .int M_ran, .int M_actKind, .int M_actN, .int M_actA, .int M_isParted])), (am0, .inl (cy 0, 48, .inl u_s)), (am4, .inl (cy 0, 200, .inl u_tape))] H → va_D A [(am, .inr (7, [.ref am0, .ref am1, .ref am2, .ref am3, .int M_isHeld, .ref am4, .int M_taped, .int M_token, .int M_from, .int M_to, .int M_value, .int M_isWrong, .ref am5, .int M_rowN, .ref am6, .ref am7, .ref am8, .ref am9, .ref am10, .ref am11, .ref am12, .int M_ran, .int M_actKind, .int M_actN, .int M_actA, .int M_isParted])), (am0, .inl (cy 0, 48, .inl u_s)), (am4, .inl (cy 0, 200, .inl u_tape))] → va_S A s.heap H locs → ∀ (ls : Array Slot), lv_has ls 3 [(0, .ref am), (2, .int y2)] → W p l e (headSpec wsX7_itemHere ({ frames := 5, cells := 0, slots := 0, locals := 108 })).room s m ([.ref am] : List Value).toArray below meth c H locs 0 0 (MQ below (Qw (none) D [(am, .inr (7, [.ref am0, .ref am1, .ref am2, .ref am3, .int z.1.1, .ref am4, .int z.1.2.1, .int z.1.2.2.1, .int z.1.2.2.2.1, .int z.1.2.2.2.2.1, .int z.1.2.2.2.2.2.1, .int z.1.2.2.2.2.2.2.1, .ref am5, .int z.1.2.2.2.2.2.2.2.1, .ref am6, .ref am7, .ref am8, .ref am9, .ref am10, .ref am11, .ref am12, .int z.1.2.2.2.2.2.2.2.2.1, .int z.1.2.2.2.2.2.2.2.2.2.1, .int z.1.2.2.2.2.2.2.2.2.2.2.1, .int z.1.2.2.2.2.2.2.2.2.2.2.2.1, .int z.1.2.2.2.2.2.2.2.2.2.2.2.2])), (am0, .inl (cy 0, 48, .inl z.2)), (am4, .inl (cy 0, 200, .inl u_tape))] A) ([.ref am] : List Value).toArray s 0 0 A) (F0 m 48 ls [.int w1, .ref am]) := by
    intro M_isHeld M_taped M_token M_from M_to M_value M_isWrong M_rowN M_ran M_actKind M_actN M_actA M_isParted u_s y2 w1 hf H locs hP hD hS ls hl
    have hf : (if y2 = (3 : Int32) then (fX7_itemHere_b65 n u_tape  (M_isHeld, M_taped, M_token, M_from, M_to, M_value, M_isWrong, M_rowN, M_ran, M_actKind, M_actN, M_actA, M_isParted) u_s w1 (999 : Int32)) else ((fX7_mostOf n (y2 - (4 : Int32))).bind fun r62 => fX7_itemHere_b65 n u_tape  (M_isHeld, M_taped, M_token, M_from, M_to, M_value, M_isWrong, M_rowN, M_ran, M_actKind, M_actN, M_actA, M_isParted) u_s w1 r62)) = some z := hf
    refine lv_iload_n hx hb dX7_itemHere_48 rfl (lv_at hl 1 rfl) ?_
    refine lv_iconst (v := (3 : Int32)) hx hb dX7_itemHere_49 (by decide) ?_
    refine lv_icmp_ne (tgt := 59) hx hb dX7_itemHere_50 (by decide) (fun c_50 => ?_) (fun c_50 => ?_)
    · have hf := zn hf c_50
      refine lv_iload_n hx hb dX7_itemHere_59 rfl (lv_at hl 1 rfl) ?_
      refine lv_iconst (v := (4 : Int32)) hx hb dX7_itemHere_60 (by decide) ?_
      refine lv_isub hx hb dX7_itemHere_61 ?_
      obtain ⟨r62, hc62, hf⟩ := zb hf
      refine zsr (o := some (.int r62)) (As := [.int (y2 - (4 : Int32))]) (rest := [.int w1, .ref am]) (stk := [.int r62, .int w1, .ref am]) ⟨hx, hb, hml, hown, hts⟩ (mX7_mostOf l D cy st sk sv B  n (y2 - (4 : Int32)) r62 hc62) (va_cwS 1 hts gX7_itemHere_X7_mostOf rfl rfl rfl (by decide +kernel) ⟨Nat.le_of_ble_eq_true rfl, Nat.le_of_ble_eq_true rfl⟩) hG hS hAB hP [] rfl rfl hl.1 rfl (Nat.le_of_ble_eq_true rfl) dX7_itemHere_62 rfl ?_
      exact hB65 M_isHeld M_taped M_token M_from M_to M_value M_isWrong M_rowN M_ran M_actKind M_actN M_actA M_isParted u_s w1 r62 hf _ _ hP hD hS _ (lv_sub hl [0] rfl)
    · have hf := zp hf c_50
      refine lv_sipush (v := (999 : Int32)) hx hb dX7_itemHere_53 (by decide) ?_
      refine lv_goto (tgt := 65) hx hb dX7_itemHere_56 (by decide) ?_
      exact hB65 M_isHeld M_taped M_token M_from M_to M_value M_isWrong M_rowN M_ran M_actKind M_actN M_actA M_isParted u_s w1 (999 : Int32) hf _ _ hP hD hS _ (lv_sub hl [0] rfl)
  have hB32 : ∀ (M_isHeld : Int32) (M_taped : Int32) (M_token : Int32) (M_from : Int32) (M_to : Int32) (M_value : Int32) (M_isWrong : Int32) (M_rowN : Int32) (M_ran : Int32) (M_actKind : Int32) (M_actN : Int32) (M_actA : Int32) (M_isParted : Int32) (u_s : (Nat → Int32)) (y2 : Int32) (w1 : Int32), fX7_itemHere_b32 n u_tape  (M_isHeld, M_taped, M_token, M_from, M_to, M_value, M_isWrong, M_rowN, M_ran, M_actKind, M_actN, M_actA, M_isParted) u_s y2 w1 = some z → ∀ (H : Heap) (locs : List Loc), va_P D vwCl [(am, .inr (7, [.ref am0, .ref am1, .ref am2, .ref am3, .int M_isHeld, .ref am4, .int M_taped, .int M_token, .int M_from, .int M_to, .int M_value, .int M_isWrong, .ref am5, .int M_rowN, .ref am6, .ref am7, .ref am8, .ref am9, .ref am10, .ref am11, .ref am12, .int M_ran, .int M_actKind, .int M_actN, .int M_actA, .int M_isParted])), (am0, .inl (cy 0, 48, .inl u_s)), (am4, .inl (cy 0, 200, .inl u_tape))] H → va_D A [(am, .inr (7, [.ref am0, .ref am1, .ref am2, .ref am3, .int M_isHeld, .ref am4, .int M_taped, .int M_token, .int M_from, .int M_to, .int M_value, .int M_isWrong, .ref am5, .int M_rowN, .ref am6, .ref am7, .ref am8, .ref am9, .ref am10, .ref am11, .ref am12, .int M_ran, .int M_actKind, .int M_actN, .int M_actA, .int M_isParted])), (am0, .inl (cy 0, 48, .inl u_s)), (am4, .inl (cy 0, 200, .inl u_tape))] → va_S A s.heap H locs → ∀ (ls : Array Slot), lv_has ls 3 [(0, .ref am), (2, .int y2)] → W p l e (headSpec wsX7_itemHere ({ frames := 5, cells := 0, slots := 0, locals := 108 })).room s m ([.ref am] : List Value).toArray below meth c H locs 0 0 (MQ below (Qw (none) D [(am, .inr (7, [.ref am0, .ref am1, .ref am2, .ref am3, .int z.1.1, .ref am4, .int z.1.2.1, .int z.1.2.2.1, .int z.1.2.2.2.1, .int z.1.2.2.2.2.1, .int z.1.2.2.2.2.2.1, .int z.1.2.2.2.2.2.2.1, .ref am5, .int z.1.2.2.2.2.2.2.2.1, .ref am6, .ref am7, .ref am8, .ref am9, .ref am10, .ref am11, .ref am12, .int z.1.2.2.2.2.2.2.2.2.1, .int z.1.2.2.2.2.2.2.2.2.2.1, .int z.1.2.2.2.2.2.2.2.2.2.2.1, .int z.1.2.2.2.2.2.2.2.2.2.2.2.1, .int z.1.2.2.2.2.2.2.2.2.2.2.2.2])), (am0, .inl (cy 0, 48, .inl z.2)), (am4, .inl (cy 0, 200, .inl u_tape))] A) ([.ref am] : List Value).toArray s 0 0 A) (F0 m 32 ls [.int w1, .ref am]) := by
    intro M_isHeld M_taped M_token M_from M_to M_value M_isWrong M_rowN M_ran M_actKind M_actN M_actA M_isParted u_s y2 w1 hf H locs hP hD hS ls hl
    have hf : ((fX7_needs n (M_isHeld, M_taped, M_token, M_from, M_to, M_value, M_isWrong, M_rowN, M_ran, M_actKind, M_actN, M_actA, M_isParted) u_tape w1).bind fun r32 => if r32.2.2.2.2.2.2.1 = 0 then (fX7_itemHere_b48 n u_tape  r32 u_s y2 y2) else (fX7_itemHere_b48 n u_tape  r32 u_s y2 (0 : Int32))) = some z := hf
    obtain ⟨r32, hc32, hf⟩ := zb hf
    refine zvw (o := none) (As := [.int w1]) (rest := []) (stk := []) ⟨hx, hb, hml, hown, hts⟩ (mX7_needs l D cy st sk sv B am am0 am1 am2 am3 am4 am5 am6 am7 am8 am9 am10 am11 am12 _ n M_isHeld M_taped M_token M_from M_to M_value M_isWrong M_rowN M_ran M_actKind M_actN M_actA M_isParted u_tape w1 r32 hc32) (cwV 1 hts gX7_itemHere_X7_needs rfl rfl rfl (by decide +kernel) ⟨Nat.le_of_ble_eq_true rfl, Nat.le_of_ble_eq_true rfl⟩) hG hS hAB hA hP hD [0, 2] (by decide) rfl rfl rfl rfl 0 7 rfl rfl rfl rfl hl.1 rfl (Nat.le_of_ble_eq_true rfl) dX7_itemHere_32 rfl (fun H locs hP hD hS => ?_)
    have hP : va_P D vwCl [(am, .inr (7, [.ref am0, .ref am1, .ref am2, .ref am3, .int r32.1, .ref am4, .int r32.2.1, .int r32.2.2.1, .int r32.2.2.2.1, .int r32.2.2.2.2.1, .int r32.2.2.2.2.2.1, .int r32.2.2.2.2.2.2.1, .ref am5, .int r32.2.2.2.2.2.2.2.1, .ref am6, .ref am7, .ref am8, .ref am9, .ref am10, .ref am11, .ref am12, .int r32.2.2.2.2.2.2.2.2.1, .int r32.2.2.2.2.2.2.2.2.2.1, .int r32.2.2.2.2.2.2.2.2.2.2.1, .int r32.2.2.2.2.2.2.2.2.2.2.2.1, .int r32.2.2.2.2.2.2.2.2.2.2.2.2])), (am0, .inl (cy 0, 48, .inl u_s)), (am4, .inl (cy 0, 200, .inl u_tape))] H := hP
    have hD : va_D A [(am, .inr (7, [.ref am0, .ref am1, .ref am2, .ref am3, .int r32.1, .ref am4, .int r32.2.1, .int r32.2.2.1, .int r32.2.2.2.1, .int r32.2.2.2.2.1, .int r32.2.2.2.2.2.1, .int r32.2.2.2.2.2.2.1, .ref am5, .int r32.2.2.2.2.2.2.2.1, .ref am6, .ref am7, .ref am8, .ref am9, .ref am10, .ref am11, .ref am12, .int r32.2.2.2.2.2.2.2.2.1, .int r32.2.2.2.2.2.2.2.2.2.1, .int r32.2.2.2.2.2.2.2.2.2.2.1, .int r32.2.2.2.2.2.2.2.2.2.2.2.1, .int r32.2.2.2.2.2.2.2.2.2.2.2.2])), (am0, .inl (cy 0, 48, .inl u_s)), (am4, .inl (cy 0, 200, .inl u_tape))] := hD
    refine lv_aload_n hx hb dX7_itemHere_35 rfl (lv_at hl 0 rfl) ?_
    refine lv_aload_n hx hb dX7_itemHere_36 rfl (lv_at hl 0 rfl) ?_
    refine va_get (D := D) (ci := 7) (v := .int r32.2.2.2.2.2.2.1) (C := RX7) (T := TX7) (N := 26) hx hb hts hin7 hown hK hP 0 rfl rfl 11 (by decide) fl87 (fun _ h9 => h9) rfl dX7_itemHere_37 ?_
    refine lv_if_eq (tgt := 47) hx hb dX7_itemHere_40 (by decide) (fun c_40 => ?_) (fun c_40 => ?_)
    · have hf := zp hf c_40
      refine lv_iload_n hx hb dX7_itemHere_47 rfl (lv_at hl 1 rfl) ?_
      exact hB48 r32.1 r32.2.1 r32.2.2.1 r32.2.2.2.1 r32.2.2.2.2.1 r32.2.2.2.2.2.1 r32.2.2.2.2.2.2.1 r32.2.2.2.2.2.2.2.1 r32.2.2.2.2.2.2.2.2.1 r32.2.2.2.2.2.2.2.2.2.1 r32.2.2.2.2.2.2.2.2.2.2.1 r32.2.2.2.2.2.2.2.2.2.2.2.1 r32.2.2.2.2.2.2.2.2.2.2.2.2 u_s y2 y2 hf _ _ hP hD hS _ (lv_sub hl [0, 1] rfl)
    · have hf := zn hf c_40
      refine lv_iconst (v := (0 : Int32)) hx hb dX7_itemHere_43 (by decide) ?_
      refine lv_goto (tgt := 48) hx hb dX7_itemHere_44 (by decide) ?_
      exact hB48 r32.1 r32.2.1 r32.2.2.1 r32.2.2.2.1 r32.2.2.2.2.1 r32.2.2.2.2.2.1 r32.2.2.2.2.2.2.1 r32.2.2.2.2.2.2.2.1 r32.2.2.2.2.2.2.2.2.1 r32.2.2.2.2.2.2.2.2.2.1 r32.2.2.2.2.2.2.2.2.2.2.1 r32.2.2.2.2.2.2.2.2.2.2.2.1 r32.2.2.2.2.2.2.2.2.2.2.2.2 u_s y2 (0 : Int32) hf _ _ hP hD hS _ (lv_sub hl [0, 1] rfl)
  have hl := lv_entry ([.ref am]) (n := 3) (Nat.le_of_ble_eq_true rfl)
  rw [lg_entry_eq]
  generalize (lg_sl ([.ref am]) ++ List.replicate (3 - (lg_sl ([.ref am])).length) Slot.unset).toArray = ls at hl ⊢
  have hl : lv_has ls 3 [(0, .ref am)] := hl
  have hf : ((fX7_kindHere n (M_isHeld, M_taped, M_token, M_from, M_to, M_value, M_isWrong, M_rowN, M_ran, M_actKind, M_actN, M_actA, M_isParted) u_tape).bind fun r1 => (fX7_lawHere n (M_isHeld, M_taped, M_token, M_from, M_to, M_value, M_isWrong, M_rowN, M_ran, M_actKind, M_actN, M_actA, M_isParted) u_tape).bind fun r6 => if r1 < 0 then (if r6 < 0 then (fX7_itemHere_b32 n u_tape  (M_isHeld, M_taped, M_token, M_from, M_to, M_value, M_isWrong, M_rowN, M_ran, M_actKind, M_actN, M_actA, M_isParted) u_s r6 (0 : Int32)) else (fX7_itemHere_b32 n u_tape  (M_isHeld, M_taped, M_token, M_from, M_to, M_value, M_isWrong, M_rowN, M_ran, M_actKind, M_actN, M_actA, M_isParted) u_s r6 (1 : Int32))) else ((fX7_guestHere n (M_isHeld, M_taped, M_token, M_from, M_to, M_value, M_isWrong, M_rowN, M_ran, M_actKind, M_actN, M_actA, M_isParted) u_s u_tape r1).bind fun r16 => fX7_itemHere_b68 n u_tape  r16.1 r16.2)) = some z := hf
  refine lv_aload_n hx hb dX7_itemHere_0 rfl (lv_at hl 0 rfl) ?_
  obtain ⟨r1, hc1, hf⟩ := zb hf
  refine zvr (o := some (.int r1)) (As := []) (rest := []) (stk := [.int r1]) ⟨hx, hb, hml, hown, hts⟩ (mX7_kindHere l D cy st sk sv B am am0 am1 am2 am3 am4 am5 am6 am7 am8 am9 am10 am11 am12 n M_isHeld M_taped M_token M_from M_to M_value M_isWrong M_rowN M_ran M_actKind M_actN M_actA M_isParted u_tape r1 hc1) (cwV 0 hts gX7_itemHere_X7_kindHere rfl rfl rfl (by decide +kernel) ⟨Nat.le_of_ble_eq_true rfl, Nat.le_of_ble_eq_true rfl⟩) hG hS hAB hP [0, 2] rfl 0 7 rfl rfl rfl rfl hl.1 rfl (Nat.le_of_ble_eq_true rfl) dX7_itemHere_1 rfl ?_
  refine lv_istore_n (lv' := [(1, .int r1), (0, .ref am)]) hx hb dX7_itemHere_4 rfl hl (by decide) rfl (fun ls hl => ?_)
  refine lv_aload_n hx hb dX7_itemHere_5 rfl (lv_at hl 1 rfl) ?_
  obtain ⟨r6, hc6, hf⟩ := zb hf
  refine zvr (o := some (.int r6)) (As := []) (rest := []) (stk := [.int r6]) ⟨hx, hb, hml, hown, hts⟩ (mX7_lawHere l D cy st sk sv B am am0 am1 am2 am3 am4 am5 am6 am7 am8 am9 am10 am11 am12 n M_isHeld M_taped M_token M_from M_to M_value M_isWrong M_rowN M_ran M_actKind M_actN M_actA M_isParted u_tape r6 hc6) (cwV 0 hts gX7_itemHere_X7_lawHere rfl rfl rfl (by decide +kernel) ⟨Nat.le_of_ble_eq_true rfl, Nat.le_of_ble_eq_true rfl⟩) hG hS hAB hP [0, 2] rfl 0 7 rfl rfl rfl rfl hl.1 rfl (Nat.le_of_ble_eq_true rfl) dX7_itemHere_6 rfl ?_
  refine lv_istore_n (lv' := [(2, .int r6), (1, .int r1), (0, .ref am)]) hx hb dX7_itemHere_9 rfl hl (by decide) rfl (fun ls hl => ?_)
  refine lv_iload_n hx hb dX7_itemHere_10 rfl (lv_at hl 1 rfl) ?_
  refine lv_if_lt (tgt := 22) hx hb dX7_itemHere_11 (by decide) (fun c_11 => ?_) (fun c_11 => ?_)
  · have hf := zp hf c_11
    refine lv_aload_n hx hb dX7_itemHere_22 rfl (lv_at hl 2 rfl) ?_
    refine lv_iload_n hx hb dX7_itemHere_23 rfl (lv_at hl 0 rfl) ?_
    refine lv_if_lt (tgt := 31) hx hb dX7_itemHere_24 (by decide) (fun c_24 => ?_) (fun c_24 => ?_)
    · have hf := zp hf c_24
      refine lv_iconst (v := (0 : Int32)) hx hb dX7_itemHere_31 (by decide) ?_
      exact hB32 M_isHeld M_taped M_token M_from M_to M_value M_isWrong M_rowN M_ran M_actKind M_actN M_actA M_isParted u_s r6 (0 : Int32) hf _ _ hP hD hS _ (lv_sub hl [2, 0] rfl)
    · have hf := zn hf c_24
      refine lv_iconst (v := (1 : Int32)) hx hb dX7_itemHere_27 (by decide) ?_
      refine lv_goto (tgt := 32) hx hb dX7_itemHere_28 (by decide) ?_
      exact hB32 M_isHeld M_taped M_token M_from M_to M_value M_isWrong M_rowN M_ran M_actKind M_actN M_actA M_isParted u_s r6 (1 : Int32) hf _ _ hP hD hS _ (lv_sub hl [2, 0] rfl)
  · have hf := zn hf c_11
    refine lv_aload_n hx hb dX7_itemHere_14 rfl (lv_at hl 2 rfl) ?_
    refine lv_iload_n hx hb dX7_itemHere_15 rfl (lv_at hl 1 rfl) ?_
    obtain ⟨r16, hc16, hf⟩ := zb hf
    refine zvw (o := none) (As := [.int r1]) (rest := []) (stk := []) ⟨hx, hb, hml, hown, hts⟩ (mX7_guestHere l D cy st sk sv B am am0 am1 am2 am3 am4 am5 am6 am7 am8 am9 am10 am11 am12 _ n M_isHeld M_taped M_token M_from M_to M_value M_isWrong M_rowN M_ran M_actKind M_actN M_actA M_isParted u_s u_tape r1 r16 hc16) (cwV 1 hts gX7_itemHere_X7_guestHere rfl rfl rfl (by decide +kernel) ⟨Nat.le_of_ble_eq_true rfl, Nat.le_of_ble_eq_true rfl⟩) hG hS hAB hA hP hD [0, 1, 2] (by decide) rfl rfl rfl rfl 0 7 rfl rfl rfl rfl hl.1 rfl (Nat.le_of_ble_eq_true rfl) dX7_itemHere_16 rfl (fun H locs hP hD hS => ?_)
    have hP : va_P D vwCl [(am, .inr (7, [.ref am0, .ref am1, .ref am2, .ref am3, .int r16.1.1, .ref am4, .int r16.1.2.1, .int r16.1.2.2.1, .int r16.1.2.2.2.1, .int r16.1.2.2.2.2.1, .int r16.1.2.2.2.2.2.1, .int r16.1.2.2.2.2.2.2.1, .ref am5, .int r16.1.2.2.2.2.2.2.2.1, .ref am6, .ref am7, .ref am8, .ref am9, .ref am10, .ref am11, .ref am12, .int r16.1.2.2.2.2.2.2.2.2.1, .int r16.1.2.2.2.2.2.2.2.2.2.1, .int r16.1.2.2.2.2.2.2.2.2.2.2.1, .int r16.1.2.2.2.2.2.2.2.2.2.2.2.1, .int r16.1.2.2.2.2.2.2.2.2.2.2.2.2])), (am0, .inl (cy 0, 48, .inl r16.2)), (am4, .inl (cy 0, 200, .inl u_tape))] H := hP
    have hD : va_D A [(am, .inr (7, [.ref am0, .ref am1, .ref am2, .ref am3, .int r16.1.1, .ref am4, .int r16.1.2.1, .int r16.1.2.2.1, .int r16.1.2.2.2.1, .int r16.1.2.2.2.2.1, .int r16.1.2.2.2.2.2.1, .int r16.1.2.2.2.2.2.2.1, .ref am5, .int r16.1.2.2.2.2.2.2.2.1, .ref am6, .ref am7, .ref am8, .ref am9, .ref am10, .ref am11, .ref am12, .int r16.1.2.2.2.2.2.2.2.2.1, .int r16.1.2.2.2.2.2.2.2.2.2.1, .int r16.1.2.2.2.2.2.2.2.2.2.2.1, .int r16.1.2.2.2.2.2.2.2.2.2.2.2.1, .int r16.1.2.2.2.2.2.2.2.2.2.2.2.2])), (am0, .inl (cy 0, 48, .inl r16.2)), (am4, .inl (cy 0, 200, .inl u_tape))] := hD
    refine lv_goto (tgt := 68) hx hb dX7_itemHere_19 (by decide) ?_
    exact hB68 r16.1.1 r16.1.2.1 r16.1.2.2.1 r16.1.2.2.2.1 r16.1.2.2.2.2.1 r16.1.2.2.2.2.2.1 r16.1.2.2.2.2.2.2.1 r16.1.2.2.2.2.2.2.2.1 r16.1.2.2.2.2.2.2.2.2.1 r16.1.2.2.2.2.2.2.2.2.2.1 r16.1.2.2.2.2.2.2.2.2.2.2.1 r16.1.2.2.2.2.2.2.2.2.2.2.2.1 r16.1.2.2.2.2.2.2.2.2.2.2.2.2 r16.2 hf _ _ hP hD hS _ (lv_sub hl [2] rfl)
set_option maxRecDepth 100000 in
set_option maxHeartbeats 100000000 in
theorem mX7_feast (l : Launch) (D : va_G) (cy : Nat → ClassId) (st sk sv : Nat → Nat) (B : Nat) (am : Nat) (am0 : Nat) (am1 : Nat) (am2 : Nat) (am3 : Nat) (am4 : Nat) (am5 : Nat) (am6 : Nat) (am7 : Nat) (am8 : Nat) (am9 : Nat) (am10 : Nat) (am11 : Nat) (am12 : Nat) (sz : Nat) (n : Nat) (M_isHeld : Int32) (M_taped : Int32) (M_token : Int32) (M_from : Int32) (M_to : Int32) (M_value : Int32) (M_isWrong : Int32) (M_rowN : Int32) (M_ran : Int32) (M_actKind : Int32) (M_actN : Int32) (M_actA : Int32) (M_isParted : Int32) (u_s : (Nat → Int32)) (u_before : (Nat → Int32)) (u_tape : (Nat → Int32))  (z : Int32 × MO × (Nat → Int32) × (Nat → Int32)) (hf : fX7_feast n (M_isHeld, M_taped, M_token, M_from, M_to, M_value, M_isWrong, M_rowN, M_ran, M_actKind, M_actN, M_actA, M_isParted) u_s u_before u_tape = some z) : Met l yX7_feast wsX7_feast ({ frames := 6, cells := 0, slots := 0, locals := 130 }) (PcW [.ref am] D cy st sk sv B sz [(am, .inr (7, [.ref am0, .ref am1, .ref am2, .ref am3, .int M_isHeld, .ref am4, .int M_taped, .int M_token, .int M_from, .int M_to, .int M_value, .int M_isWrong, .ref am5, .int M_rowN, .ref am6, .ref am7, .ref am8, .ref am9, .ref am10, .ref am11, .ref am12, .int M_ran, .int M_actKind, .int M_actN, .int M_actA, .int M_isParted])), (am0, .inl (cy 0, 48, .inl u_s)), (am3, .inl (cy 0, 48, .inl u_before)), (am4, .inl (cy 0, 200, .inl u_tape))]) (Qw (some (.int z.1)) D [(am, .inr (7, [.ref am0, .ref am1, .ref am2, .ref am3, .int z.2.1.1, .ref am4, .int z.2.1.2.1, .int z.2.1.2.2.1, .int z.2.1.2.2.2.1, .int z.2.1.2.2.2.2.1, .int z.2.1.2.2.2.2.2.1, .int z.2.1.2.2.2.2.2.2.1, .ref am5, .int z.2.1.2.2.2.2.2.2.2.1, .ref am6, .ref am7, .ref am8, .ref am9, .ref am10, .ref am11, .ref am12, .int z.2.1.2.2.2.2.2.2.2.2.1, .int z.2.1.2.2.2.2.2.2.2.2.2.1, .int z.2.1.2.2.2.2.2.2.2.2.2.2.1, .int z.2.1.2.2.2.2.2.2.2.2.2.2.2.1, .int z.2.1.2.2.2.2.2.2.2.2.2.2.2.2])), (am0, .inl (cy 0, 48, .inl z.2.2.1)), (am3, .inl (cy 0, 48, .inl z.2.2.2)), (am4, .inl (cy 0, 200, .inl u_tape))] (va_A [(am, .inr (7, [.ref am0, .ref am1, .ref am2, .ref am3, .int M_isHeld, .ref am4, .int M_taped, .int M_token, .int M_from, .int M_to, .int M_value, .int M_isWrong, .ref am5, .int M_rowN, .ref am6, .ref am7, .ref am8, .ref am9, .ref am10, .ref am11, .ref am12, .int M_ran, .int M_actKind, .int M_actN, .int M_actA, .int M_isParted])), (am0, .inl (cy 0, 48, .inl u_s)), (am3, .inl (cy 0, 48, .inl u_before)), (am4, .inl (cy 0, 200, .inl u_tape))] sz)) 0 0 (va_A [(am, .inr (7, [.ref am0, .ref am1, .ref am2, .ref am3, .int M_isHeld, .ref am4, .int M_taped, .int M_token, .int M_from, .int M_to, .int M_value, .int M_isWrong, .ref am5, .int M_rowN, .ref am6, .ref am7, .ref am8, .ref am9, .ref am10, .ref am11, .ref am12, .int M_ran, .int M_actKind, .int M_actN, .int M_actA, .int M_isParted])), (am0, .inl (cy 0, 48, .inl u_s)), (am3, .inl (cy 0, 48, .inl u_before)), (am4, .inl (cy 0, 200, .inl u_tape))] sz) := by
  refine Met.ofW (cc := cX7_feast) (maxL := 1) (ret := (some .int)) (by decide) rfl ?_
  intro p e s m args below meth c s₁ Bd hml hv
  obtain ⟨rfl, hsz, hP, hD0, hBs, hG⟩ := hv
  have hx := Bd.exec
  have hb := Bd.bytes
  have hr := Bd.returns
  have hts := atoms_spec (ws := wsX7_feast) Bd.pre
  have hown : s.vm.findClass RX7 = some m.cls := findClass_of_methodNamed Bd.named
  have hlocks := Bd.notSynchronized
  have hK := hG.1
  subst hsz
  have hD := hD0.self (sz := s.heap.size)
  have hAB0 := zA hD0 hBs
  generalize hAe : va_A [(am, .inr (7, [.ref am0, .ref am1, .ref am2, .ref am3, .int M_isHeld, .ref am4, .int M_taped, .int M_token, .int M_from, .int M_to, .int M_value, .int M_isWrong, .ref am5, .int M_rowN, .ref am6, .ref am7, .ref am8, .ref am9, .ref am10, .ref am11, .ref am12, .int M_ran, .int M_actKind, .int M_actN, .int M_actA, .int M_isParted])), (am0, .inl (cy 0, 48, .inl u_s)), (am3, .inl (cy 0, 48, .inl u_before)), (am4, .inl (cy 0, 200, .inl u_tape))] s.heap.size = A at hD hAB0 ⊢
  have hA : ∀ q : Nat, s.heap.size ≤ q → A q := fun q h => by rw [← hAe]; exact Or.inr h
  have hAB : ∀ q, A q → B ≤ q := hAB0
  have hS : va_S A s.heap s.heap [] := va_S.rf
  have hfin : ∀ (z0 : Int32) (M_isHeld : Int32) (M_taped : Int32) (M_token : Int32) (M_from : Int32) (M_to : Int32) (M_value : Int32) (M_isWrong : Int32) (M_rowN : Int32) (M_ran : Int32) (M_actKind : Int32) (M_actN : Int32) (M_actA : Int32) (M_isParted : Int32) (u_s : (Nat → Int32)) (u_before : (Nat → Int32)), some (z0, (M_isHeld, M_taped, M_token, M_from, M_to, M_value, M_isWrong, M_rowN, M_ran, M_actKind, M_actN, M_actA, M_isParted), u_s, u_before) = some z → ∀ (H : Heap) (t : State), t.heap = H → va_P D vwCl [(am, .inr (7, [.ref am0, .ref am1, .ref am2, .ref am3, .int M_isHeld, .ref am4, .int M_taped, .int M_token, .int M_from, .int M_to, .int M_value, .int M_isWrong, .ref am5, .int M_rowN, .ref am6, .ref am7, .ref am8, .ref am9, .ref am10, .ref am11, .ref am12, .int M_ran, .int M_actKind, .int M_actN, .int M_actA, .int M_isParted])), (am0, .inl (cy 0, 48, .inl u_s)), (am3, .inl (cy 0, 48, .inl u_before)), (am4, .inl (cy 0, 200, .inl u_tape))] H → va_F A s t → Qw (some (.int z.1)) D [(am, .inr (7, [.ref am0, .ref am1, .ref am2, .ref am3, .int z.2.1.1, .ref am4, .int z.2.1.2.1, .int z.2.1.2.2.1, .int z.2.1.2.2.2.1, .int z.2.1.2.2.2.2.1, .int z.2.1.2.2.2.2.2.1, .int z.2.1.2.2.2.2.2.2.1, .ref am5, .int z.2.1.2.2.2.2.2.2.2.1, .ref am6, .ref am7, .ref am8, .ref am9, .ref am10, .ref am11, .ref am12, .int z.2.1.2.2.2.2.2.2.2.2.1, .int z.2.1.2.2.2.2.2.2.2.2.2.1, .int z.2.1.2.2.2.2.2.2.2.2.2.2.1, .int z.2.1.2.2.2.2.2.2.2.2.2.2.2.1, .int z.2.1.2.2.2.2.2.2.2.2.2.2.2.2])), (am0, .inl (cy 0, 48, .inl z.2.2.1)), (am3, .inl (cy 0, 48, .inl z.2.2.2)), (am4, .inl (cy 0, 200, .inl u_tape))] A ([.ref am] : List Value).toArray s (.returned (some (.int z0))) t := by
    intro z0 M_isHeld M_taped M_token M_from M_to M_value M_isWrong M_rowN M_ran M_actKind M_actN M_actA M_isParted u_s u_before h9 H t ht hP hF
    cases h9
    exact ⟨rfl, by rw [ht]; exact hP, hF⟩
  have hin7 : ∀ w ∈ u_ws RX7 TX7 26, w ∈ wsX7_feast := by decide +kernel
  have fl7 := hts (.fieldLink RX7 7 "KinCutleryModel" "s" "[I") (by decide +kernel)
  have fl19 := hts (.fieldLink RX7 19 "KinCutleryModel" "before" "[I") (by decide +kernel)
  have fl58 := hts (.fieldLink RX7 58 "KinCutleryModel" "taped" "I") (by decide +kernel)
  have fl64 := hts (.fieldLink RX7 64 "KinCutleryModel" "to" "I") (by decide +kernel)
  have fl67 := hts (.fieldLink RX7 67 "KinCutleryModel" "from" "I") (by decide +kernel)
  have fl81 := hts (.fieldLink RX7 81 "KinCutleryModel" "token" "I") (by decide +kernel)
  have fl87 := hts (.fieldLink RX7 87 "KinCutleryModel" "isWrong" "Z") (by decide +kernel)
  have fl140 := hts (.fieldLink RX7 140 "KinCutleryModel" "rowN" "I") (by decide +kernel)
  have hB50 : ∀ (M_isHeld : Int32) (M_taped : Int32) (M_token : Int32) (M_from : Int32) (M_to : Int32) (M_value : Int32) (M_isWrong : Int32) (M_rowN : Int32) (M_ran : Int32) (M_actKind : Int32) (M_actN : Int32) (M_actA : Int32) (M_isParted : Int32) (u_s : (Nat → Int32)) (u_before : (Nat → Int32)), fX7_feast_b50 n u_tape  (M_isHeld, M_taped, M_token, M_from, M_to, M_value, M_isWrong, M_rowN, M_ran, M_actKind, M_actN, M_actA, M_isParted) u_s u_before = some z → ∀ (H : Heap) (locs : List Loc), va_P D vwCl [(am, .inr (7, [.ref am0, .ref am1, .ref am2, .ref am3, .int M_isHeld, .ref am4, .int M_taped, .int M_token, .int M_from, .int M_to, .int M_value, .int M_isWrong, .ref am5, .int M_rowN, .ref am6, .ref am7, .ref am8, .ref am9, .ref am10, .ref am11, .ref am12, .int M_ran, .int M_actKind, .int M_actN, .int M_actA, .int M_isParted])), (am0, .inl (cy 0, 48, .inl u_s)), (am3, .inl (cy 0, 48, .inl u_before)), (am4, .inl (cy 0, 200, .inl u_tape))] H → va_D A [(am, .inr (7, [.ref am0, .ref am1, .ref am2, .ref am3, .int M_isHeld, .ref am4, .int M_taped, .int M_token, .int M_from, .int M_to, .int M_value, .int M_isWrong, .ref am5, .int M_rowN, .ref am6, .ref am7, .ref am8, .ref am9, .ref am10, .ref am11, .ref am12, .int M_ran, .int M_actKind, .int M_actN, .int M_actA, .int M_isParted])), (am0, .inl (cy 0, 48, .inl u_s)), (am3, .inl (cy 0, 48, .inl u_before)), (am4, .inl (cy 0, 200, .inl u_tape))] → va_S A s.heap H locs → ∀ (ls : Array Slot), lv_has ls 1 [(0, .ref am)] → W p l e (headSpec wsX7_feast ({ frames := 6, cells := 0, slots := 0, locals := 130 })).room s m ([.ref am] : List Value).toArray below meth c H locs 0 0 (MQ below (Qw (some (.int z.1)) D [(am, .inr (7, [.ref am0, .ref am1, .ref am2, .ref am3, .int z.2.1.1, .ref am4, .int z.2.1.2.1, .int z.2.1.2.2.1, .int z.2.1.2.2.2.1, .int z.2.1.2.2.2.2.1, .int z.2.1.2.2.2.2.2.1, .int z.2.1.2.2.2.2.2.2.1, .ref am5, .int z.2.1.2.2.2.2.2.2.2.1, .ref am6, .ref am7, .ref am8, .ref am9, .ref am10, .ref am11, .ref am12, .int z.2.1.2.2.2.2.2.2.2.2.1, .int z.2.1.2.2.2.2.2.2.2.2.2.1, .int z.2.1.2.2.2.2.2.2.2.2.2.2.1, .int z.2.1.2.2.2.2.2.2.2.2.2.2.2.1, .int z.2.1.2.2.2.2.2.2.2.2.2.2.2.2])), (am0, .inl (cy 0, 48, .inl z.2.2.1)), (am3, .inl (cy 0, 48, .inl z.2.2.2)), (am4, .inl (cy 0, 200, .inl u_tape))] A) ([.ref am] : List Value).toArray s 0 0 A) (F0 m 50 ls []) := by
    intro M_isHeld M_taped M_token M_from M_to M_value M_isWrong M_rowN M_ran M_actKind M_actN M_actA M_isParted u_s u_before hf H locs hP hD hS ls hl
    have hf : (if M_isWrong = 0 then (some ((u_s (0 : Int32).toNatClampNeg), (M_isHeld, (0 : Int32), M_token, M_from, M_to, M_value, M_isWrong, (0 : Int32), M_ran, M_actKind, M_actN, M_actA, M_isParted), u_s, u_before)) else ((fX7_copyRow n u_before u_s).bind fun r70 => some (((-100 : Int32) - M_from), (M_isHeld, (0 : Int32), M_token, M_from, M_to, M_value, M_isWrong, M_rowN, M_ran, M_actKind, M_actN, M_actA, M_isParted), r70, u_before))) = some z := hf
    refine lv_aload_n hx hb dX7_feast_50 rfl (lv_at hl 0 rfl) ?_
    refine lv_iconst (v := (0 : Int32)) hx hb dX7_feast_51 (by decide) ?_
    refine va_put (D := D) (ci := 7) (v := .int (0 : Int32)) (ty := .int) (C := RX7) (T := TX7) (N := 26) hx hb hts hin7 tyX7 tyX7_ok nmX7 hown hK hP hD hS 0 rfl rfl 6 (by decide) fl58 (fun _ h9 => h9) rfl (by decide +kernel) rfl rfl (Nat.le_of_ble_eq_true rfl) dX7_feast_52 (fun H locs hP hD hS => ?_)
    have hP : va_P D vwCl [(am, .inr (7, [.ref am0, .ref am1, .ref am2, .ref am3, .int M_isHeld, .ref am4, .int (0 : Int32), .int M_token, .int M_from, .int M_to, .int M_value, .int M_isWrong, .ref am5, .int M_rowN, .ref am6, .ref am7, .ref am8, .ref am9, .ref am10, .ref am11, .ref am12, .int M_ran, .int M_actKind, .int M_actN, .int M_actA, .int M_isParted])), (am0, .inl (cy 0, 48, .inl u_s)), (am3, .inl (cy 0, 48, .inl u_before)), (am4, .inl (cy 0, 200, .inl u_tape))] H := hP
    have hD : va_D A [(am, .inr (7, [.ref am0, .ref am1, .ref am2, .ref am3, .int M_isHeld, .ref am4, .int (0 : Int32), .int M_token, .int M_from, .int M_to, .int M_value, .int M_isWrong, .ref am5, .int M_rowN, .ref am6, .ref am7, .ref am8, .ref am9, .ref am10, .ref am11, .ref am12, .int M_ran, .int M_actKind, .int M_actN, .int M_actA, .int M_isParted])), (am0, .inl (cy 0, 48, .inl u_s)), (am3, .inl (cy 0, 48, .inl u_before)), (am4, .inl (cy 0, 200, .inl u_tape))] := hD
    refine lv_aload_n hx hb dX7_feast_55 rfl (lv_at hl 0 rfl) ?_
    refine va_get (D := D) (ci := 7) (v := .int M_isWrong) (C := RX7) (T := TX7) (N := 26) hx hb hts hin7 hown hK hP 0 rfl rfl 11 (by decide) fl87 (fun _ h9 => h9) rfl dX7_feast_56 ?_
    refine lv_if_eq (tgt := 81) hx hb dX7_feast_59 (by decide) (fun c_59 => ?_) (fun c_59 => ?_)
    · have hf := zp hf c_59
      refine lv_aload_n hx hb dX7_feast_81 rfl (lv_at hl 0 rfl) ?_
      refine lv_iconst (v := (0 : Int32)) hx hb dX7_feast_82 (by decide) ?_
      refine va_put (D := D) (ci := 7) (v := .int (0 : Int32)) (ty := .int) (C := RX7) (T := TX7) (N := 26) hx hb hts hin7 tyX7 tyX7_ok nmX7 hown hK hP hD hS 0 rfl rfl 13 (by decide) fl140 (fun _ h9 => h9) rfl (by decide +kernel) rfl rfl (Nat.le_of_ble_eq_true rfl) dX7_feast_83 (fun H locs hP hD hS => ?_)
      have hP : va_P D vwCl [(am, .inr (7, [.ref am0, .ref am1, .ref am2, .ref am3, .int M_isHeld, .ref am4, .int (0 : Int32), .int M_token, .int M_from, .int M_to, .int M_value, .int M_isWrong, .ref am5, .int (0 : Int32), .ref am6, .ref am7, .ref am8, .ref am9, .ref am10, .ref am11, .ref am12, .int M_ran, .int M_actKind, .int M_actN, .int M_actA, .int M_isParted])), (am0, .inl (cy 0, 48, .inl u_s)), (am3, .inl (cy 0, 48, .inl u_before)), (am4, .inl (cy 0, 200, .inl u_tape))] H := hP
      have hD : va_D A [(am, .inr (7, [.ref am0, .ref am1, .ref am2, .ref am3, .int M_isHeld, .ref am4, .int (0 : Int32), .int M_token, .int M_from, .int M_to, .int M_value, .int M_isWrong, .ref am5, .int (0 : Int32), .ref am6, .ref am7, .ref am8, .ref am9, .ref am10, .ref am11, .ref am12, .int M_ran, .int M_actKind, .int M_actN, .int M_actA, .int M_isParted])), (am0, .inl (cy 0, 48, .inl u_s)), (am3, .inl (cy 0, 48, .inl u_before)), (am4, .inl (cy 0, 200, .inl u_tape))] := hD
      refine lv_aload_n hx hb dX7_feast_86 rfl (lv_at hl 0 rfl) ?_
      refine va_get (D := D) (ci := 7) (v := .ref am0) (C := RX7) (T := TX7) (N := 26) hx hb hts hin7 hown hK hP 0 rfl rfl 0 (by decide) fl7 (fun _ h9 => h9) rfl dX7_feast_87 ?_
      refine lv_iconst (v := (0 : Int32)) hx hb dX7_feast_90 (by decide) ?_
      refine va_iald hx hb hK hP 1 0 rfl rfl vi_0_48 dX7_feast_91 ?_
      exact W.iret hx hb hr (fun t ht hW => hfin (u_s (0 : Int32).toNatClampNeg) M_isHeld (0 : Int32) M_token M_from M_to M_value M_isWrong (0 : Int32) M_ran M_actKind M_actN M_actA M_isParted u_s u_before hf _ t ht hP (hS.F ht)) hS.2.2 dX7_feast_92
    · have hf := zn hf c_59
      refine lv_aload_n hx hb dX7_feast_62 rfl (lv_at hl 0 rfl) ?_
      refine va_get (D := D) (ci := 7) (v := .ref am3) (C := RX7) (T := TX7) (N := 26) hx hb hts hin7 hown hK hP 0 rfl rfl 3 (by decide) fl19 (fun _ h9 => h9) rfl dX7_feast_63 ?_
      refine lv_aload_n hx hb dX7_feast_66 rfl (lv_at hl 0 rfl) ?_
      refine va_get (D := D) (ci := 7) (v := .ref am0) (C := RX7) (T := TX7) (N := 26) hx hb hts hin7 hown hK hP 0 rfl rfl 0 (by decide) fl7 (fun _ h9 => h9) rfl dX7_feast_67 ?_
      obtain ⟨r70, hc70, hf⟩ := zb hf
      refine zsw (o := none) (As := [.ref am3, .ref am0]) (rest := []) (stk := []) ⟨hx, hb, hml, hown, hts⟩ (mX7_copyRow l D cy st sk sv B am3 am0 _ n u_before u_s r70 hc70) (va_cwS 2 hts gX7_feast_X7_copyRow rfl rfl rfl (by decide +kernel) ⟨Nat.le_of_ble_eq_true rfl, Nat.le_of_ble_eq_true rfl⟩) hG hS hAB hA hP hD [2, 1] (by decide) rfl rfl rfl rfl rfl hl.1 rfl (Nat.le_of_ble_eq_true rfl) dX7_feast_70 rfl (fun H locs hP hD hS => ?_)
      have hP : va_P D vwCl [(am, .inr (7, [.ref am0, .ref am1, .ref am2, .ref am3, .int M_isHeld, .ref am4, .int (0 : Int32), .int M_token, .int M_from, .int M_to, .int M_value, .int M_isWrong, .ref am5, .int M_rowN, .ref am6, .ref am7, .ref am8, .ref am9, .ref am10, .ref am11, .ref am12, .int M_ran, .int M_actKind, .int M_actN, .int M_actA, .int M_isParted])), (am0, .inl (cy 0, 48, .inl r70)), (am3, .inl (cy 0, 48, .inl u_before)), (am4, .inl (cy 0, 200, .inl u_tape))] H := hP
      have hD : va_D A [(am, .inr (7, [.ref am0, .ref am1, .ref am2, .ref am3, .int M_isHeld, .ref am4, .int (0 : Int32), .int M_token, .int M_from, .int M_to, .int M_value, .int M_isWrong, .ref am5, .int M_rowN, .ref am6, .ref am7, .ref am8, .ref am9, .ref am10, .ref am11, .ref am12, .int M_ran, .int M_actKind, .int M_actN, .int M_actA, .int M_isParted])), (am0, .inl (cy 0, 48, .inl r70)), (am3, .inl (cy 0, 48, .inl u_before)), (am4, .inl (cy 0, 200, .inl u_tape))] := hD
      refine lv_bipush (v := (-100 : Int32)) hx hb dX7_feast_73 (by decide) ?_
      refine lv_aload_n hx hb dX7_feast_75 rfl (lv_at hl 0 rfl) ?_
      refine va_get (D := D) (ci := 7) (v := .int M_from) (C := RX7) (T := TX7) (N := 26) hx hb hts hin7 hown hK hP 0 rfl rfl 8 (by decide) fl67 (fun _ h9 => h9) rfl dX7_feast_76 ?_
      refine lv_isub hx hb dX7_feast_79 ?_
      exact W.iret hx hb hr (fun t ht hW => hfin ((-100 : Int32) - M_from) M_isHeld (0 : Int32) M_token M_from M_to M_value M_isWrong M_rowN M_ran M_actKind M_actN M_actA M_isParted r70 u_before hf _ t ht hP (hS.F ht)) hS.2.2 dX7_feast_80
  have hL29 : ∀ (n0 : Nat) (M_isHeld : Int32) (M_taped : Int32) (M_token : Int32) (M_from : Int32) (M_to : Int32) (M_value : Int32) (M_isWrong : Int32) (M_rowN : Int32) (M_ran : Int32) (M_actKind : Int32) (M_actN : Int32) (M_actA : Int32) (M_isParted : Int32) (u_s : (Nat → Int32)) (u_before : (Nat → Int32)), lpF (fX7_feast_F29 n u_tape ) n0 ((M_isHeld, M_taped, M_token, M_from, M_to, M_value, M_isWrong, M_rowN, M_ran, M_actKind, M_actN, M_actA, M_isParted), u_s, u_before) = some z → ∀ (H : Heap) (locs : List Loc), va_P D vwCl [(am, .inr (7, [.ref am0, .ref am1, .ref am2, .ref am3, .int M_isHeld, .ref am4, .int M_taped, .int M_token, .int M_from, .int M_to, .int M_value, .int M_isWrong, .ref am5, .int M_rowN, .ref am6, .ref am7, .ref am8, .ref am9, .ref am10, .ref am11, .ref am12, .int M_ran, .int M_actKind, .int M_actN, .int M_actA, .int M_isParted])), (am0, .inl (cy 0, 48, .inl u_s)), (am3, .inl (cy 0, 48, .inl u_before)), (am4, .inl (cy 0, 200, .inl u_tape))] H → va_D A [(am, .inr (7, [.ref am0, .ref am1, .ref am2, .ref am3, .int M_isHeld, .ref am4, .int M_taped, .int M_token, .int M_from, .int M_to, .int M_value, .int M_isWrong, .ref am5, .int M_rowN, .ref am6, .ref am7, .ref am8, .ref am9, .ref am10, .ref am11, .ref am12, .int M_ran, .int M_actKind, .int M_actN, .int M_actA, .int M_isParted])), (am0, .inl (cy 0, 48, .inl u_s)), (am3, .inl (cy 0, 48, .inl u_before)), (am4, .inl (cy 0, 200, .inl u_tape))] → va_S A s.heap H locs → ∀ (ls : Array Slot), lv_has ls 1 [(0, .ref am)] → W p l e (headSpec wsX7_feast ({ frames := 6, cells := 0, slots := 0, locals := 130 })).room s m ([.ref am] : List Value).toArray below meth c H locs 0 0 (MQ below (Qw (some (.int z.1)) D [(am, .inr (7, [.ref am0, .ref am1, .ref am2, .ref am3, .int z.2.1.1, .ref am4, .int z.2.1.2.1, .int z.2.1.2.2.1, .int z.2.1.2.2.2.1, .int z.2.1.2.2.2.2.1, .int z.2.1.2.2.2.2.2.1, .int z.2.1.2.2.2.2.2.2.1, .ref am5, .int z.2.1.2.2.2.2.2.2.2.1, .ref am6, .ref am7, .ref am8, .ref am9, .ref am10, .ref am11, .ref am12, .int z.2.1.2.2.2.2.2.2.2.2.1, .int z.2.1.2.2.2.2.2.2.2.2.2.1, .int z.2.1.2.2.2.2.2.2.2.2.2.2.1, .int z.2.1.2.2.2.2.2.2.2.2.2.2.2.1, .int z.2.1.2.2.2.2.2.2.2.2.2.2.2.2])), (am0, .inl (cy 0, 48, .inl z.2.2.1)), (am3, .inl (cy 0, 48, .inl z.2.2.2)), (am4, .inl (cy 0, 200, .inl u_tape))] A) ([.ref am] : List Value).toArray s 0 0 A) (F0 m 29 ls []) := by
    have key : ∀ (n0 : Nat) (v29 : MO × (Nat → Int32) × (Nat → Int32)), lpF (fX7_feast_F29 n u_tape ) n0 v29 = some z → ∀ (H : Heap) (locs : List Loc), va_P D vwCl [(am, .inr (7, [.ref am0, .ref am1, .ref am2, .ref am3, .int v29.1.1, .ref am4, .int v29.1.2.1, .int v29.1.2.2.1, .int v29.1.2.2.2.1, .int v29.1.2.2.2.2.1, .int v29.1.2.2.2.2.2.1, .int v29.1.2.2.2.2.2.2.1, .ref am5, .int v29.1.2.2.2.2.2.2.2.1, .ref am6, .ref am7, .ref am8, .ref am9, .ref am10, .ref am11, .ref am12, .int v29.1.2.2.2.2.2.2.2.2.1, .int v29.1.2.2.2.2.2.2.2.2.2.1, .int v29.1.2.2.2.2.2.2.2.2.2.2.1, .int v29.1.2.2.2.2.2.2.2.2.2.2.2.1, .int v29.1.2.2.2.2.2.2.2.2.2.2.2.2])), (am0, .inl (cy 0, 48, .inl v29.2.1)), (am3, .inl (cy 0, 48, .inl v29.2.2)), (am4, .inl (cy 0, 200, .inl u_tape))] H → va_D A [(am, .inr (7, [.ref am0, .ref am1, .ref am2, .ref am3, .int v29.1.1, .ref am4, .int v29.1.2.1, .int v29.1.2.2.1, .int v29.1.2.2.2.1, .int v29.1.2.2.2.2.1, .int v29.1.2.2.2.2.2.1, .int v29.1.2.2.2.2.2.2.1, .ref am5, .int v29.1.2.2.2.2.2.2.2.1, .ref am6, .ref am7, .ref am8, .ref am9, .ref am10, .ref am11, .ref am12, .int v29.1.2.2.2.2.2.2.2.2.1, .int v29.1.2.2.2.2.2.2.2.2.2.1, .int v29.1.2.2.2.2.2.2.2.2.2.2.1, .int v29.1.2.2.2.2.2.2.2.2.2.2.2.1, .int v29.1.2.2.2.2.2.2.2.2.2.2.2.2])), (am0, .inl (cy 0, 48, .inl v29.2.1)), (am3, .inl (cy 0, 48, .inl v29.2.2)), (am4, .inl (cy 0, 200, .inl u_tape))] → va_S A s.heap H locs → ∀ (ls : Array Slot), lv_has ls 1 [(0, .ref am)] → W p l e (headSpec wsX7_feast ({ frames := 6, cells := 0, slots := 0, locals := 130 })).room s m ([.ref am] : List Value).toArray below meth c H locs 0 0 (MQ below (Qw (some (.int z.1)) D [(am, .inr (7, [.ref am0, .ref am1, .ref am2, .ref am3, .int z.2.1.1, .ref am4, .int z.2.1.2.1, .int z.2.1.2.2.1, .int z.2.1.2.2.2.1, .int z.2.1.2.2.2.2.1, .int z.2.1.2.2.2.2.2.1, .int z.2.1.2.2.2.2.2.2.1, .ref am5, .int z.2.1.2.2.2.2.2.2.2.1, .ref am6, .ref am7, .ref am8, .ref am9, .ref am10, .ref am11, .ref am12, .int z.2.1.2.2.2.2.2.2.2.2.1, .int z.2.1.2.2.2.2.2.2.2.2.2.1, .int z.2.1.2.2.2.2.2.2.2.2.2.2.1, .int z.2.1.2.2.2.2.2.2.2.2.2.2.2.1, .int z.2.1.2.2.2.2.2.2.2.2.2.2.2.2])), (am0, .inl (cy 0, 48, .inl z.2.2.1)), (am3, .inl (cy 0, 48, .inl z.2.2.2)), (am4, .inl (cy 0, 200, .inl u_tape))] A) ([.ref am] : List Value).toArray s 0 0 A) (F0 m 29 ls []) := by
      refine lpW ?_
      intro k29 hk290
      have hk29 : ∀ (M_isHeld : Int32) (M_taped : Int32) (M_token : Int32) (M_from : Int32) (M_to : Int32) (M_value : Int32) (M_isWrong : Int32) (M_rowN : Int32) (M_ran : Int32) (M_actKind : Int32) (M_actN : Int32) (M_actA : Int32) (M_isParted : Int32) (u_s : (Nat → Int32)) (u_before : (Nat → Int32)), k29 ((M_isHeld, M_taped, M_token, M_from, M_to, M_value, M_isWrong, M_rowN, M_ran, M_actKind, M_actN, M_actA, M_isParted), u_s, u_before) = some z → ∀ (H : Heap) (locs : List Loc), va_P D vwCl [(am, .inr (7, [.ref am0, .ref am1, .ref am2, .ref am3, .int M_isHeld, .ref am4, .int M_taped, .int M_token, .int M_from, .int M_to, .int M_value, .int M_isWrong, .ref am5, .int M_rowN, .ref am6, .ref am7, .ref am8, .ref am9, .ref am10, .ref am11, .ref am12, .int M_ran, .int M_actKind, .int M_actN, .int M_actA, .int M_isParted])), (am0, .inl (cy 0, 48, .inl u_s)), (am3, .inl (cy 0, 48, .inl u_before)), (am4, .inl (cy 0, 200, .inl u_tape))] H → va_D A [(am, .inr (7, [.ref am0, .ref am1, .ref am2, .ref am3, .int M_isHeld, .ref am4, .int M_taped, .int M_token, .int M_from, .int M_to, .int M_value, .int M_isWrong, .ref am5, .int M_rowN, .ref am6, .ref am7, .ref am8, .ref am9, .ref am10, .ref am11, .ref am12, .int M_ran, .int M_actKind, .int M_actN, .int M_actA, .int M_isParted])), (am0, .inl (cy 0, 48, .inl u_s)), (am3, .inl (cy 0, 48, .inl u_before)), (am4, .inl (cy 0, 200, .inl u_tape))] → va_S A s.heap H locs → ∀ (ls : Array Slot), lv_has ls 1 [(0, .ref am)] → W p l e (headSpec wsX7_feast ({ frames := 6, cells := 0, slots := 0, locals := 130 })).room s m ([.ref am] : List Value).toArray below meth c H locs 0 0 (MQ below (Qw (some (.int z.1)) D [(am, .inr (7, [.ref am0, .ref am1, .ref am2, .ref am3, .int z.2.1.1, .ref am4, .int z.2.1.2.1, .int z.2.1.2.2.1, .int z.2.1.2.2.2.1, .int z.2.1.2.2.2.2.1, .int z.2.1.2.2.2.2.2.1, .int z.2.1.2.2.2.2.2.2.1, .ref am5, .int z.2.1.2.2.2.2.2.2.2.1, .ref am6, .ref am7, .ref am8, .ref am9, .ref am10, .ref am11, .ref am12, .int z.2.1.2.2.2.2.2.2.2.2.1, .int z.2.1.2.2.2.2.2.2.2.2.2.1, .int z.2.1.2.2.2.2.2.2.2.2.2.2.1, .int z.2.1.2.2.2.2.2.2.2.2.2.2.2.1, .int z.2.1.2.2.2.2.2.2.2.2.2.2.2.2])), (am0, .inl (cy 0, 48, .inl z.2.2.1)), (am3, .inl (cy 0, 48, .inl z.2.2.2)), (am4, .inl (cy 0, 200, .inl u_tape))] A) ([.ref am] : List Value).toArray s 0 0 A) (F0 m 29 ls []) := fun M_isHeld M_taped M_token M_from M_to M_value M_isWrong M_rowN M_ran M_actKind M_actN M_actA M_isParted u_s u_before h9 => hk290 ((M_isHeld, M_taped, M_token, M_from, M_to, M_value, M_isWrong, M_rowN, M_ran, M_actKind, M_actN, M_actA, M_isParted), u_s, u_before) h9
      have hstep : ∀ (M_isHeld : Int32) (M_taped : Int32) (M_token : Int32) (M_from : Int32) (M_to : Int32) (M_value : Int32) (M_isWrong : Int32) (M_rowN : Int32) (M_ran : Int32) (M_actKind : Int32) (M_actN : Int32) (M_actA : Int32) (M_isParted : Int32) (u_s : (Nat → Int32)) (u_before : (Nat → Int32)), fX7_feast_F29 n u_tape  k29 ((M_isHeld, M_taped, M_token, M_from, M_to, M_value, M_isWrong, M_rowN, M_ran, M_actKind, M_actN, M_actA, M_isParted), u_s, u_before) = some z → ∀ (H : Heap) (locs : List Loc), va_P D vwCl [(am, .inr (7, [.ref am0, .ref am1, .ref am2, .ref am3, .int M_isHeld, .ref am4, .int M_taped, .int M_token, .int M_from, .int M_to, .int M_value, .int M_isWrong, .ref am5, .int M_rowN, .ref am6, .ref am7, .ref am8, .ref am9, .ref am10, .ref am11, .ref am12, .int M_ran, .int M_actKind, .int M_actN, .int M_actA, .int M_isParted])), (am0, .inl (cy 0, 48, .inl u_s)), (am3, .inl (cy 0, 48, .inl u_before)), (am4, .inl (cy 0, 200, .inl u_tape))] H → va_D A [(am, .inr (7, [.ref am0, .ref am1, .ref am2, .ref am3, .int M_isHeld, .ref am4, .int M_taped, .int M_token, .int M_from, .int M_to, .int M_value, .int M_isWrong, .ref am5, .int M_rowN, .ref am6, .ref am7, .ref am8, .ref am9, .ref am10, .ref am11, .ref am12, .int M_ran, .int M_actKind, .int M_actN, .int M_actA, .int M_isParted])), (am0, .inl (cy 0, 48, .inl u_s)), (am3, .inl (cy 0, 48, .inl u_before)), (am4, .inl (cy 0, 200, .inl u_tape))] → va_S A s.heap H locs → ∀ (ls : Array Slot), lv_has ls 1 [(0, .ref am)] → W p l e (headSpec wsX7_feast ({ frames := 6, cells := 0, slots := 0, locals := 130 })).room s m ([.ref am] : List Value).toArray below meth c H locs 0 0 (MQ below (Qw (some (.int z.1)) D [(am, .inr (7, [.ref am0, .ref am1, .ref am2, .ref am3, .int z.2.1.1, .ref am4, .int z.2.1.2.1, .int z.2.1.2.2.1, .int z.2.1.2.2.2.1, .int z.2.1.2.2.2.2.1, .int z.2.1.2.2.2.2.2.1, .int z.2.1.2.2.2.2.2.2.1, .ref am5, .int z.2.1.2.2.2.2.2.2.2.1, .ref am6, .ref am7, .ref am8, .ref am9, .ref am10, .ref am11, .ref am12, .int z.2.1.2.2.2.2.2.2.2.2.1, .int z.2.1.2.2.2.2.2.2.2.2.2.1, .int z.2.1.2.2.2.2.2.2.2.2.2.2.1, .int z.2.1.2.2.2.2.2.2.2.2.2.2.2.1, .int z.2.1.2.2.2.2.2.2.2.2.2.2.2.2])), (am0, .inl (cy 0, 48, .inl z.2.2.1)), (am3, .inl (cy 0, 48, .inl z.2.2.2)), (am4, .inl (cy 0, 200, .inl u_tape))] A) ([.ref am] : List Value).toArray s 0 0 A) (F0 m 29 ls []) := by
        intro M_isHeld M_taped M_token M_from M_to M_value M_isWrong M_rowN M_ran M_actKind M_actN M_actA M_isParted u_s u_before hf H locs hP hD hS ls hl
        have hf : (if M_isWrong = 0 then (if M_token = 0 then (fX7_feast_b50 n u_tape  (M_isHeld, M_taped, M_token, M_from, M_to, M_value, M_isWrong, M_rowN, M_ran, M_actKind, M_actN, M_actA, M_isParted) u_s u_before) else ((fX7_itemHere n (M_isHeld, M_taped, M_token, M_from, M_to, M_value, M_isWrong, M_rowN, M_ran, M_actKind, M_actN, M_actA, M_isParted) u_s u_tape).bind fun r44 => k29 (r44.1, r44.2, u_before))) else (fX7_feast_b50 n u_tape  (M_isHeld, M_taped, M_token, M_from, M_to, M_value, M_isWrong, M_rowN, M_ran, M_actKind, M_actN, M_actA, M_isParted) u_s u_before)) = some z := hf
        refine lv_aload_n hx hb dX7_feast_29 rfl (lv_at hl 0 rfl) ?_
        refine va_get (D := D) (ci := 7) (v := .int M_isWrong) (C := RX7) (T := TX7) (N := 26) hx hb hts hin7 hown hK hP 0 rfl rfl 11 (by decide) fl87 (fun _ h9 => h9) rfl dX7_feast_30 ?_
        refine lv_if_ne (tgt := 50) hx hb dX7_feast_33 (by decide) (fun c_33 => ?_) (fun c_33 => ?_)
        · have hf := zn hf c_33
          exact hB50 M_isHeld M_taped M_token M_from M_to M_value M_isWrong M_rowN M_ran M_actKind M_actN M_actA M_isParted u_s u_before hf _ _ hP hD hS _ (lv_sub hl [0] rfl)
        · have hf := zp hf c_33
          refine lv_aload_n hx hb dX7_feast_36 rfl (lv_at hl 0 rfl) ?_
          refine va_get (D := D) (ci := 7) (v := .int M_token) (C := RX7) (T := TX7) (N := 26) hx hb hts hin7 hown hK hP 0 rfl rfl 7 (by decide) fl81 (fun _ h9 => h9) rfl dX7_feast_37 ?_
          refine lv_if_eq (tgt := 50) hx hb dX7_feast_40 (by decide) (fun c_40 => ?_) (fun c_40 => ?_)
          · have hf := zp hf c_40
            exact hB50 M_isHeld M_taped M_token M_from M_to M_value M_isWrong M_rowN M_ran M_actKind M_actN M_actA M_isParted u_s u_before hf _ _ hP hD hS _ (lv_sub hl [0] rfl)
          · have hf := zn hf c_40
            refine lv_aload_n hx hb dX7_feast_43 rfl (lv_at hl 0 rfl) ?_
            obtain ⟨r44, hc44, hf⟩ := zb hf
            refine zvw (o := none) (As := []) (rest := []) (stk := []) ⟨hx, hb, hml, hown, hts⟩ (mX7_itemHere l D cy st sk sv B am am0 am1 am2 am3 am4 am5 am6 am7 am8 am9 am10 am11 am12 _ n M_isHeld M_taped M_token M_from M_to M_value M_isWrong M_rowN M_ran M_actKind M_actN M_actA M_isParted u_s u_tape r44 hc44) (cwV 0 hts gX7_feast_X7_itemHere rfl rfl rfl (by decide +kernel) ⟨Nat.le_of_ble_eq_true rfl, Nat.le_of_ble_eq_true rfl⟩) hG hS hAB hA hP hD [0, 1, 3] (by decide) rfl rfl rfl rfl 0 7 rfl rfl rfl rfl hl.1 rfl (Nat.le_of_ble_eq_true rfl) dX7_feast_44 rfl (fun H locs hP hD hS => ?_)
            have hP : va_P D vwCl [(am, .inr (7, [.ref am0, .ref am1, .ref am2, .ref am3, .int r44.1.1, .ref am4, .int r44.1.2.1, .int r44.1.2.2.1, .int r44.1.2.2.2.1, .int r44.1.2.2.2.2.1, .int r44.1.2.2.2.2.2.1, .int r44.1.2.2.2.2.2.2.1, .ref am5, .int r44.1.2.2.2.2.2.2.2.1, .ref am6, .ref am7, .ref am8, .ref am9, .ref am10, .ref am11, .ref am12, .int r44.1.2.2.2.2.2.2.2.2.1, .int r44.1.2.2.2.2.2.2.2.2.2.1, .int r44.1.2.2.2.2.2.2.2.2.2.2.1, .int r44.1.2.2.2.2.2.2.2.2.2.2.2.1, .int r44.1.2.2.2.2.2.2.2.2.2.2.2.2])), (am0, .inl (cy 0, 48, .inl r44.2)), (am3, .inl (cy 0, 48, .inl u_before)), (am4, .inl (cy 0, 200, .inl u_tape))] H := hP
            have hD : va_D A [(am, .inr (7, [.ref am0, .ref am1, .ref am2, .ref am3, .int r44.1.1, .ref am4, .int r44.1.2.1, .int r44.1.2.2.1, .int r44.1.2.2.2.1, .int r44.1.2.2.2.2.1, .int r44.1.2.2.2.2.2.1, .int r44.1.2.2.2.2.2.2.1, .ref am5, .int r44.1.2.2.2.2.2.2.2.1, .ref am6, .ref am7, .ref am8, .ref am9, .ref am10, .ref am11, .ref am12, .int r44.1.2.2.2.2.2.2.2.2.1, .int r44.1.2.2.2.2.2.2.2.2.2.1, .int r44.1.2.2.2.2.2.2.2.2.2.2.1, .int r44.1.2.2.2.2.2.2.2.2.2.2.2.1, .int r44.1.2.2.2.2.2.2.2.2.2.2.2.2])), (am0, .inl (cy 0, 48, .inl r44.2)), (am3, .inl (cy 0, 48, .inl u_before)), (am4, .inl (cy 0, 200, .inl u_tape))] := hD
            refine lv_goto (tgt := 29) hx hb dX7_feast_47 (by decide) ?_
            exact hk29 r44.1.1 r44.1.2.1 r44.1.2.2.1 r44.1.2.2.2.1 r44.1.2.2.2.2.1 r44.1.2.2.2.2.2.1 r44.1.2.2.2.2.2.2.1 r44.1.2.2.2.2.2.2.2.1 r44.1.2.2.2.2.2.2.2.2.1 r44.1.2.2.2.2.2.2.2.2.2.1 r44.1.2.2.2.2.2.2.2.2.2.2.1 r44.1.2.2.2.2.2.2.2.2.2.2.2.1 r44.1.2.2.2.2.2.2.2.2.2.2.2.2 r44.2 u_before hf _ _ hP hD hS _ (lv_sub hl [0] rfl)
      exact fun v29 h9 => hstep v29.1.1 v29.1.2.1 v29.1.2.2.1 v29.1.2.2.2.1 v29.1.2.2.2.2.1 v29.1.2.2.2.2.2.1 v29.1.2.2.2.2.2.2.1 v29.1.2.2.2.2.2.2.2.1 v29.1.2.2.2.2.2.2.2.2.1 v29.1.2.2.2.2.2.2.2.2.2.1 v29.1.2.2.2.2.2.2.2.2.2.2.1 v29.1.2.2.2.2.2.2.2.2.2.2.2.1 v29.1.2.2.2.2.2.2.2.2.2.2.2.2 v29.2.1 v29.2.2 h9
    exact fun n0 M_isHeld M_taped M_token M_from M_to M_value M_isWrong M_rowN M_ran M_actKind M_actN M_actA M_isParted u_s u_before h9 => key n0 ((M_isHeld, M_taped, M_token, M_from, M_to, M_value, M_isWrong, M_rowN, M_ran, M_actKind, M_actN, M_actA, M_isParted), u_s, u_before) h9
  have hl := lv_entry ([.ref am]) (n := 1) (Nat.le_of_ble_eq_true rfl)
  rw [lg_entry_eq]
  generalize (lg_sl ([.ref am]) ++ List.replicate (1 - (lg_sl ([.ref am])).length) Slot.unset).toArray = ls at hl ⊢
  have hl : lv_has ls 1 [(0, .ref am)] := hl
  have hf : ((fX7_copyRow n u_s u_before).bind fun r8 => (fX7_begins n (M_isHeld, M_taped, M_token, M_from, M_to, M_value, M_isWrong, M_rowN, M_ran, M_actKind, M_actN, M_actA, M_isParted) u_s).bind fun r12 => (fX7_nextToken n (M_isHeld, M_taped, M_token, M_from, (0 : Int32), M_value, (0 : Int32), M_rowN, M_ran, M_actKind, M_actN, M_actA, M_isParted) u_tape).bind fun r26 => lpF (fX7_feast_F29 n u_tape ) n (r26, r12, r8)) = some z := hf
  refine lv_aload_n hx hb dX7_feast_0 rfl (lv_at hl 0 rfl) ?_
  refine va_get (D := D) (ci := 7) (v := .ref am0) (C := RX7) (T := TX7) (N := 26) hx hb hts hin7 hown hK hP 0 rfl rfl 0 (by decide) fl7 (fun _ h9 => h9) rfl dX7_feast_1 ?_
  refine lv_aload_n hx hb dX7_feast_4 rfl (lv_at hl 0 rfl) ?_
  refine va_get (D := D) (ci := 7) (v := .ref am3) (C := RX7) (T := TX7) (N := 26) hx hb hts hin7 hown hK hP 0 rfl rfl 3 (by decide) fl19 (fun _ h9 => h9) rfl dX7_feast_5 ?_
  obtain ⟨r8, hc8, hf⟩ := zb hf
  refine zsw (o := none) (As := [.ref am0, .ref am3]) (rest := []) (stk := []) ⟨hx, hb, hml, hown, hts⟩ (mX7_copyRow l D cy st sk sv B am0 am3 _ n u_s u_before r8 hc8) (va_cwS 2 hts gX7_feast_X7_copyRow rfl rfl rfl (by decide +kernel) ⟨Nat.le_of_ble_eq_true rfl, Nat.le_of_ble_eq_true rfl⟩) hG hS hAB hA hP hD [1, 2] (by decide) rfl rfl rfl rfl rfl hl.1 rfl (Nat.le_of_ble_eq_true rfl) dX7_feast_8 rfl (fun H locs hP hD hS => ?_)
  have hP : va_P D vwCl [(am, .inr (7, [.ref am0, .ref am1, .ref am2, .ref am3, .int M_isHeld, .ref am4, .int M_taped, .int M_token, .int M_from, .int M_to, .int M_value, .int M_isWrong, .ref am5, .int M_rowN, .ref am6, .ref am7, .ref am8, .ref am9, .ref am10, .ref am11, .ref am12, .int M_ran, .int M_actKind, .int M_actN, .int M_actA, .int M_isParted])), (am0, .inl (cy 0, 48, .inl u_s)), (am3, .inl (cy 0, 48, .inl r8)), (am4, .inl (cy 0, 200, .inl u_tape))] H := hP
  have hD : va_D A [(am, .inr (7, [.ref am0, .ref am1, .ref am2, .ref am3, .int M_isHeld, .ref am4, .int M_taped, .int M_token, .int M_from, .int M_to, .int M_value, .int M_isWrong, .ref am5, .int M_rowN, .ref am6, .ref am7, .ref am8, .ref am9, .ref am10, .ref am11, .ref am12, .int M_ran, .int M_actKind, .int M_actN, .int M_actA, .int M_isParted])), (am0, .inl (cy 0, 48, .inl u_s)), (am3, .inl (cy 0, 48, .inl r8)), (am4, .inl (cy 0, 200, .inl u_tape))] := hD
  refine lv_aload_n hx hb dX7_feast_11 rfl (lv_at hl 0 rfl) ?_
  obtain ⟨r12, hc12, hf⟩ := zb hf
  refine zvw (o := none) (As := []) (rest := []) (stk := []) ⟨hx, hb, hml, hown, hts⟩ (mX7_begins l D cy st sk sv B am am0 am1 am2 am3 am4 am5 am6 am7 am8 am9 am10 am11 am12 _ n M_isHeld M_taped M_token M_from M_to M_value M_isWrong M_rowN M_ran M_actKind M_actN M_actA M_isParted u_s r12 hc12) (cwV 0 hts gX7_feast_X7_begins rfl rfl rfl (by decide +kernel) ⟨Nat.le_of_ble_eq_true rfl, Nat.le_of_ble_eq_true rfl⟩) hG hS hAB hA hP hD [0, 1] (by decide) rfl rfl rfl rfl 0 7 rfl rfl rfl rfl hl.1 rfl (Nat.le_of_ble_eq_true rfl) dX7_feast_12 rfl (fun H locs hP hD hS => ?_)
  have hP : va_P D vwCl [(am, .inr (7, [.ref am0, .ref am1, .ref am2, .ref am3, .int M_isHeld, .ref am4, .int M_taped, .int M_token, .int M_from, .int M_to, .int M_value, .int M_isWrong, .ref am5, .int M_rowN, .ref am6, .ref am7, .ref am8, .ref am9, .ref am10, .ref am11, .ref am12, .int M_ran, .int M_actKind, .int M_actN, .int M_actA, .int M_isParted])), (am0, .inl (cy 0, 48, .inl r12)), (am3, .inl (cy 0, 48, .inl r8)), (am4, .inl (cy 0, 200, .inl u_tape))] H := hP
  have hD : va_D A [(am, .inr (7, [.ref am0, .ref am1, .ref am2, .ref am3, .int M_isHeld, .ref am4, .int M_taped, .int M_token, .int M_from, .int M_to, .int M_value, .int M_isWrong, .ref am5, .int M_rowN, .ref am6, .ref am7, .ref am8, .ref am9, .ref am10, .ref am11, .ref am12, .int M_ran, .int M_actKind, .int M_actN, .int M_actA, .int M_isParted])), (am0, .inl (cy 0, 48, .inl r12)), (am3, .inl (cy 0, 48, .inl r8)), (am4, .inl (cy 0, 200, .inl u_tape))] := hD
  refine lv_aload_n hx hb dX7_feast_15 rfl (lv_at hl 0 rfl) ?_
  refine lv_iconst (v := (0 : Int32)) hx hb dX7_feast_16 (by decide) ?_
  refine va_put (D := D) (ci := 7) (v := .int (0 : Int32)) (ty := .int) (C := RX7) (T := TX7) (N := 26) hx hb hts hin7 tyX7 tyX7_ok nmX7 hown hK hP hD hS 0 rfl rfl 9 (by decide) fl64 (fun _ h9 => h9) rfl (by decide +kernel) rfl rfl (Nat.le_of_ble_eq_true rfl) dX7_feast_17 (fun H locs hP hD hS => ?_)
  have hP : va_P D vwCl [(am, .inr (7, [.ref am0, .ref am1, .ref am2, .ref am3, .int M_isHeld, .ref am4, .int M_taped, .int M_token, .int M_from, .int (0 : Int32), .int M_value, .int M_isWrong, .ref am5, .int M_rowN, .ref am6, .ref am7, .ref am8, .ref am9, .ref am10, .ref am11, .ref am12, .int M_ran, .int M_actKind, .int M_actN, .int M_actA, .int M_isParted])), (am0, .inl (cy 0, 48, .inl r12)), (am3, .inl (cy 0, 48, .inl r8)), (am4, .inl (cy 0, 200, .inl u_tape))] H := hP
  have hD : va_D A [(am, .inr (7, [.ref am0, .ref am1, .ref am2, .ref am3, .int M_isHeld, .ref am4, .int M_taped, .int M_token, .int M_from, .int (0 : Int32), .int M_value, .int M_isWrong, .ref am5, .int M_rowN, .ref am6, .ref am7, .ref am8, .ref am9, .ref am10, .ref am11, .ref am12, .int M_ran, .int M_actKind, .int M_actN, .int M_actA, .int M_isParted])), (am0, .inl (cy 0, 48, .inl r12)), (am3, .inl (cy 0, 48, .inl r8)), (am4, .inl (cy 0, 200, .inl u_tape))] := hD
  refine lv_aload_n hx hb dX7_feast_20 rfl (lv_at hl 0 rfl) ?_
  refine lv_iconst (v := (0 : Int32)) hx hb dX7_feast_21 (by decide) ?_
  refine va_put (D := D) (ci := 7) (v := .int (0 : Int32)) (ty := .boolean) (C := RX7) (T := TX7) (N := 26) hx hb hts hin7 tyX7 tyX7_ok nmX7 hown hK hP hD hS 0 rfl rfl 11 (by decide) fl87 (fun _ h9 => h9) rfl (by decide +kernel) rfl rfl (Nat.le_of_ble_eq_true rfl) dX7_feast_22 (fun H locs hP hD hS => ?_)
  have hP : va_P D vwCl [(am, .inr (7, [.ref am0, .ref am1, .ref am2, .ref am3, .int M_isHeld, .ref am4, .int M_taped, .int M_token, .int M_from, .int (0 : Int32), .int M_value, .int (0 : Int32), .ref am5, .int M_rowN, .ref am6, .ref am7, .ref am8, .ref am9, .ref am10, .ref am11, .ref am12, .int M_ran, .int M_actKind, .int M_actN, .int M_actA, .int M_isParted])), (am0, .inl (cy 0, 48, .inl r12)), (am3, .inl (cy 0, 48, .inl r8)), (am4, .inl (cy 0, 200, .inl u_tape))] H := hP
  have hD : va_D A [(am, .inr (7, [.ref am0, .ref am1, .ref am2, .ref am3, .int M_isHeld, .ref am4, .int M_taped, .int M_token, .int M_from, .int (0 : Int32), .int M_value, .int (0 : Int32), .ref am5, .int M_rowN, .ref am6, .ref am7, .ref am8, .ref am9, .ref am10, .ref am11, .ref am12, .int M_ran, .int M_actKind, .int M_actN, .int M_actA, .int M_isParted])), (am0, .inl (cy 0, 48, .inl r12)), (am3, .inl (cy 0, 48, .inl r8)), (am4, .inl (cy 0, 200, .inl u_tape))] := hD
  refine lv_aload_n hx hb dX7_feast_25 rfl (lv_at hl 0 rfl) ?_
  obtain ⟨r26, hc26, hf⟩ := zb hf
  refine zvw (o := none) (As := []) (rest := []) (stk := []) ⟨hx, hb, hml, hown, hts⟩ (mX7_nextToken l D cy st sk sv B am am0 am1 am2 am3 am4 am5 am6 am7 am8 am9 am10 am11 am12 _ n M_isHeld M_taped M_token M_from (0 : Int32) M_value (0 : Int32) M_rowN M_ran M_actKind M_actN M_actA M_isParted u_tape r26 hc26) (cwV 0 hts gX7_feast_X7_nextToken rfl rfl rfl (by decide +kernel) ⟨Nat.le_of_ble_eq_true rfl, Nat.le_of_ble_eq_true rfl⟩) hG hS hAB hA hP hD [0, 3] (by decide) rfl rfl rfl rfl 0 7 rfl rfl rfl rfl hl.1 rfl (Nat.le_of_ble_eq_true rfl) dX7_feast_26 rfl (fun H locs hP hD hS => ?_)
  have hP : va_P D vwCl [(am, .inr (7, [.ref am0, .ref am1, .ref am2, .ref am3, .int r26.1, .ref am4, .int r26.2.1, .int r26.2.2.1, .int r26.2.2.2.1, .int r26.2.2.2.2.1, .int r26.2.2.2.2.2.1, .int r26.2.2.2.2.2.2.1, .ref am5, .int r26.2.2.2.2.2.2.2.1, .ref am6, .ref am7, .ref am8, .ref am9, .ref am10, .ref am11, .ref am12, .int r26.2.2.2.2.2.2.2.2.1, .int r26.2.2.2.2.2.2.2.2.2.1, .int r26.2.2.2.2.2.2.2.2.2.2.1, .int r26.2.2.2.2.2.2.2.2.2.2.2.1, .int r26.2.2.2.2.2.2.2.2.2.2.2.2])), (am0, .inl (cy 0, 48, .inl r12)), (am3, .inl (cy 0, 48, .inl r8)), (am4, .inl (cy 0, 200, .inl u_tape))] H := hP
  have hD : va_D A [(am, .inr (7, [.ref am0, .ref am1, .ref am2, .ref am3, .int r26.1, .ref am4, .int r26.2.1, .int r26.2.2.1, .int r26.2.2.2.1, .int r26.2.2.2.2.1, .int r26.2.2.2.2.2.1, .int r26.2.2.2.2.2.2.1, .ref am5, .int r26.2.2.2.2.2.2.2.1, .ref am6, .ref am7, .ref am8, .ref am9, .ref am10, .ref am11, .ref am12, .int r26.2.2.2.2.2.2.2.2.1, .int r26.2.2.2.2.2.2.2.2.2.1, .int r26.2.2.2.2.2.2.2.2.2.2.1, .int r26.2.2.2.2.2.2.2.2.2.2.2.1, .int r26.2.2.2.2.2.2.2.2.2.2.2.2])), (am0, .inl (cy 0, 48, .inl r12)), (am3, .inl (cy 0, 48, .inl r8)), (am4, .inl (cy 0, 200, .inl u_tape))] := hD
  exact hL29 n r26.1 r26.2.1 r26.2.2.1 r26.2.2.2.1 r26.2.2.2.2.1 r26.2.2.2.2.2.1 r26.2.2.2.2.2.2.1 r26.2.2.2.2.2.2.2.1 r26.2.2.2.2.2.2.2.2.1 r26.2.2.2.2.2.2.2.2.2.1 r26.2.2.2.2.2.2.2.2.2.2.1 r26.2.2.2.2.2.2.2.2.2.2.2.1 r26.2.2.2.2.2.2.2.2.2.2.2.2 r12 r8 hf _ _ hP hD hS _ (lv_sub hl [0] rfl)
set_option maxRecDepth 100000 in
set_option maxHeartbeats 100000000 in
theorem mX7_set (l : Launch) (D : va_G) (cy : Nat → ClassId) (st sk sv : Nat → Nat) (B : Nat) (am : Nat) (am0 : Nat) (am1 : Nat) (am2 : Nat) (am3 : Nat) (am4 : Nat) (am5 : Nat) (am6 : Nat) (am7 : Nat) (am8 : Nat) (am9 : Nat) (am10 : Nat) (am11 : Nat) (am12 : Nat) (sz : Nat) (n : Nat) (M_isHeld : Int32) (M_taped : Int32) (M_token : Int32) (M_from : Int32) (M_to : Int32) (M_value : Int32) (M_isWrong : Int32) (M_rowN : Int32) (M_ran : Int32) (M_actKind : Int32) (M_actN : Int32) (M_actA : Int32) (M_isParted : Int32) (u_s : (Nat → Int32)) (x1 : Int32) (x2 : Int32) (z : Int32 × (Nat → Int32)) (hf : fX7_set n (M_isHeld, M_taped, M_token, M_from, M_to, M_value, M_isWrong, M_rowN, M_ran, M_actKind, M_actN, M_actA, M_isParted) u_s x1 x2 = some z) : Met l yX7_set wsX7_set ({ frames := 1, cells := 0, slots := 0, locals := 25 }) (PcW [.ref am, .int x1, .int x2] D cy st sk sv B sz [(am, .inr (7, [.ref am0, .ref am1, .ref am2, .ref am3, .int M_isHeld, .ref am4, .int M_taped, .int M_token, .int M_from, .int M_to, .int M_value, .int M_isWrong, .ref am5, .int M_rowN, .ref am6, .ref am7, .ref am8, .ref am9, .ref am10, .ref am11, .ref am12, .int M_ran, .int M_actKind, .int M_actN, .int M_actA, .int M_isParted])), (am0, .inl (cy 0, 48, .inl u_s))]) (Qw (some (.int z.1)) D [(am, .inr (7, [.ref am0, .ref am1, .ref am2, .ref am3, .int M_isHeld, .ref am4, .int M_taped, .int M_token, .int M_from, .int M_to, .int M_value, .int M_isWrong, .ref am5, .int M_rowN, .ref am6, .ref am7, .ref am8, .ref am9, .ref am10, .ref am11, .ref am12, .int M_ran, .int M_actKind, .int M_actN, .int M_actA, .int M_isParted])), (am0, .inl (cy 0, 48, .inl z.2))] (va_A [(am, .inr (7, [.ref am0, .ref am1, .ref am2, .ref am3, .int M_isHeld, .ref am4, .int M_taped, .int M_token, .int M_from, .int M_to, .int M_value, .int M_isWrong, .ref am5, .int M_rowN, .ref am6, .ref am7, .ref am8, .ref am9, .ref am10, .ref am11, .ref am12, .int M_ran, .int M_actKind, .int M_actN, .int M_actA, .int M_isParted])), (am0, .inl (cy 0, 48, .inl u_s))] sz)) 0 0 (va_A [(am, .inr (7, [.ref am0, .ref am1, .ref am2, .ref am3, .int M_isHeld, .ref am4, .int M_taped, .int M_token, .int M_from, .int M_to, .int M_value, .int M_isWrong, .ref am5, .int M_rowN, .ref am6, .ref am7, .ref am8, .ref am9, .ref am10, .ref am11, .ref am12, .int M_ran, .int M_actKind, .int M_actN, .int M_actA, .int M_isParted])), (am0, .inl (cy 0, 48, .inl u_s))] sz) := by
  refine Met.ofW (cc := cX7_set) (maxL := 3) (ret := (some .int)) (by decide) rfl ?_
  intro p e s m args below meth c s₁ Bd hml hv
  obtain ⟨rfl, hsz, hP, hD0, hBs, hG⟩ := hv
  have hx := Bd.exec
  have hb := Bd.bytes
  have hr := Bd.returns
  have hts := atoms_spec (ws := wsX7_set) Bd.pre
  have hown : s.vm.findClass RX7 = some m.cls := findClass_of_methodNamed Bd.named
  have hlocks := Bd.notSynchronized
  have hK := hG.1
  subst hsz
  have hD := hD0.self (sz := s.heap.size)
  have hAB0 := zA hD0 hBs
  generalize hAe : va_A [(am, .inr (7, [.ref am0, .ref am1, .ref am2, .ref am3, .int M_isHeld, .ref am4, .int M_taped, .int M_token, .int M_from, .int M_to, .int M_value, .int M_isWrong, .ref am5, .int M_rowN, .ref am6, .ref am7, .ref am8, .ref am9, .ref am10, .ref am11, .ref am12, .int M_ran, .int M_actKind, .int M_actN, .int M_actA, .int M_isParted])), (am0, .inl (cy 0, 48, .inl u_s))] s.heap.size = A at hD hAB0 ⊢
  have hA : ∀ q : Nat, s.heap.size ≤ q → A q := fun q h => by rw [← hAe]; exact Or.inr h
  have hAB : ∀ q, A q → B ≤ q := hAB0
  have hS : va_S A s.heap s.heap [] := va_S.rf
  have hfin : ∀ (z0 : Int32) (u_s : (Nat → Int32)), some (z0, u_s) = some z → ∀ (H : Heap) (t : State), t.heap = H → va_P D vwCl [(am, .inr (7, [.ref am0, .ref am1, .ref am2, .ref am3, .int M_isHeld, .ref am4, .int M_taped, .int M_token, .int M_from, .int M_to, .int M_value, .int M_isWrong, .ref am5, .int M_rowN, .ref am6, .ref am7, .ref am8, .ref am9, .ref am10, .ref am11, .ref am12, .int M_ran, .int M_actKind, .int M_actN, .int M_actA, .int M_isParted])), (am0, .inl (cy 0, 48, .inl u_s))] H → va_F A s t → Qw (some (.int z.1)) D [(am, .inr (7, [.ref am0, .ref am1, .ref am2, .ref am3, .int M_isHeld, .ref am4, .int M_taped, .int M_token, .int M_from, .int M_to, .int M_value, .int M_isWrong, .ref am5, .int M_rowN, .ref am6, .ref am7, .ref am8, .ref am9, .ref am10, .ref am11, .ref am12, .int M_ran, .int M_actKind, .int M_actN, .int M_actA, .int M_isParted])), (am0, .inl (cy 0, 48, .inl z.2))] A ([.ref am, .int x1, .int x2] : List Value).toArray s (.returned (some (.int z0))) t := by
    intro z0 u_s h9 H t ht hP hF
    cases h9
    exact ⟨rfl, by rw [ht]; exact hP, hF⟩
  have hl := lv_entry ([.ref am, .int x1, .int x2]) (n := 3) (Nat.le_of_ble_eq_true rfl)
  rw [lg_entry_eq]
  generalize (lg_sl ([.ref am, .int x1, .int x2]) ++ List.replicate (3 - (lg_sl ([.ref am, .int x1, .int x2])).length) Slot.unset).toArray = ls at hl ⊢
  have hl : lv_has ls 3 [(0, .ref am), (1, .int x1), (2, .int x2)] := hl
  have hf : ((fX7_isIn n x1.toInt64 (0 : Int64) (3 : Int64)).bind fun r6 => if r6 = 0 then (some ((-1 : Int32), u_s)) else ((fX7_mostOf n x1).bind fun r16 => (fX7_isIn n x2.toInt64 (0 : Int64) r16.toInt64).bind fun r20 => if r20 = 0 then (some ((-1 : Int32), u_s)) else ((fX7_becomes n (M_isHeld, M_taped, M_token, M_from, M_to, M_value, M_isWrong, M_rowN, M_ran, M_actKind, M_actN, M_actA, M_isParted) u_s ((4 : Int32) + x1) x2).bind fun r31 => some (r31.1, r31.2)))) = some z := hf
  refine lv_iload_n hx hb dX7_set_0 rfl (lv_at hl 1 rfl) ?_
  refine lv_i2l hx hb dX7_set_1 rfl ?_
  refine lv_lconst (v := (0 : Int64)) hx hb dX7_set_2 (by decide) ?_
  refine lv_ldc2 (v := (3 : Int64)) hx hb hown (hts (.constantLong RX7 143 (3)) (by decide +kernel)) dX7_set_3 ?_
  obtain ⟨r6, hc6, hf⟩ := zb hf
  refine zsr (o := some (.int r6)) (As := [.long x1.toInt64, .long (0 : Int64), .long (3 : Int64)]) (rest := []) (stk := [.int r6]) ⟨hx, hb, hml, hown, hts⟩ (mX7_isIn l D cy st sk sv B  n x1.toInt64 (0 : Int64) (3 : Int64) r6 hc6) (va_cwS 3 hts gX7_set_X7_isIn rfl rfl rfl (by decide +kernel) ⟨Nat.le_of_ble_eq_true rfl, Nat.le_of_ble_eq_true rfl⟩) hG hS hAB hP [] rfl rfl hl.1 rfl (Nat.le_of_ble_eq_true rfl) dX7_set_6 rfl ?_
  refine lv_if_eq (tgt := 37) hx hb dX7_set_9 (by decide) (fun c_9 => ?_) (fun c_9 => ?_)
  · have hf := zp hf c_9
    refine lv_iconst (v := (-1 : Int32)) hx hb dX7_set_37 (by decide) ?_
    exact W.iret hx hb hr (fun t ht hW => hfin (-1 : Int32) u_s hf _ t ht hP (hS.F ht)) hS.2.2 dX7_set_38
  · have hf := zn hf c_9
    refine lv_iload_n hx hb dX7_set_12 rfl (lv_at hl 2 rfl) ?_
    refine lv_i2l hx hb dX7_set_13 rfl ?_
    refine lv_lconst (v := (0 : Int64)) hx hb dX7_set_14 (by decide) ?_
    refine lv_iload_n hx hb dX7_set_15 rfl (lv_at hl 1 rfl) ?_
    obtain ⟨r16, hc16, hf⟩ := zb hf
    refine zsr (o := some (.int r16)) (As := [.int x1]) (rest := [.long (0 : Int64), .long x2.toInt64]) (stk := [.int r16, .long (0 : Int64), .long x2.toInt64]) ⟨hx, hb, hml, hown, hts⟩ (mX7_mostOf l D cy st sk sv B  n x1 r16 hc16) (va_cwS 1 hts gX7_set_X7_mostOf rfl rfl rfl (by decide +kernel) ⟨Nat.le_of_ble_eq_true rfl, Nat.le_of_ble_eq_true rfl⟩) hG hS hAB hP [] rfl rfl hl.1 rfl (Nat.le_of_ble_eq_true rfl) dX7_set_16 rfl ?_
    refine lv_i2l hx hb dX7_set_19 rfl ?_
    obtain ⟨r20, hc20, hf⟩ := zb hf
    refine zsr (o := some (.int r20)) (As := [.long x2.toInt64, .long (0 : Int64), .long r16.toInt64]) (rest := []) (stk := [.int r20]) ⟨hx, hb, hml, hown, hts⟩ (mX7_isIn l D cy st sk sv B  n x2.toInt64 (0 : Int64) r16.toInt64 r20 hc20) (va_cwS 3 hts gX7_set_X7_isIn rfl rfl rfl (by decide +kernel) ⟨Nat.le_of_ble_eq_true rfl, Nat.le_of_ble_eq_true rfl⟩) hG hS hAB hP [] rfl rfl hl.1 rfl (Nat.le_of_ble_eq_true rfl) dX7_set_20 rfl ?_
    refine lv_if_eq (tgt := 37) hx hb dX7_set_23 (by decide) (fun c_23 => ?_) (fun c_23 => ?_)
    · have hf := zp hf c_23
      refine lv_iconst (v := (-1 : Int32)) hx hb dX7_set_37 (by decide) ?_
      exact W.iret hx hb hr (fun t ht hW => hfin (-1 : Int32) u_s hf _ t ht hP (hS.F ht)) hS.2.2 dX7_set_38
    · have hf := zn hf c_23
      refine lv_aload_n hx hb dX7_set_26 rfl (lv_at hl 0 rfl) ?_
      refine lv_iconst (v := (4 : Int32)) hx hb dX7_set_27 (by decide) ?_
      refine lv_iload_n hx hb dX7_set_28 rfl (lv_at hl 1 rfl) ?_
      refine lv_iadd hx hb dX7_set_29 ?_
      refine lv_iload_n hx hb dX7_set_30 rfl (lv_at hl 2 rfl) ?_
      obtain ⟨r31, hc31, hf⟩ := zb hf
      refine zvw (o := some (.int r31.1)) (As := [.int ((4 : Int32) + x1), .int x2]) (rest := []) (stk := [.int r31.1]) ⟨hx, hb, hml, hown, hts⟩ (mX7_becomes l D cy st sk sv B am am0 am1 am2 am3 am4 am5 am6 am7 am8 am9 am10 am11 am12 _ n M_isHeld M_taped M_token M_from M_to M_value M_isWrong M_rowN M_ran M_actKind M_actN M_actA M_isParted u_s ((4 : Int32) + x1) x2 r31 hc31) (cwV 2 hts gX7_set_X7_becomes rfl rfl rfl (by decide +kernel) ⟨Nat.le_of_ble_eq_true rfl, Nat.le_of_ble_eq_true rfl⟩) hG hS hAB hA hP hD [0, 1] (by decide) rfl rfl rfl rfl 0 7 rfl rfl rfl rfl hl.1 rfl (Nat.le_of_ble_eq_true rfl) dX7_set_31 rfl (fun H locs hP hD hS => ?_)
      have hP : va_P D vwCl [(am, .inr (7, [.ref am0, .ref am1, .ref am2, .ref am3, .int M_isHeld, .ref am4, .int M_taped, .int M_token, .int M_from, .int M_to, .int M_value, .int M_isWrong, .ref am5, .int M_rowN, .ref am6, .ref am7, .ref am8, .ref am9, .ref am10, .ref am11, .ref am12, .int M_ran, .int M_actKind, .int M_actN, .int M_actA, .int M_isParted])), (am0, .inl (cy 0, 48, .inl r31.2))] H := hP
      have hD : va_D A [(am, .inr (7, [.ref am0, .ref am1, .ref am2, .ref am3, .int M_isHeld, .ref am4, .int M_taped, .int M_token, .int M_from, .int M_to, .int M_value, .int M_isWrong, .ref am5, .int M_rowN, .ref am6, .ref am7, .ref am8, .ref am9, .ref am10, .ref am11, .ref am12, .int M_ran, .int M_actKind, .int M_actN, .int M_actA, .int M_isParted])), (am0, .inl (cy 0, 48, .inl r31.2))] := hD
      refine lv_goto (tgt := 38) hx hb dX7_set_34 (by decide) ?_
      exact W.iret hx hb hr (fun t ht hW => hfin r31.1 r31.2 hf _ t ht hP (hS.F ht)) hS.2.2 dX7_set_38
set_option maxRecDepth 100000 in
set_option maxHeartbeats 100000000 in
theorem mX7_lawOf (l : Launch) (D : va_G) (cy : Nat → ClassId) (st sk sv : Nat → Nat) (B : Nat) (am : Nat) (am0 : Nat) (am1 : Nat) (am2 : Nat) (am3 : Nat) (am4 : Nat) (am5 : Nat) (am6 : Nat) (am7 : Nat) (am8 : Nat) (am9 : Nat) (am10 : Nat) (am11 : Nat) (am12 : Nat) (n : Nat) (M_isHeld : Int32) (M_taped : Int32) (M_token : Int32) (M_from : Int32) (M_to : Int32) (M_value : Int32) (M_isWrong : Int32) (M_rowN : Int32) (M_ran : Int32) (M_actKind : Int32) (M_actN : Int32) (M_actA : Int32) (M_isParted : Int32) (u_s : (Nat → Int32)) (x1 : Int32) (z : Int32) (hf : fX7_lawOf n (M_isHeld, M_taped, M_token, M_from, M_to, M_value, M_isWrong, M_rowN, M_ran, M_actKind, M_actN, M_actA, M_isParted) u_s x1 = some z) : Met l yX7_lawOf wsX7_lawOf ({ frames := 1, cells := 0, slots := 0, locals := 25 }) (PcR [.ref am, .int x1] D cy st sk sv B [(am, .inr (7, [.ref am0, .ref am1, .ref am2, .ref am3, .int M_isHeld, .ref am4, .int M_taped, .int M_token, .int M_from, .int M_to, .int M_value, .int M_isWrong, .ref am5, .int M_rowN, .ref am6, .ref am7, .ref am8, .ref am9, .ref am10, .ref am11, .ref am12, .int M_ran, .int M_actKind, .int M_actN, .int M_actA, .int M_isParted])), (am0, .inl (cy 0, 48, .inl u_s))]) (Qr (some (.int z))) 0 0 (fun _ => False) := by
  refine Met.ofW (cc := cX7_lawOf) (maxL := 2) (ret := (some .int)) (by decide) rfl ?_
  intro p e s m args below meth c s₁ Bd hml hv
  obtain ⟨rfl, hP, hG⟩ := hv
  have hx := Bd.exec
  have hb := Bd.bytes
  have hr := Bd.returns
  have hts := atoms_spec (ws := wsX7_lawOf) Bd.pre
  have hown : s.vm.findClass RX7 = some m.cls := findClass_of_methodNamed Bd.named
  have hlocks := Bd.notSynchronized
  have hK := hG.1
  have hS : va_S (fun q => B ≤ q) s.heap s.heap [] := va_S.rf
  have hAB : ∀ q, (fun q => B ≤ q) q → B ≤ q := fun _ h => h
  have hin7 : ∀ w ∈ u_ws RX7 TX7 26, w ∈ wsX7_lawOf := by decide +kernel
  have fl7 := hts (.fieldLink RX7 7 "KinCutleryModel" "s" "[I") (by decide +kernel)
  have hl := lv_entry ([.ref am, .int x1]) (n := 2) (Nat.le_of_ble_eq_true rfl)
  rw [lg_entry_eq]
  generalize (lg_sl ([.ref am, .int x1]) ++ List.replicate (2 - (lg_sl ([.ref am, .int x1])).length) Slot.unset).toArray = ls at hl ⊢
  have hl : lv_has ls 2 [(0, .ref am), (1, .int x1)] := hl
  have hf : ((fX7_isIn n x1.toInt64 (0 : Int64) (3 : Int64)).bind fun r6 => if r6 = 0 then (some (-1 : Int32)) else (if ((4 : Int32) + x1) < 0 ∨ 48 ≤ ((4 : Int32) + x1).toNatClampNeg then none else some (u_s ((4 : Int32) + x1).toNatClampNeg))) = some z := hf
  refine lv_iload_n hx hb dX7_lawOf_0 rfl (lv_at hl 1 rfl) ?_
  refine lv_i2l hx hb dX7_lawOf_1 rfl ?_
  refine lv_lconst (v := (0 : Int64)) hx hb dX7_lawOf_2 (by decide) ?_
  refine lv_ldc2 (v := (3 : Int64)) hx hb hown (hts (.constantLong RX7 143 (3)) (by decide +kernel)) dX7_lawOf_3 ?_
  obtain ⟨r6, hc6, hf⟩ := zb hf
  refine zsr (o := some (.int r6)) (As := [.long x1.toInt64, .long (0 : Int64), .long (3 : Int64)]) (rest := []) (stk := [.int r6]) ⟨hx, hb, hml, hown, hts⟩ (mX7_isIn l D cy st sk sv B  n x1.toInt64 (0 : Int64) (3 : Int64) r6 hc6) (va_cwS 3 hts gX7_lawOf_X7_isIn rfl rfl rfl (by decide +kernel) ⟨Nat.le_of_ble_eq_true rfl, Nat.le_of_ble_eq_true rfl⟩) hG hS hAB hP [] rfl rfl hl.1 rfl (Nat.le_of_ble_eq_true rfl) dX7_lawOf_6 rfl ?_
  refine lv_if_eq (tgt := 23) hx hb dX7_lawOf_9 (by decide) (fun c_9 => ?_) (fun c_9 => ?_)
  · have hf := zp hf c_9
    refine lv_iconst (v := (-1 : Int32)) hx hb dX7_lawOf_23 (by decide) ?_
    cases hf
    exact W.iret hx hb hr (fun t ht hW => ⟨rfl, ht⟩) (fun q h => absurd h List.not_mem_nil) dX7_lawOf_24
  · have hf := zn hf c_9
    refine lv_aload_n hx hb dX7_lawOf_12 rfl (lv_at hl 0 rfl) ?_
    refine va_get (D := D) (ci := 7) (v := .ref am0) (C := RX7) (T := TX7) (N := 26) hx hb hts hin7 hown hK hP 0 rfl rfl 0 (by decide) fl7 (fun _ h9 => h9) rfl dX7_lawOf_13 ?_
    refine lv_iconst (v := (4 : Int32)) hx hb dX7_lawOf_16 (by decide) ?_
    refine lv_iload_n hx hb dX7_lawOf_17 rfl (lv_at hl 1 rfl) ?_
    refine lv_iadd hx hb dX7_lawOf_18 ?_
    obtain ⟨h_19, hf⟩ := zg hf
    refine va_iald hx hb hK hP 1 0 rfl rfl h_19 dX7_lawOf_19 ?_
    refine lv_goto (tgt := 24) hx hb dX7_lawOf_20 (by decide) ?_
    cases hf
    exact W.iret hx hb hr (fun t ht hW => ⟨rfl, ht⟩) (fun q h => absurd h List.not_mem_nil) dX7_lawOf_24
set_option maxRecDepth 100000 in
set_option maxHeartbeats 100000000 in
theorem mX7_isPiece (l : Launch) (D : va_G) (cy : Nat → ClassId) (st sk sv : Nat → Nat) (B : Nat)  (n : Nat)  (x0 : Int32) (z : Int32) (hf : fX7_isPiece n x0 = some z) : Met l yX7_isPiece wsX7_isPiece ({ frames := 1, cells := 0, slots := 0, locals := 25 }) (PcR [.int x0] D cy st sk sv B []) (Qr (some (.int z))) 0 0 (fun _ => False) := by
  refine Met.ofW (cc := cX7_isPiece) (maxL := 1) (ret := (some .boolean)) (by decide) rfl ?_
  intro p e s m args below meth c s₁ Bd hml hv
  obtain ⟨rfl, hP, hG⟩ := hv
  have hx := Bd.exec
  have hb := Bd.bytes
  have hr := Bd.returns
  have hts := atoms_spec (ws := wsX7_isPiece) Bd.pre
  have hown : s.vm.findClass RX7 = some m.cls := findClass_of_methodNamed Bd.named
  have hlocks := Bd.notSynchronized
  have hK := hG.1
  have hS : va_S (fun q => B ≤ q) s.heap s.heap [] := va_S.rf
  have hAB : ∀ q, (fun q => B ≤ q) q → B ≤ q := fun _ h => h
  have hl := lv_entry ([.int x0]) (n := 1) (Nat.le_of_ble_eq_true rfl)
  rw [lg_entry_eq]
  generalize (lg_sl ([.int x0]) ++ List.replicate (1 - (lg_sl ([.int x0])).length) Slot.unset).toArray = ls at hl ⊢
  have hl : lv_has ls 1 [(0, .int x0)] := hl
  have hf : ((fX7_isIn n x0.toInt64 (0 : Int64) (7 : Int64)).bind fun r6 => if ¬ (r6 = 0 ∨ r6 = 1) then none else some r6) = some z := hf
  refine lv_iload_n hx hb dX7_isPiece_0 rfl (lv_at hl 0 rfl) ?_
  refine lv_i2l hx hb dX7_isPiece_1 rfl ?_
  refine lv_lconst (v := (0 : Int64)) hx hb dX7_isPiece_2 (by decide) ?_
  refine lv_ldc2 (v := (7 : Int64)) hx hb hown (hts (.constantLong RX7 149 (7)) (by decide +kernel)) dX7_isPiece_3 ?_
  obtain ⟨r6, hc6, hf⟩ := zb hf
  refine zsr (o := some (.int r6)) (As := [.long x0.toInt64, .long (0 : Int64), .long (7 : Int64)]) (rest := []) (stk := [.int r6]) ⟨hx, hb, hml, hown, hts⟩ (mX7_isIn l D cy st sk sv B  n x0.toInt64 (0 : Int64) (7 : Int64) r6 hc6) (va_cwS 3 hts gX7_isPiece_X7_isIn rfl rfl rfl (by decide +kernel) ⟨Nat.le_of_ble_eq_true rfl, Nat.le_of_ble_eq_true rfl⟩) hG hS hAB hP [] rfl rfl hl.1 rfl (Nat.le_of_ble_eq_true rfl) dX7_isPiece_6 rfl ?_
  obtain ⟨h_9, hf⟩ := zg hf
  cases hf
  exact W.zret hx hb hr (nz_b h_9).1 (fun t ht hW => ⟨rfl, ht⟩) (fun q h => absurd h List.not_mem_nil) dX7_isPiece_9
set_option maxRecDepth 100000 in
set_option maxHeartbeats 100000000 in
theorem mX7_guest (l : Launch) (D : va_G) (cy : Nat → ClassId) (st sk sv : Nat → Nat) (B : Nat) (am : Nat) (am0 : Nat) (am1 : Nat) (am2 : Nat) (am3 : Nat) (am4 : Nat) (am5 : Nat) (am6 : Nat) (am7 : Nat) (am8 : Nat) (am9 : Nat) (am10 : Nat) (am11 : Nat) (am12 : Nat) (sz : Nat) (n : Nat) (M_isHeld : Int32) (M_taped : Int32) (M_token : Int32) (M_from : Int32) (M_to : Int32) (M_value : Int32) (M_isWrong : Int32) (M_rowN : Int32) (M_ran : Int32) (M_actKind : Int32) (M_actN : Int32) (M_actA : Int32) (M_isParted : Int32) (u_s : (Nat → Int32)) (x1 : Int32) (x2 : Int32) (z : Int32 × (Nat → Int32)) (hf : fX7_guest n (M_isHeld, M_taped, M_token, M_from, M_to, M_value, M_isWrong, M_rowN, M_ran, M_actKind, M_actN, M_actA, M_isParted) u_s x1 x2 = some z) : Met l yX7_guest wsX7_guest ({ frames := 2, cells := 0, slots := 0, locals := 45 }) (PcW [.ref am, .int x1, .int x2] D cy st sk sv B sz [(am, .inr (7, [.ref am0, .ref am1, .ref am2, .ref am3, .int M_isHeld, .ref am4, .int M_taped, .int M_token, .int M_from, .int M_to, .int M_value, .int M_isWrong, .ref am5, .int M_rowN, .ref am6, .ref am7, .ref am8, .ref am9, .ref am10, .ref am11, .ref am12, .int M_ran, .int M_actKind, .int M_actN, .int M_actA, .int M_isParted])), (am0, .inl (cy 0, 48, .inl u_s))]) (Qw (some (.int z.1)) D [(am, .inr (7, [.ref am0, .ref am1, .ref am2, .ref am3, .int M_isHeld, .ref am4, .int M_taped, .int M_token, .int M_from, .int M_to, .int M_value, .int M_isWrong, .ref am5, .int M_rowN, .ref am6, .ref am7, .ref am8, .ref am9, .ref am10, .ref am11, .ref am12, .int M_ran, .int M_actKind, .int M_actN, .int M_actA, .int M_isParted])), (am0, .inl (cy 0, 48, .inl z.2))] (va_A [(am, .inr (7, [.ref am0, .ref am1, .ref am2, .ref am3, .int M_isHeld, .ref am4, .int M_taped, .int M_token, .int M_from, .int M_to, .int M_value, .int M_isWrong, .ref am5, .int M_rowN, .ref am6, .ref am7, .ref am8, .ref am9, .ref am10, .ref am11, .ref am12, .int M_ran, .int M_actKind, .int M_actN, .int M_actA, .int M_isParted])), (am0, .inl (cy 0, 48, .inl u_s))] sz)) 0 0 (va_A [(am, .inr (7, [.ref am0, .ref am1, .ref am2, .ref am3, .int M_isHeld, .ref am4, .int M_taped, .int M_token, .int M_from, .int M_to, .int M_value, .int M_isWrong, .ref am5, .int M_rowN, .ref am6, .ref am7, .ref am8, .ref am9, .ref am10, .ref am11, .ref am12, .int M_ran, .int M_actKind, .int M_actN, .int M_actA, .int M_isParted])), (am0, .inl (cy 0, 48, .inl u_s))] sz) := by
  refine Met.ofW (cc := cX7_guest) (maxL := 3) (ret := (some .int)) (by decide) rfl ?_
  intro p e s m args below meth c s₁ Bd hml hv
  obtain ⟨rfl, hsz, hP, hD0, hBs, hG⟩ := hv
  have hx := Bd.exec
  have hb := Bd.bytes
  have hr := Bd.returns
  have hts := atoms_spec (ws := wsX7_guest) Bd.pre
  have hown : s.vm.findClass RX7 = some m.cls := findClass_of_methodNamed Bd.named
  have hlocks := Bd.notSynchronized
  have hK := hG.1
  subst hsz
  have hD := hD0.self (sz := s.heap.size)
  have hAB0 := zA hD0 hBs
  generalize hAe : va_A [(am, .inr (7, [.ref am0, .ref am1, .ref am2, .ref am3, .int M_isHeld, .ref am4, .int M_taped, .int M_token, .int M_from, .int M_to, .int M_value, .int M_isWrong, .ref am5, .int M_rowN, .ref am6, .ref am7, .ref am8, .ref am9, .ref am10, .ref am11, .ref am12, .int M_ran, .int M_actKind, .int M_actN, .int M_actA, .int M_isParted])), (am0, .inl (cy 0, 48, .inl u_s))] s.heap.size = A at hD hAB0 ⊢
  have hA : ∀ q : Nat, s.heap.size ≤ q → A q := fun q h => by rw [← hAe]; exact Or.inr h
  have hAB : ∀ q, A q → B ≤ q := hAB0
  have hS : va_S A s.heap s.heap [] := va_S.rf
  have hfin : ∀ (z0 : Int32) (u_s : (Nat → Int32)), some (z0, u_s) = some z → ∀ (H : Heap) (t : State), t.heap = H → va_P D vwCl [(am, .inr (7, [.ref am0, .ref am1, .ref am2, .ref am3, .int M_isHeld, .ref am4, .int M_taped, .int M_token, .int M_from, .int M_to, .int M_value, .int M_isWrong, .ref am5, .int M_rowN, .ref am6, .ref am7, .ref am8, .ref am9, .ref am10, .ref am11, .ref am12, .int M_ran, .int M_actKind, .int M_actN, .int M_actA, .int M_isParted])), (am0, .inl (cy 0, 48, .inl u_s))] H → va_F A s t → Qw (some (.int z.1)) D [(am, .inr (7, [.ref am0, .ref am1, .ref am2, .ref am3, .int M_isHeld, .ref am4, .int M_taped, .int M_token, .int M_from, .int M_to, .int M_value, .int M_isWrong, .ref am5, .int M_rowN, .ref am6, .ref am7, .ref am8, .ref am9, .ref am10, .ref am11, .ref am12, .int M_ran, .int M_actKind, .int M_actN, .int M_actA, .int M_isParted])), (am0, .inl (cy 0, 48, .inl z.2))] A ([.ref am, .int x1, .int x2] : List Value).toArray s (.returned (some (.int z0))) t := by
    intro z0 u_s h9 H t ht hP hF
    cases h9
    exact ⟨rfl, by rw [ht]; exact hP, hF⟩
  have hin7 : ∀ w ∈ u_ws RX7 TX7 26, w ∈ wsX7_guest := by decide +kernel
  have fl7 := hts (.fieldLink RX7 7 "KinCutleryModel" "s" "[I") (by decide +kernel)
  have hl := lv_entry ([.ref am, .int x1, .int x2]) (n := 3) (Nat.le_of_ble_eq_true rfl)
  rw [lg_entry_eq]
  generalize (lg_sl ([.ref am, .int x1, .int x2]) ++ List.replicate (3 - (lg_sl ([.ref am, .int x1, .int x2])).length) Slot.unset).toArray = ls at hl ⊢
  have hl : lv_has ls 3 [(0, .ref am), (1, .int x1), (2, .int x2)] := hl
  have hf : ((fX7_isIn n x1.toInt64 (0 : Int64) (5 : Int64)).bind fun r6 => if r6 = 0 then (some ((-1 : Int32), u_s)) else ((fX7_isPiece n x2).bind fun r13 => if r13 = 0 then (some ((-1 : Int32), u_s)) else (if (u_s (0 : Int32).toNatClampNeg) = (8 : Int32) then (some ((-2 : Int32), u_s)) else ((fX7_comes n (M_isHeld, M_taped, M_token, M_from, M_to, M_value, M_isWrong, M_rowN, M_ran, M_actKind, M_actN, M_actA, M_isParted) u_s x1 x2).bind fun r38 => some (((r38 (0 : Int32).toNatClampNeg) - (1 : Int32)), r38))))) = some z := hf
  refine lv_iload_n hx hb dX7_guest_0 rfl (lv_at hl 1 rfl) ?_
  refine lv_i2l hx hb dX7_guest_1 rfl ?_
  refine lv_lconst (v := (0 : Int64)) hx hb dX7_guest_2 (by decide) ?_
  refine lv_ldc2 (v := (5 : Int64)) hx hb hown (hts (.constantLong RX7 151 (5)) (by decide +kernel)) dX7_guest_3 ?_
  obtain ⟨r6, hc6, hf⟩ := zb hf
  refine zsr (o := some (.int r6)) (As := [.long x1.toInt64, .long (0 : Int64), .long (5 : Int64)]) (rest := []) (stk := [.int r6]) ⟨hx, hb, hml, hown, hts⟩ (mX7_isIn l D cy st sk sv B  n x1.toInt64 (0 : Int64) (5 : Int64) r6 hc6) (va_cwS 3 hts gX7_guest_X7_isIn rfl rfl rfl (by decide +kernel) ⟨Nat.le_of_ble_eq_true rfl, Nat.le_of_ble_eq_true rfl⟩) hG hS hAB hP [] rfl rfl hl.1 rfl (Nat.le_of_ble_eq_true rfl) dX7_guest_6 rfl ?_
  refine lv_if_eq (tgt := 19) hx hb dX7_guest_9 (by decide) (fun c_9 => ?_) (fun c_9 => ?_)
  · have hf := zp hf c_9
    refine lv_iconst (v := (-1 : Int32)) hx hb dX7_guest_19 (by decide) ?_
    exact W.iret hx hb hr (fun t ht hW => hfin (-1 : Int32) u_s hf _ t ht hP (hS.F ht)) hS.2.2 dX7_guest_20
  · have hf := zn hf c_9
    refine lv_iload_n hx hb dX7_guest_12 rfl (lv_at hl 2 rfl) ?_
    obtain ⟨r13, hc13, hf⟩ := zb hf
    refine zsr (o := some (.int r13)) (As := [.int x2]) (rest := []) (stk := [.int r13]) ⟨hx, hb, hml, hown, hts⟩ (mX7_isPiece l D cy st sk sv B  n x2 r13 hc13) (va_cwS 1 hts gX7_guest_X7_isPiece rfl rfl rfl (by decide +kernel) ⟨Nat.le_of_ble_eq_true rfl, Nat.le_of_ble_eq_true rfl⟩) hG hS hAB hP [] rfl rfl hl.1 rfl (Nat.le_of_ble_eq_true rfl) dX7_guest_13 rfl ?_
    refine lv_if_ne (tgt := 21) hx hb dX7_guest_16 (by decide) (fun c_16 => ?_) (fun c_16 => ?_)
    · have hf := zn hf c_16
      refine lv_aload_n hx hb dX7_guest_21 rfl (lv_at hl 0 rfl) ?_
      refine va_get (D := D) (ci := 7) (v := .ref am0) (C := RX7) (T := TX7) (N := 26) hx hb hts hin7 hown hK hP 0 rfl rfl 0 (by decide) fl7 (fun _ h9 => h9) rfl dX7_guest_22 ?_
      refine lv_iconst (v := (0 : Int32)) hx hb dX7_guest_25 (by decide) ?_
      refine va_iald hx hb hK hP 1 0 rfl rfl vi_0_48 dX7_guest_26 ?_
      refine lv_bipush (v := (8 : Int32)) hx hb dX7_guest_27 (by decide) ?_
      refine lv_icmp_ne (tgt := 35) hx hb dX7_guest_29 (by decide) (fun c_29 => ?_) (fun c_29 => ?_)
      · have hf := zn hf c_29
        refine lv_aload_n hx hb dX7_guest_35 rfl (lv_at hl 0 rfl) ?_
        refine lv_iload_n hx hb dX7_guest_36 rfl (lv_at hl 1 rfl) ?_
        refine lv_iload_n hx hb dX7_guest_37 rfl (lv_at hl 2 rfl) ?_
        obtain ⟨r38, hc38, hf⟩ := zb hf
        refine zvw (o := none) (As := [.int x1, .int x2]) (rest := []) (stk := []) ⟨hx, hb, hml, hown, hts⟩ (mX7_comes l D cy st sk sv B am am0 am1 am2 am3 am4 am5 am6 am7 am8 am9 am10 am11 am12 _ n M_isHeld M_taped M_token M_from M_to M_value M_isWrong M_rowN M_ran M_actKind M_actN M_actA M_isParted u_s x1 x2 r38 hc38) (cwV 2 hts gX7_guest_X7_comes rfl rfl rfl (by decide +kernel) ⟨Nat.le_of_ble_eq_true rfl, Nat.le_of_ble_eq_true rfl⟩) hG hS hAB hA hP hD [0, 1] (by decide) rfl rfl rfl rfl 0 7 rfl rfl rfl rfl hl.1 rfl (Nat.le_of_ble_eq_true rfl) dX7_guest_38 rfl (fun H locs hP hD hS => ?_)
        have hP : va_P D vwCl [(am, .inr (7, [.ref am0, .ref am1, .ref am2, .ref am3, .int M_isHeld, .ref am4, .int M_taped, .int M_token, .int M_from, .int M_to, .int M_value, .int M_isWrong, .ref am5, .int M_rowN, .ref am6, .ref am7, .ref am8, .ref am9, .ref am10, .ref am11, .ref am12, .int M_ran, .int M_actKind, .int M_actN, .int M_actA, .int M_isParted])), (am0, .inl (cy 0, 48, .inl r38))] H := hP
        have hD : va_D A [(am, .inr (7, [.ref am0, .ref am1, .ref am2, .ref am3, .int M_isHeld, .ref am4, .int M_taped, .int M_token, .int M_from, .int M_to, .int M_value, .int M_isWrong, .ref am5, .int M_rowN, .ref am6, .ref am7, .ref am8, .ref am9, .ref am10, .ref am11, .ref am12, .int M_ran, .int M_actKind, .int M_actN, .int M_actA, .int M_isParted])), (am0, .inl (cy 0, 48, .inl r38))] := hD
        refine lv_aload_n hx hb dX7_guest_41 rfl (lv_at hl 0 rfl) ?_
        refine va_get (D := D) (ci := 7) (v := .ref am0) (C := RX7) (T := TX7) (N := 26) hx hb hts hin7 hown hK hP 0 rfl rfl 0 (by decide) fl7 (fun _ h9 => h9) rfl dX7_guest_42 ?_
        refine lv_iconst (v := (0 : Int32)) hx hb dX7_guest_45 (by decide) ?_
        refine va_iald hx hb hK hP 1 0 rfl rfl vi_0_48 dX7_guest_46 ?_
        refine lv_iconst (v := (1 : Int32)) hx hb dX7_guest_47 (by decide) ?_
        refine lv_isub hx hb dX7_guest_48 ?_
        exact W.iret hx hb hr (fun t ht hW => hfin ((r38 (0 : Int32).toNatClampNeg) - (1 : Int32)) r38 hf _ t ht hP (hS.F ht)) hS.2.2 dX7_guest_49
      · have hf := zp hf c_29
        refine lv_bipush (v := (-2 : Int32)) hx hb dX7_guest_32 (by decide) ?_
        exact W.iret hx hb hr (fun t ht hW => hfin (-2 : Int32) u_s hf _ t ht hP (hS.F ht)) hS.2.2 dX7_guest_34
    · have hf := zp hf c_16
      refine lv_iconst (v := (-1 : Int32)) hx hb dX7_guest_19 (by decide) ?_
      exact W.iret hx hb hr (fun t ht hW => hfin (-1 : Int32) u_s hf _ t ht hP (hS.F ht)) hS.2.2 dX7_guest_20
set_option maxRecDepth 100000 in
set_option maxHeartbeats 100000000 in
theorem mX7_next (l : Launch) (D : va_G) (cy : Nat → ClassId) (st sk sv : Nat → Nat) (B : Nat) (am : Nat) (am0 : Nat) (am1 : Nat) (am2 : Nat) (am3 : Nat) (am4 : Nat) (am5 : Nat) (am6 : Nat) (am7 : Nat) (am8 : Nat) (am9 : Nat) (am10 : Nat) (am11 : Nat) (am12 : Nat) (n : Nat) (M_isHeld : Int32) (M_taped : Int32) (M_token : Int32) (M_from : Int32) (M_to : Int32) (M_value : Int32) (M_isWrong : Int32) (M_rowN : Int32) (M_ran : Int32) (M_actKind : Int32) (M_actN : Int32) (M_actA : Int32) (M_isParted : Int32) (u_s : (Nat → Int32))  (z : Int32) (hf : fX7_next n (M_isHeld, M_taped, M_token, M_from, M_to, M_value, M_isWrong, M_rowN, M_ran, M_actKind, M_actN, M_actA, M_isParted) u_s = some z) : Met l yX7_next wsX7_next ({ frames := 0, cells := 0, slots := 0, locals := 0 }) (PcR [.ref am] D cy st sk sv B [(am, .inr (7, [.ref am0, .ref am1, .ref am2, .ref am3, .int M_isHeld, .ref am4, .int M_taped, .int M_token, .int M_from, .int M_to, .int M_value, .int M_isWrong, .ref am5, .int M_rowN, .ref am6, .ref am7, .ref am8, .ref am9, .ref am10, .ref am11, .ref am12, .int M_ran, .int M_actKind, .int M_actN, .int M_actA, .int M_isParted])), (am0, .inl (cy 0, 48, .inl u_s))]) (Qr (some (.int z))) 0 0 (fun _ => False) := by
  refine Met.ofW (cc := cX7_next) (maxL := 1) (ret := (some .int)) (by decide) rfl ?_
  intro p e s m args below meth c s₁ Bd hml hv
  obtain ⟨rfl, hP, hG⟩ := hv
  have hx := Bd.exec
  have hb := Bd.bytes
  have hr := Bd.returns
  have hts := atoms_spec (ws := wsX7_next) Bd.pre
  have hown : s.vm.findClass RX7 = some m.cls := findClass_of_methodNamed Bd.named
  have hlocks := Bd.notSynchronized
  have hK := hG.1
  have hS : va_S (fun q => B ≤ q) s.heap s.heap [] := va_S.rf
  have hAB : ∀ q, (fun q => B ≤ q) q → B ≤ q := fun _ h => h
  have hin7 : ∀ w ∈ u_ws RX7 TX7 26, w ∈ wsX7_next := by decide +kernel
  have fl7 := hts (.fieldLink RX7 7 "KinCutleryModel" "s" "[I") (by decide +kernel)
  have hl := lv_entry ([.ref am]) (n := 1) (Nat.le_of_ble_eq_true rfl)
  rw [lg_entry_eq]
  generalize (lg_sl ([.ref am]) ++ List.replicate (1 - (lg_sl ([.ref am])).length) Slot.unset).toArray = ls at hl ⊢
  have hl : lv_has ls 1 [(0, .ref am)] := hl
  have hf : (some ((u_s (3 : Int32).toNatClampNeg) - (u_s (3 : Int32).toNatClampNeg) / (8 : Int32) * (8 : Int32))) = some z := hf
  refine lv_aload_n hx hb dX7_next_0 rfl (lv_at hl 0 rfl) ?_
  refine va_get (D := D) (ci := 7) (v := .ref am0) (C := RX7) (T := TX7) (N := 26) hx hb hts hin7 hown hK hP 0 rfl rfl 0 (by decide) fl7 (fun _ h9 => h9) rfl dX7_next_1 ?_
  refine lv_iconst (v := (3 : Int32)) hx hb dX7_next_4 (by decide) ?_
  refine va_iald hx hb hK hP 1 0 rfl rfl vi_3_48 dX7_next_5 ?_
  refine lv_bipush (v := (8 : Int32)) hx hb dX7_next_6 (by decide) ?_
  refine lv_irem hx hb dX7_next_8 (by decide) ?_
  cases hf
  exact W.iret hx hb hr (fun t ht hW => ⟨rfl, ht⟩) (fun q h => absurd h List.not_mem_nil) dX7_next_9
set_option maxRecDepth 100000 in
set_option maxHeartbeats 100000000 in
theorem mX7_takes (l : Launch) (D : va_G) (cy : Nat → ClassId) (st sk sv : Nat → Nat) (B : Nat) (am : Nat) (am0 : Nat) (am1 : Nat) (am2 : Nat) (am3 : Nat) (am4 : Nat) (am5 : Nat) (am6 : Nat) (am7 : Nat) (am8 : Nat) (am9 : Nat) (am10 : Nat) (am11 : Nat) (am12 : Nat) (n : Nat) (M_isHeld : Int32) (M_taped : Int32) (M_token : Int32) (M_from : Int32) (M_to : Int32) (M_value : Int32) (M_isWrong : Int32) (M_rowN : Int32) (M_ran : Int32) (M_actKind : Int32) (M_actN : Int32) (M_actA : Int32) (M_isParted : Int32) (u_s : (Nat → Int32)) (x1 : Int32) (z : Int32) (hf : fX7_takes n (M_isHeld, M_taped, M_token, M_from, M_to, M_value, M_isWrong, M_rowN, M_ran, M_actKind, M_actN, M_actA, M_isParted) u_s x1 = some z) : Met l yX7_takes wsX7_takes ({ frames := 1, cells := 0, slots := 0, locals := 22 }) (PcR [.ref am, .int x1] D cy st sk sv B [(am, .inr (7, [.ref am0, .ref am1, .ref am2, .ref am3, .int M_isHeld, .ref am4, .int M_taped, .int M_token, .int M_from, .int M_to, .int M_value, .int M_isWrong, .ref am5, .int M_rowN, .ref am6, .ref am7, .ref am8, .ref am9, .ref am10, .ref am11, .ref am12, .int M_ran, .int M_actKind, .int M_actN, .int M_actA, .int M_isParted])), (am0, .inl (cy 0, 48, .inl u_s))]) (Qr (some (.int z))) 0 0 (fun _ => False) := by
  refine Met.ofW (cc := cX7_takes) (maxL := 3) (ret := (some .int)) (by decide) rfl ?_
  intro p e s m args below meth c s₁ Bd hml hv
  obtain ⟨rfl, hP, hG⟩ := hv
  have hx := Bd.exec
  have hb := Bd.bytes
  have hr := Bd.returns
  have hts := atoms_spec (ws := wsX7_takes) Bd.pre
  have hown : s.vm.findClass RX7 = some m.cls := findClass_of_methodNamed Bd.named
  have hlocks := Bd.notSynchronized
  have hK := hG.1
  have hS : va_S (fun q => B ≤ q) s.heap s.heap [] := va_S.rf
  have hAB : ∀ q, (fun q => B ≤ q) q → B ≤ q := fun _ h => h
  have hin7 : ∀ w ∈ u_ws RX7 TX7 26, w ∈ wsX7_takes := by decide +kernel
  have fl7 := hts (.fieldLink RX7 7 "KinCutleryModel" "s" "[I") (by decide +kernel)
  have hl := lv_entry ([.ref am, .int x1]) (n := 3) (Nat.le_of_ble_eq_true rfl)
  rw [lg_entry_eq]
  generalize (lg_sl ([.ref am, .int x1]) ++ List.replicate (3 - (lg_sl ([.ref am, .int x1])).length) Slot.unset).toArray = ls at hl ⊢
  have hl : lv_has ls 3 [(0, .ref am), (1, .int x1)] := hl
  have hf : ((fX7_its n (M_isHeld, M_taped, M_token, M_from, M_to, M_value, M_isWrong, M_rowN, M_ran, M_actKind, M_actN, M_actA, M_isParted) u_s x1 (0 : Int32)).bind fun r10 => if r10 = (1 : Int32) then (some ((4 : Int32) + (u_s (5 : Int32).toNatClampNeg))) else if r10 = (2 : Int32) then (some (2 : Int32)) else if r10 = (3 : Int32) then (some ((2 : Int32) * ((4 : Int32) + (u_s (5 : Int32).toNatClampNeg)))) else if r10 = (4 : Int32) then (some ((2 : Int32) - (u_s (5 : Int32).toNatClampNeg))) else if r10 = (5 : Int32) then ((fX7_its n (M_isHeld, M_taped, M_token, M_from, M_to, M_value, M_isWrong, M_rowN, M_ran, M_actKind, M_actN, M_actA, M_isParted) u_s x1 (1 : Int32)).bind fun r67 => (fX7_next n (M_isHeld, M_taped, M_token, M_from, M_to, M_value, M_isWrong, M_rowN, M_ran, M_actKind, M_actN, M_actA, M_isParted) u_s).bind fun r71 => if r67 = r71 then (some (9 : Int32)) else (some (4 : Int32))) else  (some (4 : Int32))) = some z := hf
  refine lv_aload_n hx hb dX7_takes_0 rfl (lv_at hl 0 rfl) ?_
  refine va_get (D := D) (ci := 7) (v := .ref am0) (C := RX7) (T := TX7) (N := 26) hx hb hts hin7 hown hK hP 0 rfl rfl 0 (by decide) fl7 (fun _ h9 => h9) rfl dX7_takes_1 ?_
  refine lv_iconst (v := (5 : Int32)) hx hb dX7_takes_4 (by decide) ?_
  refine va_iald hx hb hK hP 1 0 rfl rfl vi_5_48 dX7_takes_5 ?_
  refine lv_istore_n (lv' := [(2, .int (u_s (5 : Int32).toNatClampNeg)), (0, .ref am), (1, .int x1)]) hx hb dX7_takes_6 rfl hl (by decide) rfl (fun ls hl => ?_)
  refine lv_aload_n hx hb dX7_takes_7 rfl (lv_at hl 1 rfl) ?_
  refine lv_iload_n hx hb dX7_takes_8 rfl (lv_at hl 2 rfl) ?_
  refine lv_iconst (v := (0 : Int32)) hx hb dX7_takes_9 (by decide) ?_
  obtain ⟨r10, hc10, hf⟩ := zb hf
  refine zvr (o := some (.int r10)) (As := [.int x1, .int (0 : Int32)]) (rest := []) (stk := [.int r10]) ⟨hx, hb, hml, hown, hts⟩ (mX7_its l D cy st sk sv B am am0 am1 am2 am3 am4 am5 am6 am7 am8 am9 am10 am11 am12 n M_isHeld M_taped M_token M_from M_to M_value M_isWrong M_rowN M_ran M_actKind M_actN M_actA M_isParted u_s x1 (0 : Int32) r10 hc10) (cwV 2 hts gX7_takes_X7_its rfl rfl rfl (by decide +kernel) ⟨Nat.le_of_ble_eq_true rfl, Nat.le_of_ble_eq_true rfl⟩) hG hS hAB hP [0, 1] rfl 0 7 rfl rfl rfl rfl hl.1 rfl (Nat.le_of_ble_eq_true rfl) dX7_takes_10 rfl ?_
  by_cases c_13_1 : r10 = (1 : Int32)
  · have hf := zp hf c_13_1
    refine lv_tableIn (tgt := 48) hx hb dX7_takes_13 (by rw [c_13_1]; decide) (by rw [c_13_1]; decide) (by rw [c_13_1]; rfl) (by decide) ?_
    refine lv_iconst (v := (4 : Int32)) hx hb dX7_takes_48 (by decide) ?_
    refine lv_iload_n hx hb dX7_takes_49 rfl (lv_at hl 0 rfl) ?_
    refine lv_iadd hx hb dX7_takes_50 ?_
    cases hf
    exact W.iret hx hb hr (fun t ht hW => ⟨rfl, ht⟩) (fun q h => absurd h List.not_mem_nil) dX7_takes_51
  have hf := zn hf c_13_1
  by_cases c_13_2 : r10 = (2 : Int32)
  · have hf := zp hf c_13_2
    refine lv_tableIn (tgt := 52) hx hb dX7_takes_13 (by rw [c_13_2]; decide) (by rw [c_13_2]; decide) (by rw [c_13_2]; rfl) (by decide) ?_
    refine lv_iconst (v := (2 : Int32)) hx hb dX7_takes_52 (by decide) ?_
    cases hf
    exact W.iret hx hb hr (fun t ht hW => ⟨rfl, ht⟩) (fun q h => absurd h List.not_mem_nil) dX7_takes_53
  have hf := zn hf c_13_2
  by_cases c_13_3 : r10 = (3 : Int32)
  · have hf := zp hf c_13_3
    refine lv_tableIn (tgt := 54) hx hb dX7_takes_13 (by rw [c_13_3]; decide) (by rw [c_13_3]; decide) (by rw [c_13_3]; rfl) (by decide) ?_
    refine lv_iconst (v := (2 : Int32)) hx hb dX7_takes_54 (by decide) ?_
    refine lv_iconst (v := (4 : Int32)) hx hb dX7_takes_55 (by decide) ?_
    refine lv_iload_n hx hb dX7_takes_56 rfl (lv_at hl 0 rfl) ?_
    refine lv_iadd hx hb dX7_takes_57 ?_
    refine lv_imul hx hb dX7_takes_58 ?_
    cases hf
    exact W.iret hx hb hr (fun t ht hW => ⟨rfl, ht⟩) (fun q h => absurd h List.not_mem_nil) dX7_takes_59
  have hf := zn hf c_13_3
  by_cases c_13_4 : r10 = (4 : Int32)
  · have hf := zp hf c_13_4
    refine lv_tableIn (tgt := 60) hx hb dX7_takes_13 (by rw [c_13_4]; decide) (by rw [c_13_4]; decide) (by rw [c_13_4]; rfl) (by decide) ?_
    refine lv_iconst (v := (2 : Int32)) hx hb dX7_takes_60 (by decide) ?_
    refine lv_iload_n hx hb dX7_takes_61 rfl (lv_at hl 0 rfl) ?_
    refine lv_isub hx hb dX7_takes_62 ?_
    cases hf
    exact W.iret hx hb hr (fun t ht hW => ⟨rfl, ht⟩) (fun q h => absurd h List.not_mem_nil) dX7_takes_63
  have hf := zn hf c_13_4
  by_cases c_13_5 : r10 = (5 : Int32)
  · have hf := zp hf c_13_5
    refine lv_tableIn (tgt := 64) hx hb dX7_takes_13 (by rw [c_13_5]; decide) (by rw [c_13_5]; decide) (by rw [c_13_5]; rfl) (by decide) ?_
    refine lv_aload_n hx hb dX7_takes_64 rfl (lv_at hl 1 rfl) ?_
    refine lv_iload_n hx hb dX7_takes_65 rfl (lv_at hl 2 rfl) ?_
    refine lv_iconst (v := (1 : Int32)) hx hb dX7_takes_66 (by decide) ?_
    obtain ⟨r67, hc67, hf⟩ := zb hf
    refine zvr (o := some (.int r67)) (As := [.int x1, .int (1 : Int32)]) (rest := []) (stk := [.int r67]) ⟨hx, hb, hml, hown, hts⟩ (mX7_its l D cy st sk sv B am am0 am1 am2 am3 am4 am5 am6 am7 am8 am9 am10 am11 am12 n M_isHeld M_taped M_token M_from M_to M_value M_isWrong M_rowN M_ran M_actKind M_actN M_actA M_isParted u_s x1 (1 : Int32) r67 hc67) (cwV 2 hts gX7_takes_X7_its rfl rfl rfl (by decide +kernel) ⟨Nat.le_of_ble_eq_true rfl, Nat.le_of_ble_eq_true rfl⟩) hG hS hAB hP [0, 1] rfl 0 7 rfl rfl rfl rfl hl.1 rfl (Nat.le_of_ble_eq_true rfl) dX7_takes_67 rfl ?_
    refine lv_aload_n hx hb dX7_takes_70 rfl (lv_at hl 1 rfl) ?_
    obtain ⟨r71, hc71, hf⟩ := zb hf
    refine zvr (o := some (.int r71)) (As := []) (rest := [.int r67]) (stk := [.int r71, .int r67]) ⟨hx, hb, hml, hown, hts⟩ (mX7_next l D cy st sk sv B am am0 am1 am2 am3 am4 am5 am6 am7 am8 am9 am10 am11 am12 n M_isHeld M_taped M_token M_from M_to M_value M_isWrong M_rowN M_ran M_actKind M_actN M_actA M_isParted u_s r71 hc71) (cwV 0 hts gX7_takes_X7_next rfl rfl rfl (by decide +kernel) ⟨Nat.le_of_ble_eq_true rfl, Nat.le_of_ble_eq_true rfl⟩) hG hS hAB hP [0, 1] rfl 0 7 rfl rfl rfl rfl hl.1 rfl (Nat.le_of_ble_eq_true rfl) dX7_takes_71 rfl ?_
    refine lv_icmp_ne (tgt := 82) hx hb dX7_takes_74 (by decide) (fun c_74 => ?_) (fun c_74 => ?_)
    · have hf := zn hf c_74
      refine lv_iconst (v := (4 : Int32)) hx hb dX7_takes_82 (by decide) ?_
      cases hf
      exact W.iret hx hb hr (fun t ht hW => ⟨rfl, ht⟩) (fun q h => absurd h List.not_mem_nil) dX7_takes_83
    · have hf := zp hf c_74
      refine lv_bipush (v := (9 : Int32)) hx hb dX7_takes_77 (by decide) ?_
      refine lv_goto (tgt := 83) hx hb dX7_takes_79 (by decide) ?_
      cases hf
      exact W.iret hx hb hr (fun t ht hW => ⟨rfl, ht⟩) (fun q h => absurd h List.not_mem_nil) dX7_takes_83
  have hf := zn hf c_13_5
  have e_13_1 : ¬ r10.toInt = 1 := fun h => c_13_1 (Int32.toInt_inj.mp (h.trans (by decide)))
  have e_13_2 : ¬ r10.toInt = 2 := fun h => c_13_2 (Int32.toInt_inj.mp (h.trans (by decide)))
  have e_13_3 : ¬ r10.toInt = 3 := fun h => c_13_3 (Int32.toInt_inj.mp (h.trans (by decide)))
  have e_13_4 : ¬ r10.toInt = 4 := fun h => c_13_4 (Int32.toInt_inj.mp (h.trans (by decide)))
  have e_13_5 : ¬ r10.toInt = 5 := fun h => c_13_5 (Int32.toInt_inj.mp (h.trans (by decide)))
  refine lv_tableOut (tgt := 84) hx hb dX7_takes_13 (by omega) (by decide) ?_
  refine lv_iconst (v := (4 : Int32)) hx hb dX7_takes_84 (by decide) ?_
  cases hf
  exact W.iret hx hb hr (fun t ht hW => ⟨rfl, ht⟩) (fun q h => absurd h List.not_mem_nil) dX7_takes_85
set_option maxRecDepth 100000 in
set_option maxHeartbeats 100000000 in
theorem mX7_needsOf (l : Launch) (D : va_G) (cy : Nat → ClassId) (st sk sv : Nat → Nat) (B : Nat) (am : Nat) (am0 : Nat) (am1 : Nat) (am2 : Nat) (am3 : Nat) (am4 : Nat) (am5 : Nat) (am6 : Nat) (am7 : Nat) (am8 : Nat) (am9 : Nat) (am10 : Nat) (am11 : Nat) (am12 : Nat) (n : Nat) (M_isHeld : Int32) (M_taped : Int32) (M_token : Int32) (M_from : Int32) (M_to : Int32) (M_value : Int32) (M_isWrong : Int32) (M_rowN : Int32) (M_ran : Int32) (M_actKind : Int32) (M_actN : Int32) (M_actA : Int32) (M_isParted : Int32) (u_s : (Nat → Int32)) (x1 : Int32) (z : Int32) (hf : fX7_needsOf n (M_isHeld, M_taped, M_token, M_from, M_to, M_value, M_isWrong, M_rowN, M_ran, M_actKind, M_actN, M_actA, M_isParted) u_s x1 = some z) : Met l yX7_needsOf wsX7_needsOf ({ frames := 1, cells := 0, slots := 0, locals := 22 }) (PcR [.ref am, .int x1] D cy st sk sv B [(am, .inr (7, [.ref am0, .ref am1, .ref am2, .ref am3, .int M_isHeld, .ref am4, .int M_taped, .int M_token, .int M_from, .int M_to, .int M_value, .int M_isWrong, .ref am5, .int M_rowN, .ref am6, .ref am7, .ref am8, .ref am9, .ref am10, .ref am11, .ref am12, .int M_ran, .int M_actKind, .int M_actN, .int M_actA, .int M_isParted])), (am0, .inl (cy 0, 48, .inl u_s))]) (Qr (some (.int z))) 0 0 (fun _ => False) := by
  refine Met.ofW (cc := cX7_needsOf) (maxL := 2) (ret := (some .int)) (by decide) rfl ?_
  intro p e s m args below meth c s₁ Bd hml hv
  obtain ⟨rfl, hP, hG⟩ := hv
  have hx := Bd.exec
  have hb := Bd.bytes
  have hr := Bd.returns
  have hts := atoms_spec (ws := wsX7_needsOf) Bd.pre
  have hown : s.vm.findClass RX7 = some m.cls := findClass_of_methodNamed Bd.named
  have hlocks := Bd.notSynchronized
  have hK := hG.1
  have hS : va_S (fun q => B ≤ q) s.heap s.heap [] := va_S.rf
  have hAB : ∀ q, (fun q => B ≤ q) q → B ≤ q := fun _ h => h
  have hin7 : ∀ w ∈ u_ws RX7 TX7 26, w ∈ wsX7_needsOf := by decide +kernel
  have fl7 := hts (.fieldLink RX7 7 "KinCutleryModel" "s" "[I") (by decide +kernel)
  have hl := lv_entry ([.ref am, .int x1]) (n := 2) (Nat.le_of_ble_eq_true rfl)
  rw [lg_entry_eq]
  generalize (lg_sl ([.ref am, .int x1]) ++ List.replicate (2 - (lg_sl ([.ref am, .int x1])).length) Slot.unset).toArray = ls at hl ⊢
  have hl : lv_has ls 2 [(0, .ref am), (1, .int x1)] := hl
  have hf : ((fX7_its n (M_isHeld, M_taped, M_token, M_from, M_to, M_value, M_isWrong, M_rowN, M_ran, M_actKind, M_actN, M_actA, M_isParted) u_s x1 (0 : Int32)).bind fun r3 => if r3 = (1 : Int32) then (some (15 : Int32)) else if r3 = (2 : Int32) then (some (30 : Int32)) else if r3 = (3 : Int32) then (some ((15 : Int32) - (u_s (5 : Int32).toNatClampNeg))) else if r3 = (4 : Int32) then ((fX7_its n (M_isHeld, M_taped, M_token, M_from, M_to, M_value, M_isWrong, M_rowN, M_ran, M_actKind, M_actN, M_actA, M_isParted) u_s x1 (2 : Int32)).bind fun r61 => some ((30 : Int32) - (r61 / (10 : Int32)))) else if r3 = (5 : Int32) then (some (10 : Int32)) else  (some (20 : Int32))) = some z := hf
  refine lv_aload_n hx hb dX7_needsOf_0 rfl (lv_at hl 0 rfl) ?_
  refine lv_iload_n hx hb dX7_needsOf_1 rfl (lv_at hl 1 rfl) ?_
  refine lv_iconst (v := (0 : Int32)) hx hb dX7_needsOf_2 (by decide) ?_
  obtain ⟨r3, hc3, hf⟩ := zb hf
  refine zvr (o := some (.int r3)) (As := [.int x1, .int (0 : Int32)]) (rest := []) (stk := [.int r3]) ⟨hx, hb, hml, hown, hts⟩ (mX7_its l D cy st sk sv B am am0 am1 am2 am3 am4 am5 am6 am7 am8 am9 am10 am11 am12 n M_isHeld M_taped M_token M_from M_to M_value M_isWrong M_rowN M_ran M_actKind M_actN M_actA M_isParted u_s x1 (0 : Int32) r3 hc3) (cwV 2 hts gX7_needsOf_X7_its rfl rfl rfl (by decide +kernel) ⟨Nat.le_of_ble_eq_true rfl, Nat.le_of_ble_eq_true rfl⟩) hG hS hAB hP [0, 1] rfl 0 7 rfl rfl rfl rfl hl.1 rfl (Nat.le_of_ble_eq_true rfl) dX7_needsOf_3 rfl ?_
  by_cases c_6_1 : r3 = (1 : Int32)
  · have hf := zp hf c_6_1
    refine lv_tableIn (tgt := 40) hx hb dX7_needsOf_6 (by rw [c_6_1]; decide) (by rw [c_6_1]; decide) (by rw [c_6_1]; rfl) (by decide) ?_
    refine lv_bipush (v := (15 : Int32)) hx hb dX7_needsOf_40 (by decide) ?_
    cases hf
    exact W.iret hx hb hr (fun t ht hW => ⟨rfl, ht⟩) (fun q h => absurd h List.not_mem_nil) dX7_needsOf_42
  have hf := zn hf c_6_1
  by_cases c_6_2 : r3 = (2 : Int32)
  · have hf := zp hf c_6_2
    refine lv_tableIn (tgt := 43) hx hb dX7_needsOf_6 (by rw [c_6_2]; decide) (by rw [c_6_2]; decide) (by rw [c_6_2]; rfl) (by decide) ?_
    refine lv_bipush (v := (30 : Int32)) hx hb dX7_needsOf_43 (by decide) ?_
    cases hf
    exact W.iret hx hb hr (fun t ht hW => ⟨rfl, ht⟩) (fun q h => absurd h List.not_mem_nil) dX7_needsOf_45
  have hf := zn hf c_6_2
  by_cases c_6_3 : r3 = (3 : Int32)
  · have hf := zp hf c_6_3
    refine lv_tableIn (tgt := 46) hx hb dX7_needsOf_6 (by rw [c_6_3]; decide) (by rw [c_6_3]; decide) (by rw [c_6_3]; rfl) (by decide) ?_
    refine lv_bipush (v := (15 : Int32)) hx hb dX7_needsOf_46 (by decide) ?_
    refine lv_aload_n hx hb dX7_needsOf_48 rfl (lv_at hl 0 rfl) ?_
    refine va_get (D := D) (ci := 7) (v := .ref am0) (C := RX7) (T := TX7) (N := 26) hx hb hts hin7 hown hK hP 0 rfl rfl 0 (by decide) fl7 (fun _ h9 => h9) rfl dX7_needsOf_49 ?_
    refine lv_iconst (v := (5 : Int32)) hx hb dX7_needsOf_52 (by decide) ?_
    refine va_iald hx hb hK hP 1 0 rfl rfl vi_5_48 dX7_needsOf_53 ?_
    refine lv_isub hx hb dX7_needsOf_54 ?_
    cases hf
    exact W.iret hx hb hr (fun t ht hW => ⟨rfl, ht⟩) (fun q h => absurd h List.not_mem_nil) dX7_needsOf_55
  have hf := zn hf c_6_3
  by_cases c_6_4 : r3 = (4 : Int32)
  · have hf := zp hf c_6_4
    refine lv_tableIn (tgt := 56) hx hb dX7_needsOf_6 (by rw [c_6_4]; decide) (by rw [c_6_4]; decide) (by rw [c_6_4]; rfl) (by decide) ?_
    refine lv_bipush (v := (30 : Int32)) hx hb dX7_needsOf_56 (by decide) ?_
    refine lv_aload_n hx hb dX7_needsOf_58 rfl (lv_at hl 0 rfl) ?_
    refine lv_iload_n hx hb dX7_needsOf_59 rfl (lv_at hl 1 rfl) ?_
    refine lv_iconst (v := (2 : Int32)) hx hb dX7_needsOf_60 (by decide) ?_
    obtain ⟨r61, hc61, hf⟩ := zb hf
    refine zvr (o := some (.int r61)) (As := [.int x1, .int (2 : Int32)]) (rest := [.int (30 : Int32)]) (stk := [.int r61, .int (30 : Int32)]) ⟨hx, hb, hml, hown, hts⟩ (mX7_its l D cy st sk sv B am am0 am1 am2 am3 am4 am5 am6 am7 am8 am9 am10 am11 am12 n M_isHeld M_taped M_token M_from M_to M_value M_isWrong M_rowN M_ran M_actKind M_actN M_actA M_isParted u_s x1 (2 : Int32) r61 hc61) (cwV 2 hts gX7_needsOf_X7_its rfl rfl rfl (by decide +kernel) ⟨Nat.le_of_ble_eq_true rfl, Nat.le_of_ble_eq_true rfl⟩) hG hS hAB hP [0, 1] rfl 0 7 rfl rfl rfl rfl hl.1 rfl (Nat.le_of_ble_eq_true rfl) dX7_needsOf_61 rfl ?_
    refine lv_bipush (v := (10 : Int32)) hx hb dX7_needsOf_64 (by decide) ?_
    refine lv_idiv hx hb dX7_needsOf_66 (by decide) ?_
    refine lv_isub hx hb dX7_needsOf_67 ?_
    cases hf
    exact W.iret hx hb hr (fun t ht hW => ⟨rfl, ht⟩) (fun q h => absurd h List.not_mem_nil) dX7_needsOf_68
  have hf := zn hf c_6_4
  by_cases c_6_5 : r3 = (5 : Int32)
  · have hf := zp hf c_6_5
    refine lv_tableIn (tgt := 69) hx hb dX7_needsOf_6 (by rw [c_6_5]; decide) (by rw [c_6_5]; decide) (by rw [c_6_5]; rfl) (by decide) ?_
    refine lv_bipush (v := (10 : Int32)) hx hb dX7_needsOf_69 (by decide) ?_
    cases hf
    exact W.iret hx hb hr (fun t ht hW => ⟨rfl, ht⟩) (fun q h => absurd h List.not_mem_nil) dX7_needsOf_71
  have hf := zn hf c_6_5
  have e_6_1 : ¬ r3.toInt = 1 := fun h => c_6_1 (Int32.toInt_inj.mp (h.trans (by decide)))
  have e_6_2 : ¬ r3.toInt = 2 := fun h => c_6_2 (Int32.toInt_inj.mp (h.trans (by decide)))
  have e_6_3 : ¬ r3.toInt = 3 := fun h => c_6_3 (Int32.toInt_inj.mp (h.trans (by decide)))
  have e_6_4 : ¬ r3.toInt = 4 := fun h => c_6_4 (Int32.toInt_inj.mp (h.trans (by decide)))
  have e_6_5 : ¬ r3.toInt = 5 := fun h => c_6_5 (Int32.toInt_inj.mp (h.trans (by decide)))
  refine lv_tableOut (tgt := 72) hx hb dX7_needsOf_6 (by omega) (by decide) ?_
  refine lv_bipush (v := (20 : Int32)) hx hb dX7_needsOf_72 (by decide) ?_
  cases hf
  exact W.iret hx hb hr (fun t ht hW => ⟨rfl, ht⟩) (fun q h => absurd h List.not_mem_nil) dX7_needsOf_74
set_option maxRecDepth 100000 in
set_option maxHeartbeats 100000000 in
theorem mX7_costs (l : Launch) (D : va_G) (cy : Nat → ClassId) (st sk sv : Nat → Nat) (B : Nat) (am : Nat) (am0 : Nat) (am1 : Nat) (am2 : Nat) (am3 : Nat) (am4 : Nat) (am5 : Nat) (am6 : Nat) (am7 : Nat) (am8 : Nat) (am9 : Nat) (am10 : Nat) (am11 : Nat) (am12 : Nat) (n : Nat) (M_isHeld : Int32) (M_taped : Int32) (M_token : Int32) (M_from : Int32) (M_to : Int32) (M_value : Int32) (M_isWrong : Int32) (M_rowN : Int32) (M_ran : Int32) (M_actKind : Int32) (M_actN : Int32) (M_actA : Int32) (M_isParted : Int32) (u_s : (Nat → Int32)) (x1 : Int32) (z : Int32) (hf : fX7_costs n (M_isHeld, M_taped, M_token, M_from, M_to, M_value, M_isWrong, M_rowN, M_ran, M_actKind, M_actN, M_actA, M_isParted) u_s x1 = some z) : Met l yX7_costs wsX7_costs ({ frames := 1, cells := 0, slots := 0, locals := 22 }) (PcR [.ref am, .int x1] D cy st sk sv B [(am, .inr (7, [.ref am0, .ref am1, .ref am2, .ref am3, .int M_isHeld, .ref am4, .int M_taped, .int M_token, .int M_from, .int M_to, .int M_value, .int M_isWrong, .ref am5, .int M_rowN, .ref am6, .ref am7, .ref am8, .ref am9, .ref am10, .ref am11, .ref am12, .int M_ran, .int M_actKind, .int M_actN, .int M_actA, .int M_isParted])), (am0, .inl (cy 0, 48, .inl u_s))]) (Qr (some (.int z))) 0 0 (fun _ => False) := by
  refine Met.ofW (cc := cX7_costs) (maxL := 2) (ret := (some .int)) (by decide) rfl ?_
  intro p e s m args below meth c s₁ Bd hml hv
  obtain ⟨rfl, hP, hG⟩ := hv
  have hx := Bd.exec
  have hb := Bd.bytes
  have hr := Bd.returns
  have hts := atoms_spec (ws := wsX7_costs) Bd.pre
  have hown : s.vm.findClass RX7 = some m.cls := findClass_of_methodNamed Bd.named
  have hlocks := Bd.notSynchronized
  have hK := hG.1
  have hS : va_S (fun q => B ≤ q) s.heap s.heap [] := va_S.rf
  have hAB : ∀ q, (fun q => B ≤ q) q → B ≤ q := fun _ h => h
  have hin7 : ∀ w ∈ u_ws RX7 TX7 26, w ∈ wsX7_costs := by decide +kernel
  have fl7 := hts (.fieldLink RX7 7 "KinCutleryModel" "s" "[I") (by decide +kernel)
  have hl := lv_entry ([.ref am, .int x1]) (n := 2) (Nat.le_of_ble_eq_true rfl)
  rw [lg_entry_eq]
  generalize (lg_sl ([.ref am, .int x1]) ++ List.replicate (2 - (lg_sl ([.ref am, .int x1])).length) Slot.unset).toArray = ls at hl ⊢
  have hl : lv_has ls 2 [(0, .ref am), (1, .int x1)] := hl
  have hf : ((fX7_its n (M_isHeld, M_taped, M_token, M_from, M_to, M_value, M_isWrong, M_rowN, M_ran, M_actKind, M_actN, M_actA, M_isParted) u_s x1 (0 : Int32)).bind fun r3 => if r3 = (2 : Int32) then (some (15 : Int32)) else if r3 = (3 : Int32) then (some (5 : Int32)) else if r3 = (4 : Int32) then (some ((15 : Int32) - (u_s (5 : Int32).toNatClampNeg))) else if r3 = (5 : Int32) then (some (0 : Int32)) else  (some (10 : Int32))) = some z := hf
  refine lv_aload_n hx hb dX7_costs_0 rfl (lv_at hl 0 rfl) ?_
  refine lv_iload_n hx hb dX7_costs_1 rfl (lv_at hl 1 rfl) ?_
  refine lv_iconst (v := (0 : Int32)) hx hb dX7_costs_2 (by decide) ?_
  obtain ⟨r3, hc3, hf⟩ := zb hf
  refine zvr (o := some (.int r3)) (As := [.int x1, .int (0 : Int32)]) (rest := []) (stk := [.int r3]) ⟨hx, hb, hml, hown, hts⟩ (mX7_its l D cy st sk sv B am am0 am1 am2 am3 am4 am5 am6 am7 am8 am9 am10 am11 am12 n M_isHeld M_taped M_token M_from M_to M_value M_isWrong M_rowN M_ran M_actKind M_actN M_actA M_isParted u_s x1 (0 : Int32) r3 hc3) (cwV 2 hts gX7_costs_X7_its rfl rfl rfl (by decide +kernel) ⟨Nat.le_of_ble_eq_true rfl, Nat.le_of_ble_eq_true rfl⟩) hG hS hAB hP [0, 1] rfl 0 7 rfl rfl rfl rfl hl.1 rfl (Nat.le_of_ble_eq_true rfl) dX7_costs_3 rfl ?_
  by_cases c_6_2 : r3 = (2 : Int32)
  · have hf := zp hf c_6_2
    refine lv_tableIn (tgt := 36) hx hb dX7_costs_6 (by rw [c_6_2]; decide) (by rw [c_6_2]; decide) (by rw [c_6_2]; rfl) (by decide) ?_
    refine lv_bipush (v := (15 : Int32)) hx hb dX7_costs_36 (by decide) ?_
    cases hf
    exact W.iret hx hb hr (fun t ht hW => ⟨rfl, ht⟩) (fun q h => absurd h List.not_mem_nil) dX7_costs_38
  have hf := zn hf c_6_2
  by_cases c_6_3 : r3 = (3 : Int32)
  · have hf := zp hf c_6_3
    refine lv_tableIn (tgt := 39) hx hb dX7_costs_6 (by rw [c_6_3]; decide) (by rw [c_6_3]; decide) (by rw [c_6_3]; rfl) (by decide) ?_
    refine lv_iconst (v := (5 : Int32)) hx hb dX7_costs_39 (by decide) ?_
    cases hf
    exact W.iret hx hb hr (fun t ht hW => ⟨rfl, ht⟩) (fun q h => absurd h List.not_mem_nil) dX7_costs_40
  have hf := zn hf c_6_3
  by_cases c_6_4 : r3 = (4 : Int32)
  · have hf := zp hf c_6_4
    refine lv_tableIn (tgt := 41) hx hb dX7_costs_6 (by rw [c_6_4]; decide) (by rw [c_6_4]; decide) (by rw [c_6_4]; rfl) (by decide) ?_
    refine lv_bipush (v := (15 : Int32)) hx hb dX7_costs_41 (by decide) ?_
    refine lv_aload_n hx hb dX7_costs_43 rfl (lv_at hl 0 rfl) ?_
    refine va_get (D := D) (ci := 7) (v := .ref am0) (C := RX7) (T := TX7) (N := 26) hx hb hts hin7 hown hK hP 0 rfl rfl 0 (by decide) fl7 (fun _ h9 => h9) rfl dX7_costs_44 ?_
    refine lv_iconst (v := (5 : Int32)) hx hb dX7_costs_47 (by decide) ?_
    refine va_iald hx hb hK hP 1 0 rfl rfl vi_5_48 dX7_costs_48 ?_
    refine lv_isub hx hb dX7_costs_49 ?_
    cases hf
    exact W.iret hx hb hr (fun t ht hW => ⟨rfl, ht⟩) (fun q h => absurd h List.not_mem_nil) dX7_costs_50
  have hf := zn hf c_6_4
  by_cases c_6_5 : r3 = (5 : Int32)
  · have hf := zp hf c_6_5
    refine lv_tableIn (tgt := 51) hx hb dX7_costs_6 (by rw [c_6_5]; decide) (by rw [c_6_5]; decide) (by rw [c_6_5]; rfl) (by decide) ?_
    refine lv_iconst (v := (0 : Int32)) hx hb dX7_costs_51 (by decide) ?_
    cases hf
    exact W.iret hx hb hr (fun t ht hW => ⟨rfl, ht⟩) (fun q h => absurd h List.not_mem_nil) dX7_costs_52
  have hf := zn hf c_6_5
  have e_6_2 : ¬ r3.toInt = 2 := fun h => c_6_2 (Int32.toInt_inj.mp (h.trans (by decide)))
  have e_6_3 : ¬ r3.toInt = 3 := fun h => c_6_3 (Int32.toInt_inj.mp (h.trans (by decide)))
  have e_6_4 : ¬ r3.toInt = 4 := fun h => c_6_4 (Int32.toInt_inj.mp (h.trans (by decide)))
  have e_6_5 : ¬ r3.toInt = 5 := fun h => c_6_5 (Int32.toInt_inj.mp (h.trans (by decide)))
  refine lv_tableOut (tgt := 53) hx hb dX7_costs_6 (by omega) (by decide) ?_
  refine lv_bipush (v := (10 : Int32)) hx hb dX7_costs_53 (by decide) ?_
  cases hf
  exact W.iret hx hb hr (fun t ht hW => ⟨rfl, ht⟩) (fun q h => absurd h List.not_mem_nil) dX7_costs_55
