set_option maxRecDepth 100000 in
set_option maxHeartbeats 100000000 in
theorem mX6_heldNow (l : Launch) (D : va_G) (cy : Nat → ClassId) (st sk sv : Nat → Nat) (B : Nat) (ak : Nat) (an0 : Nat) (ay0 : Nat) (ae0 : Nat) (aa0 : Nat) (aw0 : Nat) (as0 : Nat) (af0 : Nat) (ag0 : Nat) (an1 : Nat) (an2 : Nat) (an3 : Nat) (an4 : Nat) (an5 : Nat) (aF : Nat → Nat) (n : Nat) (uK : Int32) (N_laws : (Nat → Int32)) (N_kind : (Nat → Int32)) (N_holds : (Nat → Int32)) (N_gone : (Nat → Int32)) (N_tells : (Nat → Int32)) (N_drowned : Int32) (N_count : Int32) (N_course : Int32) (N_told : Int32) (N_z : Int32) (F_what : (Nat → Int32)) (F_number : (Nat → Int32)) (F_sort : (Nat → Int32)) (F_length : (Nat → Int32)) (j1 : Nat) (hj1 : j1 < 4) (z : Int32) (hf : fX6_heldNow n uK (N_laws, N_kind, N_holds, N_gone, N_tells, N_drowned, N_count, N_course, N_told, N_z) (F_what, F_number, F_sort, F_length) j1 = some z) : Met l yX6_heldNow wsX6_heldNow ({ frames := 2, cells := 0, slots := 0, locals := 43 }) (PcR [.ref ak, .ref (aF j1)] D cy st sk sv B [(ak, .inr (6, [.ref an0, .ref ay0, .ref ae0, .int uK, .ref aa0, .ref aw0, .ref as0, .ref af0, .ref ag0])), (an0, .inr (4, [.ref an1, .ref an2, .ref an3, .ref an4, .ref an5, .int N_drowned, .int N_count, .int N_course, .int N_told, .int N_z])), (an1, .inl (cy 0, 4, .inl N_laws)), (an2, .inl (cy 0, 8, .inl N_kind)), (an3, .inl (cy 0, 8, .inl N_holds)), (an4, .inl (cy 0, 8, .inl N_gone)), (an5, .inl (cy 0, 8, .inl N_tells)), (af0, .inl (cy 4, 4, .inr (.inr (.inr (.inr (fun j => some (aF j))))))), ((aF 0), .inr (2, [.int (F_what 0), .int (F_number 0), .int (F_sort 0), .int (F_length 0)])), ((aF 1), .inr (2, [.int (F_what 1), .int (F_number 1), .int (F_sort 1), .int (F_length 1)])), ((aF 2), .inr (2, [.int (F_what 2), .int (F_number 2), .int (F_sort 2), .int (F_length 2)])), ((aF 3), .inr (2, [.int (F_what 3), .int (F_number 3), .int (F_sort 3), .int (F_length 3)]))]) (Qr (some (.int z))) 0 0 (fun _ => False) := by
  refine Met.ofW (cc := cX6_heldNow) (maxL := 2) (ret := (some .int)) (by decide) rfl ?_
  intro p e s m args below meth c s₁ Bd hml hv
  obtain ⟨rfl, hP, hG⟩ := hv
  have hx := Bd.exec
  have hb := Bd.bytes
  have hr := Bd.returns
  have hts := atoms_spec (ws := wsX6_heldNow) Bd.pre
  have hown : s.vm.findClass RX6 = some m.cls := findClass_of_methodNamed Bd.named
  have hlocks := Bd.notSynchronized
  have hK := hG.1
  have hS : va_S (fun q => B ≤ q) s.heap s.heap [] := va_S.rf
  have hAB : ∀ q, (fun q => B ≤ q) q → B ≤ q := fun _ h => h
  have hin2 : ∀ w ∈ u_ws RX2 TX2 4, w ∈ wsX6_heldNow := by decide +kernel
  have hin6 : ∀ w ∈ u_ws RX6 TX6 9, w ∈ wsX6_heldNow := by decide +kernel
  have fl10 := hts (.fieldLink RX6 10 "KinCutlery" "now" "LKinCutlery$Table;") (by decide +kernel)
  have fl258 := hts (.fieldLink RX6 258 "KinCutlery$Shelf" "what" "I") (by decide +kernel)
  have fl265 := hts (.fieldLink RX6 265 "KinCutlery$Shelf" "number" "I") (by decide +kernel)
  rcases zc4n hj1 with rfl | rfl | rfl | rfl
  · have hj1 := hj1
    have hl := lv_entry ([.ref ak, .ref (aF 0)]) (n := 2) (Nat.le_of_ble_eq_true rfl)
    rw [lg_entry_eq]
    generalize (lg_sl ([.ref ak, .ref (aF 0)]) ++ List.replicate (2 - (lg_sl ([.ref ak, .ref (aF 0)])).length) Slot.unset).toArray = ls at hl ⊢
    have hl : lv_has ls 2 [(0, .ref ak), (1, .ref (aF 0))] := hl
    have hf : (if (F_what 0) = 0 then ((fX4_has n (N_laws, N_kind, N_holds, N_gone, N_tells, N_drowned, N_count, N_course, N_told, N_z) (F_number 0)).bind fun r15 => if r15 = 0 then (some (2 : Int32)) else (some (F_what 0))) else (some (F_what 0))) = some z := hf
    refine lv_aload_n hx hb dX6_heldNow_0 rfl (lv_at hl 1 rfl) ?_
    refine va_get (D := D) (ci := 2) (v := .int (F_what 0)) (C := RX2) (T := TX2) (N := 4) hx hb hts hin2 hown hK hP 8 rfl rfl 0 (by decide) fl258 (fun _ h9 => h9) rfl dX6_heldNow_1 ?_
    refine lv_if_ne (tgt := 25) hx hb dX6_heldNow_4 (by decide) (fun c_4 => ?_) (fun c_4 => ?_)
    · have hf := zn hf c_4
      refine lv_aload_n hx hb dX6_heldNow_25 rfl (lv_at hl 1 rfl) ?_
      refine va_get (D := D) (ci := 2) (v := .int (F_what 0)) (C := RX2) (T := TX2) (N := 4) hx hb hts hin2 hown hK hP 8 rfl rfl 0 (by decide) fl258 (fun _ h9 => h9) rfl dX6_heldNow_26 ?_
      cases hf
      exact W.iret hx hb hr (fun t ht hW => ⟨rfl, ht⟩) (fun q h => absurd h List.not_mem_nil) dX6_heldNow_29
    · have hf := zp hf c_4
      refine lv_aload_n hx hb dX6_heldNow_7 rfl (lv_at hl 0 rfl) ?_
      refine va_get (D := D) (ci := 6) (v := .ref an0) (C := RX6) (T := TX6) (N := 9) hx hb hts hin6 hown hK hP 0 rfl rfl 0 (by decide) fl10 (fun _ h9 => h9) rfl dX6_heldNow_8 ?_
      refine lv_aload_n hx hb dX6_heldNow_11 rfl (lv_at hl 1 rfl) ?_
      refine va_get (D := D) (ci := 2) (v := .int (F_number 0)) (C := RX2) (T := TX2) (N := 4) hx hb hts hin2 hown hK hP 8 rfl rfl 1 (by decide) fl265 (fun _ h9 => h9) rfl dX6_heldNow_12 ?_
      obtain ⟨r15, hc15, hf⟩ := zb hf
      refine zvr (o := some (.int r15)) (As := [.int (F_number 0)]) (rest := []) (stk := [.int r15]) ⟨hx, hb, hml, hown, hts⟩ (mX4_has l D cy st sk sv B an0 an1 an2 an3 an4 an5 n N_laws N_kind N_holds N_gone N_tells N_drowned N_count N_course N_told N_z (F_number 0) r15 hc15) (cwV 1 hts gX6_heldNow_X4_has rfl rfl rfl (by decide +kernel) ⟨Nat.le_of_ble_eq_true rfl, Nat.le_of_ble_eq_true rfl⟩) hG hS hAB hP [1, 2, 3, 4, 5, 6] rfl 0 4 rfl rfl rfl rfl hl.1 rfl (Nat.le_of_ble_eq_true rfl) dX6_heldNow_15 rfl ?_
      refine lv_if_ne (tgt := 25) hx hb dX6_heldNow_18 (by decide) (fun c_18 => ?_) (fun c_18 => ?_)
      · have hf := zn hf c_18
        refine lv_aload_n hx hb dX6_heldNow_25 rfl (lv_at hl 1 rfl) ?_
        refine va_get (D := D) (ci := 2) (v := .int (F_what 0)) (C := RX2) (T := TX2) (N := 4) hx hb hts hin2 hown hK hP 8 rfl rfl 0 (by decide) fl258 (fun _ h9 => h9) rfl dX6_heldNow_26 ?_
        cases hf
        exact W.iret hx hb hr (fun t ht hW => ⟨rfl, ht⟩) (fun q h => absurd h List.not_mem_nil) dX6_heldNow_29
      · have hf := zp hf c_18
        refine lv_iconst (v := (2 : Int32)) hx hb dX6_heldNow_21 (by decide) ?_
        refine lv_goto (tgt := 29) hx hb dX6_heldNow_22 (by decide) ?_
        cases hf
        exact W.iret hx hb hr (fun t ht hW => ⟨rfl, ht⟩) (fun q h => absurd h List.not_mem_nil) dX6_heldNow_29
  · have hj1 := hj1
    have hl := lv_entry ([.ref ak, .ref (aF 1)]) (n := 2) (Nat.le_of_ble_eq_true rfl)
    rw [lg_entry_eq]
    generalize (lg_sl ([.ref ak, .ref (aF 1)]) ++ List.replicate (2 - (lg_sl ([.ref ak, .ref (aF 1)])).length) Slot.unset).toArray = ls at hl ⊢
    have hl : lv_has ls 2 [(0, .ref ak), (1, .ref (aF 1))] := hl
    have hf : (if (F_what 1) = 0 then ((fX4_has n (N_laws, N_kind, N_holds, N_gone, N_tells, N_drowned, N_count, N_course, N_told, N_z) (F_number 1)).bind fun r15 => if r15 = 0 then (some (2 : Int32)) else (some (F_what 1))) else (some (F_what 1))) = some z := hf
    refine lv_aload_n hx hb dX6_heldNow_0 rfl (lv_at hl 1 rfl) ?_
    refine va_get (D := D) (ci := 2) (v := .int (F_what 1)) (C := RX2) (T := TX2) (N := 4) hx hb hts hin2 hown hK hP 9 rfl rfl 0 (by decide) fl258 (fun _ h9 => h9) rfl dX6_heldNow_1 ?_
    refine lv_if_ne (tgt := 25) hx hb dX6_heldNow_4 (by decide) (fun c_4 => ?_) (fun c_4 => ?_)
    · have hf := zn hf c_4
      refine lv_aload_n hx hb dX6_heldNow_25 rfl (lv_at hl 1 rfl) ?_
      refine va_get (D := D) (ci := 2) (v := .int (F_what 1)) (C := RX2) (T := TX2) (N := 4) hx hb hts hin2 hown hK hP 9 rfl rfl 0 (by decide) fl258 (fun _ h9 => h9) rfl dX6_heldNow_26 ?_
      cases hf
      exact W.iret hx hb hr (fun t ht hW => ⟨rfl, ht⟩) (fun q h => absurd h List.not_mem_nil) dX6_heldNow_29
    · have hf := zp hf c_4
      refine lv_aload_n hx hb dX6_heldNow_7 rfl (lv_at hl 0 rfl) ?_
      refine va_get (D := D) (ci := 6) (v := .ref an0) (C := RX6) (T := TX6) (N := 9) hx hb hts hin6 hown hK hP 0 rfl rfl 0 (by decide) fl10 (fun _ h9 => h9) rfl dX6_heldNow_8 ?_
      refine lv_aload_n hx hb dX6_heldNow_11 rfl (lv_at hl 1 rfl) ?_
      refine va_get (D := D) (ci := 2) (v := .int (F_number 1)) (C := RX2) (T := TX2) (N := 4) hx hb hts hin2 hown hK hP 9 rfl rfl 1 (by decide) fl265 (fun _ h9 => h9) rfl dX6_heldNow_12 ?_
      obtain ⟨r15, hc15, hf⟩ := zb hf
      refine zvr (o := some (.int r15)) (As := [.int (F_number 1)]) (rest := []) (stk := [.int r15]) ⟨hx, hb, hml, hown, hts⟩ (mX4_has l D cy st sk sv B an0 an1 an2 an3 an4 an5 n N_laws N_kind N_holds N_gone N_tells N_drowned N_count N_course N_told N_z (F_number 1) r15 hc15) (cwV 1 hts gX6_heldNow_X4_has rfl rfl rfl (by decide +kernel) ⟨Nat.le_of_ble_eq_true rfl, Nat.le_of_ble_eq_true rfl⟩) hG hS hAB hP [1, 2, 3, 4, 5, 6] rfl 0 4 rfl rfl rfl rfl hl.1 rfl (Nat.le_of_ble_eq_true rfl) dX6_heldNow_15 rfl ?_
      refine lv_if_ne (tgt := 25) hx hb dX6_heldNow_18 (by decide) (fun c_18 => ?_) (fun c_18 => ?_)
      · have hf := zn hf c_18
        refine lv_aload_n hx hb dX6_heldNow_25 rfl (lv_at hl 1 rfl) ?_
        refine va_get (D := D) (ci := 2) (v := .int (F_what 1)) (C := RX2) (T := TX2) (N := 4) hx hb hts hin2 hown hK hP 9 rfl rfl 0 (by decide) fl258 (fun _ h9 => h9) rfl dX6_heldNow_26 ?_
        cases hf
        exact W.iret hx hb hr (fun t ht hW => ⟨rfl, ht⟩) (fun q h => absurd h List.not_mem_nil) dX6_heldNow_29
      · have hf := zp hf c_18
        refine lv_iconst (v := (2 : Int32)) hx hb dX6_heldNow_21 (by decide) ?_
        refine lv_goto (tgt := 29) hx hb dX6_heldNow_22 (by decide) ?_
        cases hf
        exact W.iret hx hb hr (fun t ht hW => ⟨rfl, ht⟩) (fun q h => absurd h List.not_mem_nil) dX6_heldNow_29
  · have hj1 := hj1
    have hl := lv_entry ([.ref ak, .ref (aF 2)]) (n := 2) (Nat.le_of_ble_eq_true rfl)
    rw [lg_entry_eq]
    generalize (lg_sl ([.ref ak, .ref (aF 2)]) ++ List.replicate (2 - (lg_sl ([.ref ak, .ref (aF 2)])).length) Slot.unset).toArray = ls at hl ⊢
    have hl : lv_has ls 2 [(0, .ref ak), (1, .ref (aF 2))] := hl
    have hf : (if (F_what 2) = 0 then ((fX4_has n (N_laws, N_kind, N_holds, N_gone, N_tells, N_drowned, N_count, N_course, N_told, N_z) (F_number 2)).bind fun r15 => if r15 = 0 then (some (2 : Int32)) else (some (F_what 2))) else (some (F_what 2))) = some z := hf
    refine lv_aload_n hx hb dX6_heldNow_0 rfl (lv_at hl 1 rfl) ?_
    refine va_get (D := D) (ci := 2) (v := .int (F_what 2)) (C := RX2) (T := TX2) (N := 4) hx hb hts hin2 hown hK hP 10 rfl rfl 0 (by decide) fl258 (fun _ h9 => h9) rfl dX6_heldNow_1 ?_
    refine lv_if_ne (tgt := 25) hx hb dX6_heldNow_4 (by decide) (fun c_4 => ?_) (fun c_4 => ?_)
    · have hf := zn hf c_4
      refine lv_aload_n hx hb dX6_heldNow_25 rfl (lv_at hl 1 rfl) ?_
      refine va_get (D := D) (ci := 2) (v := .int (F_what 2)) (C := RX2) (T := TX2) (N := 4) hx hb hts hin2 hown hK hP 10 rfl rfl 0 (by decide) fl258 (fun _ h9 => h9) rfl dX6_heldNow_26 ?_
      cases hf
      exact W.iret hx hb hr (fun t ht hW => ⟨rfl, ht⟩) (fun q h => absurd h List.not_mem_nil) dX6_heldNow_29
    · have hf := zp hf c_4
      refine lv_aload_n hx hb dX6_heldNow_7 rfl (lv_at hl 0 rfl) ?_
      refine va_get (D := D) (ci := 6) (v := .ref an0) (C := RX6) (T := TX6) (N := 9) hx hb hts hin6 hown hK hP 0 rfl rfl 0 (by decide) fl10 (fun _ h9 => h9) rfl dX6_heldNow_8 ?_
      refine lv_aload_n hx hb dX6_heldNow_11 rfl (lv_at hl 1 rfl) ?_
      refine va_get (D := D) (ci := 2) (v := .int (F_number 2)) (C := RX2) (T := TX2) (N := 4) hx hb hts hin2 hown hK hP 10 rfl rfl 1 (by decide) fl265 (fun _ h9 => h9) rfl dX6_heldNow_12 ?_
      obtain ⟨r15, hc15, hf⟩ := zb hf
      refine zvr (o := some (.int r15)) (As := [.int (F_number 2)]) (rest := []) (stk := [.int r15]) ⟨hx, hb, hml, hown, hts⟩ (mX4_has l D cy st sk sv B an0 an1 an2 an3 an4 an5 n N_laws N_kind N_holds N_gone N_tells N_drowned N_count N_course N_told N_z (F_number 2) r15 hc15) (cwV 1 hts gX6_heldNow_X4_has rfl rfl rfl (by decide +kernel) ⟨Nat.le_of_ble_eq_true rfl, Nat.le_of_ble_eq_true rfl⟩) hG hS hAB hP [1, 2, 3, 4, 5, 6] rfl 0 4 rfl rfl rfl rfl hl.1 rfl (Nat.le_of_ble_eq_true rfl) dX6_heldNow_15 rfl ?_
      refine lv_if_ne (tgt := 25) hx hb dX6_heldNow_18 (by decide) (fun c_18 => ?_) (fun c_18 => ?_)
      · have hf := zn hf c_18
        refine lv_aload_n hx hb dX6_heldNow_25 rfl (lv_at hl 1 rfl) ?_
        refine va_get (D := D) (ci := 2) (v := .int (F_what 2)) (C := RX2) (T := TX2) (N := 4) hx hb hts hin2 hown hK hP 10 rfl rfl 0 (by decide) fl258 (fun _ h9 => h9) rfl dX6_heldNow_26 ?_
        cases hf
        exact W.iret hx hb hr (fun t ht hW => ⟨rfl, ht⟩) (fun q h => absurd h List.not_mem_nil) dX6_heldNow_29
      · have hf := zp hf c_18
        refine lv_iconst (v := (2 : Int32)) hx hb dX6_heldNow_21 (by decide) ?_
        refine lv_goto (tgt := 29) hx hb dX6_heldNow_22 (by decide) ?_
        cases hf
        exact W.iret hx hb hr (fun t ht hW => ⟨rfl, ht⟩) (fun q h => absurd h List.not_mem_nil) dX6_heldNow_29
  · have hj1 := hj1
    have hl := lv_entry ([.ref ak, .ref (aF 3)]) (n := 2) (Nat.le_of_ble_eq_true rfl)
    rw [lg_entry_eq]
    generalize (lg_sl ([.ref ak, .ref (aF 3)]) ++ List.replicate (2 - (lg_sl ([.ref ak, .ref (aF 3)])).length) Slot.unset).toArray = ls at hl ⊢
    have hl : lv_has ls 2 [(0, .ref ak), (1, .ref (aF 3))] := hl
    have hf : (if (F_what 3) = 0 then ((fX4_has n (N_laws, N_kind, N_holds, N_gone, N_tells, N_drowned, N_count, N_course, N_told, N_z) (F_number 3)).bind fun r15 => if r15 = 0 then (some (2 : Int32)) else (some (F_what 3))) else (some (F_what 3))) = some z := hf
    refine lv_aload_n hx hb dX6_heldNow_0 rfl (lv_at hl 1 rfl) ?_
    refine va_get (D := D) (ci := 2) (v := .int (F_what 3)) (C := RX2) (T := TX2) (N := 4) hx hb hts hin2 hown hK hP 11 rfl rfl 0 (by decide) fl258 (fun _ h9 => h9) rfl dX6_heldNow_1 ?_
    refine lv_if_ne (tgt := 25) hx hb dX6_heldNow_4 (by decide) (fun c_4 => ?_) (fun c_4 => ?_)
    · have hf := zn hf c_4
      refine lv_aload_n hx hb dX6_heldNow_25 rfl (lv_at hl 1 rfl) ?_
      refine va_get (D := D) (ci := 2) (v := .int (F_what 3)) (C := RX2) (T := TX2) (N := 4) hx hb hts hin2 hown hK hP 11 rfl rfl 0 (by decide) fl258 (fun _ h9 => h9) rfl dX6_heldNow_26 ?_
      cases hf
      exact W.iret hx hb hr (fun t ht hW => ⟨rfl, ht⟩) (fun q h => absurd h List.not_mem_nil) dX6_heldNow_29
    · have hf := zp hf c_4
      refine lv_aload_n hx hb dX6_heldNow_7 rfl (lv_at hl 0 rfl) ?_
      refine va_get (D := D) (ci := 6) (v := .ref an0) (C := RX6) (T := TX6) (N := 9) hx hb hts hin6 hown hK hP 0 rfl rfl 0 (by decide) fl10 (fun _ h9 => h9) rfl dX6_heldNow_8 ?_
      refine lv_aload_n hx hb dX6_heldNow_11 rfl (lv_at hl 1 rfl) ?_
      refine va_get (D := D) (ci := 2) (v := .int (F_number 3)) (C := RX2) (T := TX2) (N := 4) hx hb hts hin2 hown hK hP 11 rfl rfl 1 (by decide) fl265 (fun _ h9 => h9) rfl dX6_heldNow_12 ?_
      obtain ⟨r15, hc15, hf⟩ := zb hf
      refine zvr (o := some (.int r15)) (As := [.int (F_number 3)]) (rest := []) (stk := [.int r15]) ⟨hx, hb, hml, hown, hts⟩ (mX4_has l D cy st sk sv B an0 an1 an2 an3 an4 an5 n N_laws N_kind N_holds N_gone N_tells N_drowned N_count N_course N_told N_z (F_number 3) r15 hc15) (cwV 1 hts gX6_heldNow_X4_has rfl rfl rfl (by decide +kernel) ⟨Nat.le_of_ble_eq_true rfl, Nat.le_of_ble_eq_true rfl⟩) hG hS hAB hP [1, 2, 3, 4, 5, 6] rfl 0 4 rfl rfl rfl rfl hl.1 rfl (Nat.le_of_ble_eq_true rfl) dX6_heldNow_15 rfl ?_
      refine lv_if_ne (tgt := 25) hx hb dX6_heldNow_18 (by decide) (fun c_18 => ?_) (fun c_18 => ?_)
      · have hf := zn hf c_18
        refine lv_aload_n hx hb dX6_heldNow_25 rfl (lv_at hl 1 rfl) ?_
        refine va_get (D := D) (ci := 2) (v := .int (F_what 3)) (C := RX2) (T := TX2) (N := 4) hx hb hts hin2 hown hK hP 11 rfl rfl 0 (by decide) fl258 (fun _ h9 => h9) rfl dX6_heldNow_26 ?_
        cases hf
        exact W.iret hx hb hr (fun t ht hW => ⟨rfl, ht⟩) (fun q h => absurd h List.not_mem_nil) dX6_heldNow_29
      · have hf := zp hf c_18
        refine lv_iconst (v := (2 : Int32)) hx hb dX6_heldNow_21 (by decide) ?_
        refine lv_goto (tgt := 29) hx hb dX6_heldNow_22 (by decide) ?_
        cases hf
        exact W.iret hx hb hr (fun t ht hW => ⟨rfl, ht⟩) (fun q h => absurd h List.not_mem_nil) dX6_heldNow_29
set_option maxRecDepth 100000 in
set_option maxHeartbeats 100000000 in
theorem mX6_isUnder (l : Launch) (D : va_G) (cy : Nat → ClassId) (st sk sv : Nat → Nat) (B : Nat)  (n : Nat)  (x0 : Int32) (x1 : Int32) (z : Int32) (hf : fX6_isUnder n x0 x1 = some z) : Met l yX6_isUnder wsX6_isUnder ({ frames := 1, cells := 0, slots := 0, locals := 22 }) (PcR [.int x0, .int x1] D cy st sk sv B []) (Qr (some (.int z))) 0 0 (fun _ => False) := by
  refine Met.ofW (cc := cX6_isUnder) (maxL := 4) (ret := (some .boolean)) (by decide) rfl ?_
  intro p e s m args below meth c s₁ Bd hml hv
  obtain ⟨rfl, hP, hG⟩ := hv
  have hx := Bd.exec
  have hb := Bd.bytes
  have hr := Bd.returns
  have hts := atoms_spec (ws := wsX6_isUnder) Bd.pre
  have hown : s.vm.findClass RX6 = some m.cls := findClass_of_methodNamed Bd.named
  have hlocks := Bd.notSynchronized
  have hK := hG.1
  have hS : va_S (fun q => B ≤ q) s.heap s.heap [] := va_S.rf
  have hAB : ∀ q, (fun q => B ≤ q) q → B ≤ q := fun _ h => h
  have fl283 := hts (.fieldLink RX6 283 "KinCutlery" "KIND_ABOVE" "[I") (by decide +kernel)
  have hL4 : ∀ (n0 : Nat) (y2 : Int32) (y3 : Int32), lpF (fX6_isUnder_F4 n x0 x1 ) n0 (y2, y3) = some z → ∀ (ls : Array Slot), lv_has ls 4 [(0, .int x0), (1, .int x1), (2, .int y2), (3, .int y3)] → W p l e (headSpec wsX6_isUnder ({ frames := 1, cells := 0, slots := 0, locals := 22 })).room s m ([.int x0, .int x1] : List Value).toArray below meth c s.heap [] 0 0 (MQ below (Qr (some (.int z))) ([.int x0, .int x1] : List Value).toArray s 0 0 (fun _ => False)) (F0 m 4 ls []) := by
    have key : ∀ (n0 : Nat) (v4 : Int32 × Int32), lpF (fX6_isUnder_F4 n x0 x1 ) n0 v4 = some z → ∀ (ls : Array Slot), lv_has ls 4 [(0, .int x0), (1, .int x1), (2, .int v4.1), (3, .int v4.2)] → W p l e (headSpec wsX6_isUnder ({ frames := 1, cells := 0, slots := 0, locals := 22 })).room s m ([.int x0, .int x1] : List Value).toArray below meth c s.heap [] 0 0 (MQ below (Qr (some (.int z))) ([.int x0, .int x1] : List Value).toArray s 0 0 (fun _ => False)) (F0 m 4 ls []) := by
      refine lpW ?_
      intro k4 hk40
      have hk4 : ∀ (y2 : Int32) (y3 : Int32), k4 (y2, y3) = some z → ∀ (ls : Array Slot), lv_has ls 4 [(0, .int x0), (1, .int x1), (2, .int y2), (3, .int y3)] → W p l e (headSpec wsX6_isUnder ({ frames := 1, cells := 0, slots := 0, locals := 22 })).room s m ([.int x0, .int x1] : List Value).toArray below meth c s.heap [] 0 0 (MQ below (Qr (some (.int z))) ([.int x0, .int x1] : List Value).toArray s 0 0 (fun _ => False)) (F0 m 4 ls []) := fun y2 y3 h9 => hk40 (y2, y3) h9
      have hstep : ∀ (y2 : Int32) (y3 : Int32), fX6_isUnder_F4 n x0 x1  k4 (y2, y3) = some z → ∀ (ls : Array Slot), lv_has ls 4 [(0, .int x0), (1, .int x1), (2, .int y2), (3, .int y3)] → W p l e (headSpec wsX6_isUnder ({ frames := 1, cells := 0, slots := 0, locals := 22 })).room s m ([.int x0, .int x1] : List Value).toArray below meth c s.heap [] 0 0 (MQ below (Qr (some (.int z))) ([.int x0, .int x1] : List Value).toArray s 0 0 (fun _ => False)) (F0 m 4 ls []) := by
        intro y2 y3 hf ls hl
        have hf : (if (6 : Int32) ≤ y3 then (some (0 : Int32)) else ((fX6_within n y2 (0 : Int32) (5 : Int32)).bind fun r13 => if r13 = 0 then (some (0 : Int32)) else (if y2 = x1 then (some (1 : Int32)) else (if y2 < 0 ∨ 6 ≤ y2.toNatClampNeg then none else k4 ((gsF 2 y2.toNatClampNeg), (y3 + (1 : Int32))))))) = some z := hf
        refine lv_iload_n hx hb dX6_isUnder_4 rfl (lv_at hl 3 rfl) ?_
        refine lv_bipush (v := (6 : Int32)) hx hb dX6_isUnder_5 (by decide) ?_
        refine lv_icmp_ge (tgt := 38) hx hb dX6_isUnder_7 (by decide) (fun c_7 => ?_) (fun c_7 => ?_)
        · have hf := zp hf c_7
          refine lv_iconst (v := (0 : Int32)) hx hb dX6_isUnder_38 (by decide) ?_
          cases hf
          exact W.zret hx hb hr rfl (fun t ht hW => ⟨rfl, ht⟩) (fun q h => absurd h List.not_mem_nil) dX6_isUnder_39
        · have hf := zn hf c_7
          refine lv_iload_n hx hb dX6_isUnder_10 rfl (lv_at hl 2 rfl) ?_
          refine lv_iconst (v := (0 : Int32)) hx hb dX6_isUnder_11 (by decide) ?_
          refine lv_iconst (v := (5 : Int32)) hx hb dX6_isUnder_12 (by decide) ?_
          obtain ⟨r13, hc13, hf⟩ := zb hf
          refine zsr (o := some (.int r13)) (As := [.int y2, .int (0 : Int32), .int (5 : Int32)]) (rest := []) (stk := [.int r13]) ⟨hx, hb, hml, hown, hts⟩ (mX6_within l D cy st sk sv B  n y2 (0 : Int32) (5 : Int32) r13 hc13) (va_cwS 3 hts gX6_isUnder_X6_within rfl rfl rfl (by decide +kernel) ⟨Nat.le_of_ble_eq_true rfl, Nat.le_of_ble_eq_true rfl⟩) hG hS hAB hP [] rfl rfl hl.1 rfl (Nat.le_of_ble_eq_true rfl) dX6_isUnder_13 rfl ?_
          refine lv_if_eq (tgt := 38) hx hb dX6_isUnder_16 (by decide) (fun c_16 => ?_) (fun c_16 => ?_)
          · have hf := zp hf c_16
            refine lv_iconst (v := (0 : Int32)) hx hb dX6_isUnder_38 (by decide) ?_
            cases hf
            exact W.zret hx hb hr rfl (fun t ht hW => ⟨rfl, ht⟩) (fun q h => absurd h List.not_mem_nil) dX6_isUnder_39
          · have hf := zn hf c_16
            refine lv_iload_n hx hb dX6_isUnder_19 rfl (lv_at hl 2 rfl) ?_
            refine lv_iload_n hx hb dX6_isUnder_20 rfl (lv_at hl 1 rfl) ?_
            refine lv_icmp_ne (tgt := 26) hx hb dX6_isUnder_21 (by decide) (fun c_21 => ?_) (fun c_21 => ?_)
            · have hf := zn hf c_21
              refine va_gets (C := RX6) (n := "KIND_ABOVE") (d := "[I") (v := .ref (st 2)) hx hb (va_Z.narrow (hG.2.2.1 2 (by decide)).1 hAB) hS hown fl283 (fun _ h9 => h9) dX6_isUnder_26 ?_
              refine lv_iload_n hx hb dX6_isUnder_29 rfl (lv_at hl 2 rfl) ?_
              obtain ⟨h_30, hf⟩ := zg hf
              refine va_ti (v := .int (gsF 2 y2.toNatClampNeg)) hx hb (va_T.narrow (hG.2.2.1 2 (by decide)).2 hAB) hS h_30 rfl dX6_isUnder_30 ?_
              refine lv_istore_n (lv' := [(2, .int (gsF 2 y2.toNatClampNeg)), (0, .int x0), (1, .int x1), (3, .int y3)]) hx hb dX6_isUnder_31 rfl hl (by decide) rfl (fun ls hl => ?_)
              refine lv_iinc (v := (y3 + (1 : Int32))) (lv' := [(3, .int (y3 + (1 : Int32))), (2, .int (gsF 2 y2.toNatClampNeg)), (0, .int x0), (1, .int x1)]) hx hb dX6_isUnder_32 hl (k := 3) rfl rfl (by decide) rfl (fun ls hl => ?_)
              refine lv_goto (tgt := 4) hx hb dX6_isUnder_35 (by decide) ?_
              exact hk4 (gsF 2 y2.toNatClampNeg) (y3 + (1 : Int32)) hf _ (lv_sub hl [2, 3, 1, 0] rfl)
            · have hf := zp hf c_21
              refine lv_iconst (v := (1 : Int32)) hx hb dX6_isUnder_24 (by decide) ?_
              cases hf
              exact W.zret hx hb hr rfl (fun t ht hW => ⟨rfl, ht⟩) (fun q h => absurd h List.not_mem_nil) dX6_isUnder_25
      exact fun v4 h9 => hstep v4.1 v4.2 h9
    exact fun n0 y2 y3 h9 => key n0 (y2, y3) h9
  have hl := lv_entry ([.int x0, .int x1]) (n := 4) (Nat.le_of_ble_eq_true rfl)
  rw [lg_entry_eq]
  generalize (lg_sl ([.int x0, .int x1]) ++ List.replicate (4 - (lg_sl ([.int x0, .int x1])).length) Slot.unset).toArray = ls at hl ⊢
  have hl : lv_has ls 4 [(0, .int x0), (1, .int x1)] := hl
  have hf : (lpF (fX6_isUnder_F4 n x0 x1 ) n (x0, (0 : Int32))) = some z := hf
  refine lv_iload_n hx hb dX6_isUnder_0 rfl (lv_at hl 0 rfl) ?_
  refine lv_istore_n (lv' := [(2, .int x0), (0, .int x0), (1, .int x1)]) hx hb dX6_isUnder_1 rfl hl (by decide) rfl (fun ls hl => ?_)
  refine lv_iconst (v := (0 : Int32)) hx hb dX6_isUnder_2 (by decide) ?_
  refine lv_istore_n (lv' := [(3, .int (0 : Int32)), (2, .int x0), (0, .int x0), (1, .int x1)]) hx hb dX6_isUnder_3 rfl hl (by decide) rfl (fun ls hl => ?_)
  exact hL4 n x0 (0 : Int32) hf _ (lv_sub hl [2, 3, 1, 0] rfl)
set_option maxRecDepth 100000 in
set_option maxHeartbeats 100000000 in
theorem mX6_taken (l : Launch) (D : va_G) (cy : Nat → ClassId) (st sk sv : Nat → Nat) (B : Nat) (ak : Nat) (an0 : Nat) (ay0 : Nat) (ae0 : Nat) (aa0 : Nat) (aw0 : Nat) (as0 : Nat) (af0 : Nat) (ag0 : Nat) (an1 : Nat) (an2 : Nat) (an3 : Nat) (an4 : Nat) (an5 : Nat) (aF : Nat → Nat) (n : Nat) (uK : Int32) (N_laws : (Nat → Int32)) (N_kind : (Nat → Int32)) (N_holds : (Nat → Int32)) (N_gone : (Nat → Int32)) (N_tells : (Nat → Int32)) (N_drowned : Int32) (N_count : Int32) (N_course : Int32) (N_told : Int32) (N_z : Int32) (F_what : (Nat → Int32)) (F_number : (Nat → Int32)) (F_sort : (Nat → Int32)) (F_length : (Nat → Int32)) (x1 : Int32) (x2 : Int32) (z : Int32) (hf : fX6_taken n uK (N_laws, N_kind, N_holds, N_gone, N_tells, N_drowned, N_count, N_course, N_told, N_z) (F_what, F_number, F_sort, F_length) x1 x2 = some z) : Met l yX6_taken wsX6_taken ({ frames := 3, cells := 0, slots := 0, locals := 64 }) (PcR [.ref ak, .int x1, .int x2] D cy st sk sv B [(ak, .inr (6, [.ref an0, .ref ay0, .ref ae0, .int uK, .ref aa0, .ref aw0, .ref as0, .ref af0, .ref ag0])), (an0, .inr (4, [.ref an1, .ref an2, .ref an3, .ref an4, .ref an5, .int N_drowned, .int N_count, .int N_course, .int N_told, .int N_z])), (an1, .inl (cy 0, 4, .inl N_laws)), (an2, .inl (cy 0, 8, .inl N_kind)), (an3, .inl (cy 0, 8, .inl N_holds)), (an4, .inl (cy 0, 8, .inl N_gone)), (an5, .inl (cy 0, 8, .inl N_tells)), (af0, .inl (cy 4, 4, .inr (.inr (.inr (.inr (fun j => some (aF j))))))), ((aF 0), .inr (2, [.int (F_what 0), .int (F_number 0), .int (F_sort 0), .int (F_length 0)])), ((aF 1), .inr (2, [.int (F_what 1), .int (F_number 1), .int (F_sort 1), .int (F_length 1)])), ((aF 2), .inr (2, [.int (F_what 2), .int (F_number 2), .int (F_sort 2), .int (F_length 2)])), ((aF 3), .inr (2, [.int (F_what 3), .int (F_number 3), .int (F_sort 3), .int (F_length 3)]))]) (Qr (some (.int z))) 0 0 (fun _ => False) := by
  refine Met.ofW (cc := cX6_taken) (maxL := 4) (ret := (some .int)) (by decide) rfl ?_
  intro p e s m args below meth c s₁ Bd hml hv
  obtain ⟨rfl, hP, hG⟩ := hv
  have hx := Bd.exec
  have hb := Bd.bytes
  have hr := Bd.returns
  have hts := atoms_spec (ws := wsX6_taken) Bd.pre
  have hown : s.vm.findClass RX6 = some m.cls := findClass_of_methodNamed Bd.named
  have hlocks := Bd.notSynchronized
  have hK := hG.1
  have hS : va_S (fun q => B ≤ q) s.heap s.heap [] := va_S.rf
  have hAB : ∀ q, (fun q => B ≤ q) q → B ≤ q := fun _ h => h
  have hin2 : ∀ w ∈ u_ws RX2 TX2 4, w ∈ wsX6_taken := by decide +kernel
  have hin4 : ∀ w ∈ u_ws RX4 TX4 10, w ∈ wsX6_taken := by decide +kernel
  have hin6 : ∀ w ∈ u_ws RX6 TX6 9, w ∈ wsX6_taken := by decide +kernel
  have fl10 := hts (.fieldLink RX6 10 "KinCutlery" "now" "LKinCutlery$Table;") (by decide +kernel)
  have fl44 := hts (.fieldLink RX6 44 "KinCutlery" "shelves" "[LKinCutlery$Shelf;") (by decide +kernel)
  have fl105 := hts (.fieldLink RX6 105 "KinCutlery$Table" "kind" "[I") (by decide +kernel)
  have fl265 := hts (.fieldLink RX6 265 "KinCutlery$Shelf" "number" "I") (by decide +kernel)
  have fl271 := hts (.fieldLink RX6 271 "KinCutlery$Shelf" "sort" "I") (by decide +kernel)
  have fl272 := hts (.fieldLink RX6 272 "KinCutlery$Shelf" "length" "I") (by decide +kernel)
  have hB31 : fX6_taken_b31 n uK (N_laws, N_kind, N_holds, N_gone, N_tells, N_drowned, N_count, N_course, N_told, N_z) (F_what, F_number, F_sort, F_length) x1 x2   = some z → ∀ (ls : Array Slot), lv_has ls 4 [(0, .ref ak), (1, .int x1), (2, .int x2)] → W p l e (headSpec wsX6_taken ({ frames := 3, cells := 0, slots := 0, locals := 64 })).room s m ([.ref ak, .int x1, .int x2] : List Value).toArray below meth c s.heap [] 0 0 (MQ below (Qr (some (.int z))) ([.ref ak, .int x1, .int x2] : List Value).toArray s 0 0 (fun _ => False)) (F0 m 31 ls []) := by
    intro  hf ls hl
    have hf : (if x1 < 0 ∨ 4 ≤ x1.toNatClampNeg then none else (fX6_heldNow n uK (N_laws, N_kind, N_holds, N_gone, N_tells, N_drowned, N_count, N_course, N_told, N_z) (F_what, F_number, F_sort, F_length) x1.toNatClampNeg).bind fun r40 => if r40 = (0 : Int32) then (if (F_number x1.toNatClampNeg) < 0 ∨ 8 ≤ (F_number x1.toNatClampNeg).toNatClampNeg then none else (fX6_isUnder n (N_kind (F_number x1.toNatClampNeg).toNatClampNeg) x2).bind fun r81 => if r81 = 0 then (some (-13 : Int32)) else (some (F_number x1.toNatClampNeg))) else if r40 = (1 : Int32) then (if (x2 - (10 : Int32)) = (F_sort x1.toNatClampNeg) then (some (F_length x1.toNatClampNeg)) else (some (-13 : Int32))) else  (some (-11 : Int32))) = some z := hf
    refine lv_aload_n hx hb dX6_taken_31 rfl (lv_at hl 0 rfl) ?_
    refine va_get (D := D) (ci := 6) (v := .ref af0) (C := RX6) (T := TX6) (N := 9) hx hb hts hin6 hown hK hP 0 rfl rfl 7 (by decide) fl44 (fun _ h9 => h9) rfl dX6_taken_32 ?_
    refine lv_iload_n hx hb dX6_taken_35 rfl (lv_at hl 1 rfl) ?_
    obtain ⟨hi_x1, hf⟩ := zg hf
    rcases zc4 hi_x1 with hj_x1 | hj_x1 | hj_x1 | hj_x1
    · rw [hj_x1] at hf
      refine va_aldq hx hb hK hP 7 4 rfl rfl hi_x1 dX6_taken_36 ?_
      rw [hj_x1]
      refine W.eq (g2 := F0 m 37 ls [.ref (aF 0)]) rfl ?_
      refine lv_astore_n (lv' := [(3, .ref (aF 0)), (0, .ref ak), (1, .int x1), (2, .int x2)]) hx hb dX6_taken_37 rfl hl (by decide) rfl (fun ls hl => ?_)
      refine lv_aload_n hx hb dX6_taken_38 rfl (lv_at hl 1 rfl) ?_
      refine lv_aload_n hx hb dX6_taken_39 rfl (lv_at hl 0 rfl) ?_
      obtain ⟨r40, hc40, hf⟩ := zb hf
      refine zvr (o := some (.int r40)) (As := [.ref (aF 0)]) (rest := []) (stk := [.int r40]) ⟨hx, hb, hml, hown, hts⟩ (mX6_heldNow l D cy st sk sv B ak an0 ay0 ae0 aa0 aw0 as0 af0 ag0 an1 an2 an3 an4 an5 aF n uK N_laws N_kind N_holds N_gone N_tells N_drowned N_count N_course N_told N_z F_what F_number F_sort F_length 0 (by decide) r40 hc40) (cwV 1 hts gX6_taken_X6_heldNow rfl rfl rfl (by decide +kernel) ⟨Nat.le_of_ble_eq_true rfl, Nat.le_of_ble_eq_true rfl⟩) hG hS hAB hP [0, 1, 2, 3, 4, 5, 6, 7, 8, 9, 10, 11] rfl 0 6 rfl rfl rfl rfl hl.1 rfl (Nat.le_of_ble_eq_true rfl) dX6_taken_40 rfl ?_
      by_cases c_43_0 : r40 = (0 : Int32)
      · have hf := zp hf c_43_0
        refine lv_lookup (off := 25) (tgt := 68) hx hb dX6_taken_43 (by decide) (by rw [c_43_0]; try rfl) (by decide) ?_
        refine lv_aload_n hx hb dX6_taken_68 rfl (lv_at hl 1 rfl) ?_
        refine va_get (D := D) (ci := 6) (v := .ref an0) (C := RX6) (T := TX6) (N := 9) hx hb hts hin6 hown hK hP 0 rfl rfl 0 (by decide) fl10 (fun _ h9 => h9) rfl dX6_taken_69 ?_
        refine va_get (D := D) (ci := 4) (v := .ref an2) (C := RX4) (T := TX4) (N := 10) hx hb hts hin4 hown hK hP 1 rfl rfl 1 (by decide) fl105 (fun _ h9 => h9) rfl dX6_taken_72 ?_
        refine lv_aload_n hx hb dX6_taken_75 rfl (lv_at hl 0 rfl) ?_
        refine va_get (D := D) (ci := 2) (v := .int (F_number 0)) (C := RX2) (T := TX2) (N := 4) hx hb hts hin2 hown hK hP 8 rfl rfl 1 (by decide) fl265 (fun _ h9 => h9) rfl dX6_taken_76 ?_
        obtain ⟨h_79, hf⟩ := zg hf
        refine va_iald hx hb hK hP 3 0 rfl rfl h_79 dX6_taken_79 ?_
        refine lv_iload_n hx hb dX6_taken_80 rfl (lv_at hl 3 rfl) ?_
        obtain ⟨r81, hc81, hf⟩ := zb hf
        refine zsr (o := some (.int r81)) (As := [.int (N_kind (F_number 0).toNatClampNeg), .int x2]) (rest := []) (stk := [.int r81]) ⟨hx, hb, hml, hown, hts⟩ (mX6_isUnder l D cy st sk sv B  n (N_kind (F_number 0).toNatClampNeg) x2 r81 hc81) (va_cwS 2 hts gX6_taken_X6_isUnder rfl rfl rfl (by decide +kernel) ⟨Nat.le_of_ble_eq_true rfl, Nat.le_of_ble_eq_true rfl⟩) hG hS hAB hP [] rfl rfl hl.1 rfl (Nat.le_of_ble_eq_true rfl) dX6_taken_81 rfl ?_
        refine lv_if_eq (tgt := 94) hx hb dX6_taken_84 (by decide) (fun c_84 => ?_) (fun c_84 => ?_)
        · have hf := zp hf c_84
          refine lv_bipush (v := (-13 : Int32)) hx hb dX6_taken_94 (by decide) ?_
          cases hf
          exact W.iret hx hb hr (fun t ht hW => ⟨rfl, ht⟩) (fun q h => absurd h List.not_mem_nil) dX6_taken_96
        · have hf := zn hf c_84
          refine lv_aload_n hx hb dX6_taken_87 rfl (lv_at hl 0 rfl) ?_
          refine va_get (D := D) (ci := 2) (v := .int (F_number 0)) (C := RX2) (T := TX2) (N := 4) hx hb hts hin2 hown hK hP 8 rfl rfl 1 (by decide) fl265 (fun _ h9 => h9) rfl dX6_taken_88 ?_
          refine lv_goto (tgt := 96) hx hb dX6_taken_91 (by decide) ?_
          cases hf
          exact W.iret hx hb hr (fun t ht hW => ⟨rfl, ht⟩) (fun q h => absurd h List.not_mem_nil) dX6_taken_96
      have hf := zn hf c_43_0
      by_cases c_43_1 : r40 = (1 : Int32)
      · have hf := zp hf c_43_1
        refine lv_lookup (off := 54) (tgt := 97) hx hb dX6_taken_43 (by decide) (by rw [c_43_1]; try rfl) (by decide) ?_
        refine lv_iload_n hx hb dX6_taken_97 rfl (lv_at hl 3 rfl) ?_
        refine lv_bipush (v := (10 : Int32)) hx hb dX6_taken_98 (by decide) ?_
        refine lv_isub hx hb dX6_taken_100 ?_
        refine lv_aload_n hx hb dX6_taken_101 rfl (lv_at hl 0 rfl) ?_
        refine va_get (D := D) (ci := 2) (v := .int (F_sort 0)) (C := RX2) (T := TX2) (N := 4) hx hb hts hin2 hown hK hP 8 rfl rfl 2 (by decide) fl271 (fun _ h9 => h9) rfl dX6_taken_102 ?_
        refine lv_icmp_ne (tgt := 115) hx hb dX6_taken_105 (by decide) (fun c_105 => ?_) (fun c_105 => ?_)
        · have hf := zn hf c_105
          refine lv_bipush (v := (-13 : Int32)) hx hb dX6_taken_115 (by decide) ?_
          cases hf
          exact W.iret hx hb hr (fun t ht hW => ⟨rfl, ht⟩) (fun q h => absurd h List.not_mem_nil) dX6_taken_117
        · have hf := zp hf c_105
          refine lv_aload_n hx hb dX6_taken_108 rfl (lv_at hl 0 rfl) ?_
          refine va_get (D := D) (ci := 2) (v := .int (F_length 0)) (C := RX2) (T := TX2) (N := 4) hx hb hts hin2 hown hK hP 8 rfl rfl 3 (by decide) fl272 (fun _ h9 => h9) rfl dX6_taken_109 ?_
          refine lv_goto (tgt := 117) hx hb dX6_taken_112 (by decide) ?_
          cases hf
          exact W.iret hx hb hr (fun t ht hW => ⟨rfl, ht⟩) (fun q h => absurd h List.not_mem_nil) dX6_taken_117
      have hf := zn hf c_43_1
      have e_43_0 : ¬ r40.toInt = 0 := fun h => c_43_0 (Int32.toInt_inj.mp (h.trans (by decide)))
      have e_43_1 : ¬ r40.toInt = 1 := fun h => c_43_1 (Int32.toInt_inj.mp (h.trans (by decide)))
      have g_43_0 : ¬ (0 : Int) = r40.toInt := fun h => e_43_0 h.symm
      have g_43_1 : ¬ (1 : Int) = r40.toInt := fun h => e_43_1 h.symm
      refine lv_lookup (off := 75) (tgt := 118) hx hb dX6_taken_43 (by decide) (by simp [Op.lookupswitch.offset, g_43_0, g_43_1]) (by decide) ?_
      refine lv_bipush (v := (-11 : Int32)) hx hb dX6_taken_118 (by decide) ?_
      cases hf
      exact W.iret hx hb hr (fun t ht hW => ⟨rfl, ht⟩) (fun q h => absurd h List.not_mem_nil) dX6_taken_120
    · rw [hj_x1] at hf
      refine va_aldq hx hb hK hP 7 4 rfl rfl hi_x1 dX6_taken_36 ?_
      rw [hj_x1]
      refine W.eq (g2 := F0 m 37 ls [.ref (aF 1)]) rfl ?_
      refine lv_astore_n (lv' := [(3, .ref (aF 1)), (0, .ref ak), (1, .int x1), (2, .int x2)]) hx hb dX6_taken_37 rfl hl (by decide) rfl (fun ls hl => ?_)
      refine lv_aload_n hx hb dX6_taken_38 rfl (lv_at hl 1 rfl) ?_
      refine lv_aload_n hx hb dX6_taken_39 rfl (lv_at hl 0 rfl) ?_
      obtain ⟨r40, hc40, hf⟩ := zb hf
      refine zvr (o := some (.int r40)) (As := [.ref (aF 1)]) (rest := []) (stk := [.int r40]) ⟨hx, hb, hml, hown, hts⟩ (mX6_heldNow l D cy st sk sv B ak an0 ay0 ae0 aa0 aw0 as0 af0 ag0 an1 an2 an3 an4 an5 aF n uK N_laws N_kind N_holds N_gone N_tells N_drowned N_count N_course N_told N_z F_what F_number F_sort F_length 1 (by decide) r40 hc40) (cwV 1 hts gX6_taken_X6_heldNow rfl rfl rfl (by decide +kernel) ⟨Nat.le_of_ble_eq_true rfl, Nat.le_of_ble_eq_true rfl⟩) hG hS hAB hP [0, 1, 2, 3, 4, 5, 6, 7, 8, 9, 10, 11] rfl 0 6 rfl rfl rfl rfl hl.1 rfl (Nat.le_of_ble_eq_true rfl) dX6_taken_40 rfl ?_
      by_cases c_43_0 : r40 = (0 : Int32)
      · have hf := zp hf c_43_0
        refine lv_lookup (off := 25) (tgt := 68) hx hb dX6_taken_43 (by decide) (by rw [c_43_0]; try rfl) (by decide) ?_
        refine lv_aload_n hx hb dX6_taken_68 rfl (lv_at hl 1 rfl) ?_
        refine va_get (D := D) (ci := 6) (v := .ref an0) (C := RX6) (T := TX6) (N := 9) hx hb hts hin6 hown hK hP 0 rfl rfl 0 (by decide) fl10 (fun _ h9 => h9) rfl dX6_taken_69 ?_
        refine va_get (D := D) (ci := 4) (v := .ref an2) (C := RX4) (T := TX4) (N := 10) hx hb hts hin4 hown hK hP 1 rfl rfl 1 (by decide) fl105 (fun _ h9 => h9) rfl dX6_taken_72 ?_
        refine lv_aload_n hx hb dX6_taken_75 rfl (lv_at hl 0 rfl) ?_
        refine va_get (D := D) (ci := 2) (v := .int (F_number 1)) (C := RX2) (T := TX2) (N := 4) hx hb hts hin2 hown hK hP 9 rfl rfl 1 (by decide) fl265 (fun _ h9 => h9) rfl dX6_taken_76 ?_
        obtain ⟨h_79, hf⟩ := zg hf
        refine va_iald hx hb hK hP 3 0 rfl rfl h_79 dX6_taken_79 ?_
        refine lv_iload_n hx hb dX6_taken_80 rfl (lv_at hl 3 rfl) ?_
        obtain ⟨r81, hc81, hf⟩ := zb hf
        refine zsr (o := some (.int r81)) (As := [.int (N_kind (F_number 1).toNatClampNeg), .int x2]) (rest := []) (stk := [.int r81]) ⟨hx, hb, hml, hown, hts⟩ (mX6_isUnder l D cy st sk sv B  n (N_kind (F_number 1).toNatClampNeg) x2 r81 hc81) (va_cwS 2 hts gX6_taken_X6_isUnder rfl rfl rfl (by decide +kernel) ⟨Nat.le_of_ble_eq_true rfl, Nat.le_of_ble_eq_true rfl⟩) hG hS hAB hP [] rfl rfl hl.1 rfl (Nat.le_of_ble_eq_true rfl) dX6_taken_81 rfl ?_
        refine lv_if_eq (tgt := 94) hx hb dX6_taken_84 (by decide) (fun c_84 => ?_) (fun c_84 => ?_)
        · have hf := zp hf c_84
          refine lv_bipush (v := (-13 : Int32)) hx hb dX6_taken_94 (by decide) ?_
          cases hf
          exact W.iret hx hb hr (fun t ht hW => ⟨rfl, ht⟩) (fun q h => absurd h List.not_mem_nil) dX6_taken_96
        · have hf := zn hf c_84
          refine lv_aload_n hx hb dX6_taken_87 rfl (lv_at hl 0 rfl) ?_
          refine va_get (D := D) (ci := 2) (v := .int (F_number 1)) (C := RX2) (T := TX2) (N := 4) hx hb hts hin2 hown hK hP 9 rfl rfl 1 (by decide) fl265 (fun _ h9 => h9) rfl dX6_taken_88 ?_
          refine lv_goto (tgt := 96) hx hb dX6_taken_91 (by decide) ?_
          cases hf
          exact W.iret hx hb hr (fun t ht hW => ⟨rfl, ht⟩) (fun q h => absurd h List.not_mem_nil) dX6_taken_96
      have hf := zn hf c_43_0
      by_cases c_43_1 : r40 = (1 : Int32)
      · have hf := zp hf c_43_1
        refine lv_lookup (off := 54) (tgt := 97) hx hb dX6_taken_43 (by decide) (by rw [c_43_1]; try rfl) (by decide) ?_
        refine lv_iload_n hx hb dX6_taken_97 rfl (lv_at hl 3 rfl) ?_
        refine lv_bipush (v := (10 : Int32)) hx hb dX6_taken_98 (by decide) ?_
        refine lv_isub hx hb dX6_taken_100 ?_
        refine lv_aload_n hx hb dX6_taken_101 rfl (lv_at hl 0 rfl) ?_
        refine va_get (D := D) (ci := 2) (v := .int (F_sort 1)) (C := RX2) (T := TX2) (N := 4) hx hb hts hin2 hown hK hP 9 rfl rfl 2 (by decide) fl271 (fun _ h9 => h9) rfl dX6_taken_102 ?_
        refine lv_icmp_ne (tgt := 115) hx hb dX6_taken_105 (by decide) (fun c_105 => ?_) (fun c_105 => ?_)
        · have hf := zn hf c_105
          refine lv_bipush (v := (-13 : Int32)) hx hb dX6_taken_115 (by decide) ?_
          cases hf
          exact W.iret hx hb hr (fun t ht hW => ⟨rfl, ht⟩) (fun q h => absurd h List.not_mem_nil) dX6_taken_117
        · have hf := zp hf c_105
          refine lv_aload_n hx hb dX6_taken_108 rfl (lv_at hl 0 rfl) ?_
          refine va_get (D := D) (ci := 2) (v := .int (F_length 1)) (C := RX2) (T := TX2) (N := 4) hx hb hts hin2 hown hK hP 9 rfl rfl 3 (by decide) fl272 (fun _ h9 => h9) rfl dX6_taken_109 ?_
          refine lv_goto (tgt := 117) hx hb dX6_taken_112 (by decide) ?_
          cases hf
          exact W.iret hx hb hr (fun t ht hW => ⟨rfl, ht⟩) (fun q h => absurd h List.not_mem_nil) dX6_taken_117
      have hf := zn hf c_43_1
      have e_43_0 : ¬ r40.toInt = 0 := fun h => c_43_0 (Int32.toInt_inj.mp (h.trans (by decide)))
      have e_43_1 : ¬ r40.toInt = 1 := fun h => c_43_1 (Int32.toInt_inj.mp (h.trans (by decide)))
      have g_43_0 : ¬ (0 : Int) = r40.toInt := fun h => e_43_0 h.symm
      have g_43_1 : ¬ (1 : Int) = r40.toInt := fun h => e_43_1 h.symm
      refine lv_lookup (off := 75) (tgt := 118) hx hb dX6_taken_43 (by decide) (by simp [Op.lookupswitch.offset, g_43_0, g_43_1]) (by decide) ?_
      refine lv_bipush (v := (-11 : Int32)) hx hb dX6_taken_118 (by decide) ?_
      cases hf
      exact W.iret hx hb hr (fun t ht hW => ⟨rfl, ht⟩) (fun q h => absurd h List.not_mem_nil) dX6_taken_120
    · rw [hj_x1] at hf
      refine va_aldq hx hb hK hP 7 4 rfl rfl hi_x1 dX6_taken_36 ?_
      rw [hj_x1]
      refine W.eq (g2 := F0 m 37 ls [.ref (aF 2)]) rfl ?_
      refine lv_astore_n (lv' := [(3, .ref (aF 2)), (0, .ref ak), (1, .int x1), (2, .int x2)]) hx hb dX6_taken_37 rfl hl (by decide) rfl (fun ls hl => ?_)
      refine lv_aload_n hx hb dX6_taken_38 rfl (lv_at hl 1 rfl) ?_
      refine lv_aload_n hx hb dX6_taken_39 rfl (lv_at hl 0 rfl) ?_
      obtain ⟨r40, hc40, hf⟩ := zb hf
      refine zvr (o := some (.int r40)) (As := [.ref (aF 2)]) (rest := []) (stk := [.int r40]) ⟨hx, hb, hml, hown, hts⟩ (mX6_heldNow l D cy st sk sv B ak an0 ay0 ae0 aa0 aw0 as0 af0 ag0 an1 an2 an3 an4 an5 aF n uK N_laws N_kind N_holds N_gone N_tells N_drowned N_count N_course N_told N_z F_what F_number F_sort F_length 2 (by decide) r40 hc40) (cwV 1 hts gX6_taken_X6_heldNow rfl rfl rfl (by decide +kernel) ⟨Nat.le_of_ble_eq_true rfl, Nat.le_of_ble_eq_true rfl⟩) hG hS hAB hP [0, 1, 2, 3, 4, 5, 6, 7, 8, 9, 10, 11] rfl 0 6 rfl rfl rfl rfl hl.1 rfl (Nat.le_of_ble_eq_true rfl) dX6_taken_40 rfl ?_
      by_cases c_43_0 : r40 = (0 : Int32)
      · have hf := zp hf c_43_0
        refine lv_lookup (off := 25) (tgt := 68) hx hb dX6_taken_43 (by decide) (by rw [c_43_0]; try rfl) (by decide) ?_
        refine lv_aload_n hx hb dX6_taken_68 rfl (lv_at hl 1 rfl) ?_
        refine va_get (D := D) (ci := 6) (v := .ref an0) (C := RX6) (T := TX6) (N := 9) hx hb hts hin6 hown hK hP 0 rfl rfl 0 (by decide) fl10 (fun _ h9 => h9) rfl dX6_taken_69 ?_
        refine va_get (D := D) (ci := 4) (v := .ref an2) (C := RX4) (T := TX4) (N := 10) hx hb hts hin4 hown hK hP 1 rfl rfl 1 (by decide) fl105 (fun _ h9 => h9) rfl dX6_taken_72 ?_
        refine lv_aload_n hx hb dX6_taken_75 rfl (lv_at hl 0 rfl) ?_
        refine va_get (D := D) (ci := 2) (v := .int (F_number 2)) (C := RX2) (T := TX2) (N := 4) hx hb hts hin2 hown hK hP 10 rfl rfl 1 (by decide) fl265 (fun _ h9 => h9) rfl dX6_taken_76 ?_
        obtain ⟨h_79, hf⟩ := zg hf
        refine va_iald hx hb hK hP 3 0 rfl rfl h_79 dX6_taken_79 ?_
        refine lv_iload_n hx hb dX6_taken_80 rfl (lv_at hl 3 rfl) ?_
        obtain ⟨r81, hc81, hf⟩ := zb hf
        refine zsr (o := some (.int r81)) (As := [.int (N_kind (F_number 2).toNatClampNeg), .int x2]) (rest := []) (stk := [.int r81]) ⟨hx, hb, hml, hown, hts⟩ (mX6_isUnder l D cy st sk sv B  n (N_kind (F_number 2).toNatClampNeg) x2 r81 hc81) (va_cwS 2 hts gX6_taken_X6_isUnder rfl rfl rfl (by decide +kernel) ⟨Nat.le_of_ble_eq_true rfl, Nat.le_of_ble_eq_true rfl⟩) hG hS hAB hP [] rfl rfl hl.1 rfl (Nat.le_of_ble_eq_true rfl) dX6_taken_81 rfl ?_
        refine lv_if_eq (tgt := 94) hx hb dX6_taken_84 (by decide) (fun c_84 => ?_) (fun c_84 => ?_)
        · have hf := zp hf c_84
          refine lv_bipush (v := (-13 : Int32)) hx hb dX6_taken_94 (by decide) ?_
          cases hf
          exact W.iret hx hb hr (fun t ht hW => ⟨rfl, ht⟩) (fun q h => absurd h List.not_mem_nil) dX6_taken_96
        · have hf := zn hf c_84
          refine lv_aload_n hx hb dX6_taken_87 rfl (lv_at hl 0 rfl) ?_
          refine va_get (D := D) (ci := 2) (v := .int (F_number 2)) (C := RX2) (T := TX2) (N := 4) hx hb hts hin2 hown hK hP 10 rfl rfl 1 (by decide) fl265 (fun _ h9 => h9) rfl dX6_taken_88 ?_
          refine lv_goto (tgt := 96) hx hb dX6_taken_91 (by decide) ?_
          cases hf
          exact W.iret hx hb hr (fun t ht hW => ⟨rfl, ht⟩) (fun q h => absurd h List.not_mem_nil) dX6_taken_96
      have hf := zn hf c_43_0
      by_cases c_43_1 : r40 = (1 : Int32)
      · have hf := zp hf c_43_1
        refine lv_lookup (off := 54) (tgt := 97) hx hb dX6_taken_43 (by decide) (by rw [c_43_1]; try rfl) (by decide) ?_
        refine lv_iload_n hx hb dX6_taken_97 rfl (lv_at hl 3 rfl) ?_
        refine lv_bipush (v := (10 : Int32)) hx hb dX6_taken_98 (by decide) ?_
        refine lv_isub hx hb dX6_taken_100 ?_
        refine lv_aload_n hx hb dX6_taken_101 rfl (lv_at hl 0 rfl) ?_
        refine va_get (D := D) (ci := 2) (v := .int (F_sort 2)) (C := RX2) (T := TX2) (N := 4) hx hb hts hin2 hown hK hP 10 rfl rfl 2 (by decide) fl271 (fun _ h9 => h9) rfl dX6_taken_102 ?_
        refine lv_icmp_ne (tgt := 115) hx hb dX6_taken_105 (by decide) (fun c_105 => ?_) (fun c_105 => ?_)
        · have hf := zn hf c_105
          refine lv_bipush (v := (-13 : Int32)) hx hb dX6_taken_115 (by decide) ?_
          cases hf
          exact W.iret hx hb hr (fun t ht hW => ⟨rfl, ht⟩) (fun q h => absurd h List.not_mem_nil) dX6_taken_117
        · have hf := zp hf c_105
          refine lv_aload_n hx hb dX6_taken_108 rfl (lv_at hl 0 rfl) ?_
          refine va_get (D := D) (ci := 2) (v := .int (F_length 2)) (C := RX2) (T := TX2) (N := 4) hx hb hts hin2 hown hK hP 10 rfl rfl 3 (by decide) fl272 (fun _ h9 => h9) rfl dX6_taken_109 ?_
          refine lv_goto (tgt := 117) hx hb dX6_taken_112 (by decide) ?_
          cases hf
          exact W.iret hx hb hr (fun t ht hW => ⟨rfl, ht⟩) (fun q h => absurd h List.not_mem_nil) dX6_taken_117
      have hf := zn hf c_43_1
      have e_43_0 : ¬ r40.toInt = 0 := fun h => c_43_0 (Int32.toInt_inj.mp (h.trans (by decide)))
      have e_43_1 : ¬ r40.toInt = 1 := fun h => c_43_1 (Int32.toInt_inj.mp (h.trans (by decide)))
      have g_43_0 : ¬ (0 : Int) = r40.toInt := fun h => e_43_0 h.symm
      have g_43_1 : ¬ (1 : Int) = r40.toInt := fun h => e_43_1 h.symm
      refine lv_lookup (off := 75) (tgt := 118) hx hb dX6_taken_43 (by decide) (by simp [Op.lookupswitch.offset, g_43_0, g_43_1]) (by decide) ?_
      refine lv_bipush (v := (-11 : Int32)) hx hb dX6_taken_118 (by decide) ?_
      cases hf
      exact W.iret hx hb hr (fun t ht hW => ⟨rfl, ht⟩) (fun q h => absurd h List.not_mem_nil) dX6_taken_120
    · rw [hj_x1] at hf
      refine va_aldq hx hb hK hP 7 4 rfl rfl hi_x1 dX6_taken_36 ?_
      rw [hj_x1]
      refine W.eq (g2 := F0 m 37 ls [.ref (aF 3)]) rfl ?_
      refine lv_astore_n (lv' := [(3, .ref (aF 3)), (0, .ref ak), (1, .int x1), (2, .int x2)]) hx hb dX6_taken_37 rfl hl (by decide) rfl (fun ls hl => ?_)
      refine lv_aload_n hx hb dX6_taken_38 rfl (lv_at hl 1 rfl) ?_
      refine lv_aload_n hx hb dX6_taken_39 rfl (lv_at hl 0 rfl) ?_
      obtain ⟨r40, hc40, hf⟩ := zb hf
      refine zvr (o := some (.int r40)) (As := [.ref (aF 3)]) (rest := []) (stk := [.int r40]) ⟨hx, hb, hml, hown, hts⟩ (mX6_heldNow l D cy st sk sv B ak an0 ay0 ae0 aa0 aw0 as0 af0 ag0 an1 an2 an3 an4 an5 aF n uK N_laws N_kind N_holds N_gone N_tells N_drowned N_count N_course N_told N_z F_what F_number F_sort F_length 3 (by decide) r40 hc40) (cwV 1 hts gX6_taken_X6_heldNow rfl rfl rfl (by decide +kernel) ⟨Nat.le_of_ble_eq_true rfl, Nat.le_of_ble_eq_true rfl⟩) hG hS hAB hP [0, 1, 2, 3, 4, 5, 6, 7, 8, 9, 10, 11] rfl 0 6 rfl rfl rfl rfl hl.1 rfl (Nat.le_of_ble_eq_true rfl) dX6_taken_40 rfl ?_
      by_cases c_43_0 : r40 = (0 : Int32)
      · have hf := zp hf c_43_0
        refine lv_lookup (off := 25) (tgt := 68) hx hb dX6_taken_43 (by decide) (by rw [c_43_0]; try rfl) (by decide) ?_
        refine lv_aload_n hx hb dX6_taken_68 rfl (lv_at hl 1 rfl) ?_
        refine va_get (D := D) (ci := 6) (v := .ref an0) (C := RX6) (T := TX6) (N := 9) hx hb hts hin6 hown hK hP 0 rfl rfl 0 (by decide) fl10 (fun _ h9 => h9) rfl dX6_taken_69 ?_
        refine va_get (D := D) (ci := 4) (v := .ref an2) (C := RX4) (T := TX4) (N := 10) hx hb hts hin4 hown hK hP 1 rfl rfl 1 (by decide) fl105 (fun _ h9 => h9) rfl dX6_taken_72 ?_
        refine lv_aload_n hx hb dX6_taken_75 rfl (lv_at hl 0 rfl) ?_
        refine va_get (D := D) (ci := 2) (v := .int (F_number 3)) (C := RX2) (T := TX2) (N := 4) hx hb hts hin2 hown hK hP 11 rfl rfl 1 (by decide) fl265 (fun _ h9 => h9) rfl dX6_taken_76 ?_
        obtain ⟨h_79, hf⟩ := zg hf
        refine va_iald hx hb hK hP 3 0 rfl rfl h_79 dX6_taken_79 ?_
        refine lv_iload_n hx hb dX6_taken_80 rfl (lv_at hl 3 rfl) ?_
        obtain ⟨r81, hc81, hf⟩ := zb hf
        refine zsr (o := some (.int r81)) (As := [.int (N_kind (F_number 3).toNatClampNeg), .int x2]) (rest := []) (stk := [.int r81]) ⟨hx, hb, hml, hown, hts⟩ (mX6_isUnder l D cy st sk sv B  n (N_kind (F_number 3).toNatClampNeg) x2 r81 hc81) (va_cwS 2 hts gX6_taken_X6_isUnder rfl rfl rfl (by decide +kernel) ⟨Nat.le_of_ble_eq_true rfl, Nat.le_of_ble_eq_true rfl⟩) hG hS hAB hP [] rfl rfl hl.1 rfl (Nat.le_of_ble_eq_true rfl) dX6_taken_81 rfl ?_
        refine lv_if_eq (tgt := 94) hx hb dX6_taken_84 (by decide) (fun c_84 => ?_) (fun c_84 => ?_)
        · have hf := zp hf c_84
          refine lv_bipush (v := (-13 : Int32)) hx hb dX6_taken_94 (by decide) ?_
          cases hf
          exact W.iret hx hb hr (fun t ht hW => ⟨rfl, ht⟩) (fun q h => absurd h List.not_mem_nil) dX6_taken_96
        · have hf := zn hf c_84
          refine lv_aload_n hx hb dX6_taken_87 rfl (lv_at hl 0 rfl) ?_
          refine va_get (D := D) (ci := 2) (v := .int (F_number 3)) (C := RX2) (T := TX2) (N := 4) hx hb hts hin2 hown hK hP 11 rfl rfl 1 (by decide) fl265 (fun _ h9 => h9) rfl dX6_taken_88 ?_
          refine lv_goto (tgt := 96) hx hb dX6_taken_91 (by decide) ?_
          cases hf
          exact W.iret hx hb hr (fun t ht hW => ⟨rfl, ht⟩) (fun q h => absurd h List.not_mem_nil) dX6_taken_96
      have hf := zn hf c_43_0
      by_cases c_43_1 : r40 = (1 : Int32)
      · have hf := zp hf c_43_1
        refine lv_lookup (off := 54) (tgt := 97) hx hb dX6_taken_43 (by decide) (by rw [c_43_1]; try rfl) (by decide) ?_
        refine lv_iload_n hx hb dX6_taken_97 rfl (lv_at hl 3 rfl) ?_
        refine lv_bipush (v := (10 : Int32)) hx hb dX6_taken_98 (by decide) ?_
        refine lv_isub hx hb dX6_taken_100 ?_
        refine lv_aload_n hx hb dX6_taken_101 rfl (lv_at hl 0 rfl) ?_
        refine va_get (D := D) (ci := 2) (v := .int (F_sort 3)) (C := RX2) (T := TX2) (N := 4) hx hb hts hin2 hown hK hP 11 rfl rfl 2 (by decide) fl271 (fun _ h9 => h9) rfl dX6_taken_102 ?_
        refine lv_icmp_ne (tgt := 115) hx hb dX6_taken_105 (by decide) (fun c_105 => ?_) (fun c_105 => ?_)
        · have hf := zn hf c_105
          refine lv_bipush (v := (-13 : Int32)) hx hb dX6_taken_115 (by decide) ?_
          cases hf
          exact W.iret hx hb hr (fun t ht hW => ⟨rfl, ht⟩) (fun q h => absurd h List.not_mem_nil) dX6_taken_117
        · have hf := zp hf c_105
          refine lv_aload_n hx hb dX6_taken_108 rfl (lv_at hl 0 rfl) ?_
          refine va_get (D := D) (ci := 2) (v := .int (F_length 3)) (C := RX2) (T := TX2) (N := 4) hx hb hts hin2 hown hK hP 11 rfl rfl 3 (by decide) fl272 (fun _ h9 => h9) rfl dX6_taken_109 ?_
          refine lv_goto (tgt := 117) hx hb dX6_taken_112 (by decide) ?_
          cases hf
          exact W.iret hx hb hr (fun t ht hW => ⟨rfl, ht⟩) (fun q h => absurd h List.not_mem_nil) dX6_taken_117
      have hf := zn hf c_43_1
      have e_43_0 : ¬ r40.toInt = 0 := fun h => c_43_0 (Int32.toInt_inj.mp (h.trans (by decide)))
      have e_43_1 : ¬ r40.toInt = 1 := fun h => c_43_1 (Int32.toInt_inj.mp (h.trans (by decide)))
      have g_43_0 : ¬ (0 : Int) = r40.toInt := fun h => e_43_0 h.symm
      have g_43_1 : ¬ (1 : Int) = r40.toInt := fun h => e_43_1 h.symm
      refine lv_lookup (off := 75) (tgt := 118) hx hb dX6_taken_43 (by decide) (by simp [Op.lookupswitch.offset, g_43_0, g_43_1]) (by decide) ?_
      refine lv_bipush (v := (-11 : Int32)) hx hb dX6_taken_118 (by decide) ?_
      cases hf
      exact W.iret hx hb hr (fun t ht hW => ⟨rfl, ht⟩) (fun q h => absurd h List.not_mem_nil) dX6_taken_120
  have hl := lv_entry ([.ref ak, .int x1, .int x2]) (n := 4) (Nat.le_of_ble_eq_true rfl)
  rw [lg_entry_eq]
  generalize (lg_sl ([.ref ak, .int x1, .int x2]) ++ List.replicate (4 - (lg_sl ([.ref ak, .int x1, .int x2])).length) Slot.unset).toArray = ls at hl ⊢
  have hl : lv_has ls 4 [(0, .ref ak), (1, .int x1), (2, .int x2)] := hl
  have hf : ((fX6_within n x1 (0 : Int32) (3 : Int32)).bind fun r3 => if r3 = 0 then (some (-1 : Int32)) else ((fX6_within n x2 (0 : Int32) (5 : Int32)).bind fun r12 => if r12 = 0 then ((fX6_within n x2 (10 : Int32) (13 : Int32)).bind fun r23 => if r23 = 0 then (some (-1 : Int32)) else (fX6_taken_b31 n uK (N_laws, N_kind, N_holds, N_gone, N_tells, N_drowned, N_count, N_course, N_told, N_z) (F_what, F_number, F_sort, F_length) x1 x2  )) else (fX6_taken_b31 n uK (N_laws, N_kind, N_holds, N_gone, N_tells, N_drowned, N_count, N_course, N_told, N_z) (F_what, F_number, F_sort, F_length) x1 x2  ))) = some z := hf
  refine lv_iload_n hx hb dX6_taken_0 rfl (lv_at hl 1 rfl) ?_
  refine lv_iconst (v := (0 : Int32)) hx hb dX6_taken_1 (by decide) ?_
  refine lv_iconst (v := (3 : Int32)) hx hb dX6_taken_2 (by decide) ?_
  obtain ⟨r3, hc3, hf⟩ := zb hf
  refine zsr (o := some (.int r3)) (As := [.int x1, .int (0 : Int32), .int (3 : Int32)]) (rest := []) (stk := [.int r3]) ⟨hx, hb, hml, hown, hts⟩ (mX6_within l D cy st sk sv B  n x1 (0 : Int32) (3 : Int32) r3 hc3) (va_cwS 3 hts gX6_taken_X6_within rfl rfl rfl (by decide +kernel) ⟨Nat.le_of_ble_eq_true rfl, Nat.le_of_ble_eq_true rfl⟩) hG hS hAB hP [] rfl rfl hl.1 rfl (Nat.le_of_ble_eq_true rfl) dX6_taken_3 rfl ?_
  refine lv_if_eq (tgt := 29) hx hb dX6_taken_6 (by decide) (fun c_6 => ?_) (fun c_6 => ?_)
  · have hf := zp hf c_6
    refine lv_iconst (v := (-1 : Int32)) hx hb dX6_taken_29 (by decide) ?_
    cases hf
    exact W.iret hx hb hr (fun t ht hW => ⟨rfl, ht⟩) (fun q h => absurd h List.not_mem_nil) dX6_taken_30
  · have hf := zn hf c_6
    refine lv_iload_n hx hb dX6_taken_9 rfl (lv_at hl 2 rfl) ?_
    refine lv_iconst (v := (0 : Int32)) hx hb dX6_taken_10 (by decide) ?_
    refine lv_iconst (v := (5 : Int32)) hx hb dX6_taken_11 (by decide) ?_
    obtain ⟨r12, hc12, hf⟩ := zb hf
    refine zsr (o := some (.int r12)) (As := [.int x2, .int (0 : Int32), .int (5 : Int32)]) (rest := []) (stk := [.int r12]) ⟨hx, hb, hml, hown, hts⟩ (mX6_within l D cy st sk sv B  n x2 (0 : Int32) (5 : Int32) r12 hc12) (va_cwS 3 hts gX6_taken_X6_within rfl rfl rfl (by decide +kernel) ⟨Nat.le_of_ble_eq_true rfl, Nat.le_of_ble_eq_true rfl⟩) hG hS hAB hP [] rfl rfl hl.1 rfl (Nat.le_of_ble_eq_true rfl) dX6_taken_12 rfl ?_
    refine lv_if_ne (tgt := 31) hx hb dX6_taken_15 (by decide) (fun c_15 => ?_) (fun c_15 => ?_)
    · have hf := zn hf c_15
      exact hB31  hf _ (lv_sub hl [0, 1, 2] rfl)
    · have hf := zp hf c_15
      refine lv_iload_n hx hb dX6_taken_18 rfl (lv_at hl 2 rfl) ?_
      refine lv_bipush (v := (10 : Int32)) hx hb dX6_taken_19 (by decide) ?_
      refine lv_bipush (v := (13 : Int32)) hx hb dX6_taken_21 (by decide) ?_
      obtain ⟨r23, hc23, hf⟩ := zb hf
      refine zsr (o := some (.int r23)) (As := [.int x2, .int (10 : Int32), .int (13 : Int32)]) (rest := []) (stk := [.int r23]) ⟨hx, hb, hml, hown, hts⟩ (mX6_within l D cy st sk sv B  n x2 (10 : Int32) (13 : Int32) r23 hc23) (va_cwS 3 hts gX6_taken_X6_within rfl rfl rfl (by decide +kernel) ⟨Nat.le_of_ble_eq_true rfl, Nat.le_of_ble_eq_true rfl⟩) hG hS hAB hP [] rfl rfl hl.1 rfl (Nat.le_of_ble_eq_true rfl) dX6_taken_23 rfl ?_
      refine lv_if_ne (tgt := 31) hx hb dX6_taken_26 (by decide) (fun c_26 => ?_) (fun c_26 => ?_)
      · have hf := zn hf c_26
        exact hB31  hf _ (lv_sub hl [0, 1, 2] rfl)
      · have hf := zp hf c_26
        refine lv_iconst (v := (-1 : Int32)) hx hb dX6_taken_29 (by decide) ?_
        cases hf
        exact W.iret hx hb hr (fun t ht hW => ⟨rfl, ht⟩) (fun q h => absurd h List.not_mem_nil) dX6_taken_30
set_option maxRecDepth 100000 in
set_option maxHeartbeats 100000000 in
theorem mX6_trace (l : Launch) (D : va_G) (cy : Nat → ClassId) (st sk sv : Nat → Nat) (B : Nat) (ak : Nat) (an0 : Nat) (ay0 : Nat) (ae0 : Nat) (aa0 : Nat) (aw0 : Nat) (as0 : Nat) (af0 : Nat) (ag0 : Nat) (ag1 : Nat) (n : Nat) (uK : Int32) (G_bodies : (Nat → Int32)) (G_traced : Int32) (G_kind : Int32) (G_n : Int32) (G_a : Int32) (G_broken : Int32) (x1 : Int32) (z : Int32) (hf : fX6_trace n uK (G_bodies, G_traced, G_kind, G_n, G_a, G_broken) x1 = some z) : Met l yX6_trace wsX6_trace ({ frames := 1, cells := 0, slots := 0, locals := 22 }) (PcR [.ref ak, .int x1] D cy st sk sv B [(ak, .inr (6, [.ref an0, .ref ay0, .ref ae0, .int uK, .ref aa0, .ref aw0, .ref as0, .ref af0, .ref ag0])), (ag0, .inr (3, [.ref ag1, .int G_traced, .int G_kind, .int G_n, .int G_a, .int G_broken])), (ag1, .inl (cy 0, 30, .inl G_bodies))]) (Qr (some (.int z))) 0 0 (fun _ => False) := by
  refine Met.ofW (cc := cX6_trace) (maxL := 2) (ret := (some .int)) (by decide) rfl ?_
  intro p e s m args below meth c s₁ Bd hml hv
  obtain ⟨rfl, hP, hG⟩ := hv
  have hx := Bd.exec
  have hb := Bd.bytes
  have hr := Bd.returns
  have hts := atoms_spec (ws := wsX6_trace) Bd.pre
  have hown : s.vm.findClass RX6 = some m.cls := findClass_of_methodNamed Bd.named
  have hlocks := Bd.notSynchronized
  have hK := hG.1
  have hS : va_S (fun q => B ≤ q) s.heap s.heap [] := va_S.rf
  have hAB : ∀ q, (fun q => B ≤ q) q → B ≤ q := fun _ h => h
  have hin3 : ∀ w ∈ u_ws RX3 TX3 6, w ∈ wsX6_trace := by decide +kernel
  have hin6 : ∀ w ∈ u_ws RX6 TX6 9, w ∈ wsX6_trace := by decide +kernel
  have fl51 := hts (.fieldLink RX6 51 "KinCutlery" "stage" "LKinCutlery$Stage;") (by decide +kernel)
  have fl273 := hts (.fieldLink RX6 273 "KinCutlery$Stage" "traced" "I") (by decide +kernel)
  have fl280 := hts (.fieldLink RX6 280 "KinCutlery$Stage" "bodies" "[I") (by decide +kernel)
  have hl := lv_entry ([.ref ak, .int x1]) (n := 2) (Nat.le_of_ble_eq_true rfl)
  rw [lg_entry_eq]
  generalize (lg_sl ([.ref ak, .int x1]) ++ List.replicate (2 - (lg_sl ([.ref ak, .int x1])).length) Slot.unset).toArray = ls at hl ⊢
  have hl : lv_has ls 2 [(0, .ref ak), (1, .int x1)] := hl
  have hf : ((fX6_within n x1 (0 : Int32) (G_traced - (1 : Int32))).bind fun r11 => if r11 = 0 then (some (-3 : Int32)) else (if x1 < 0 ∨ 30 ≤ x1.toNatClampNeg then none else some (G_bodies x1.toNatClampNeg))) = some z := hf
  refine lv_iload_n hx hb dX6_trace_0 rfl (lv_at hl 1 rfl) ?_
  refine lv_iconst (v := (0 : Int32)) hx hb dX6_trace_1 (by decide) ?_
  refine lv_aload_n hx hb dX6_trace_2 rfl (lv_at hl 0 rfl) ?_
  refine va_get (D := D) (ci := 6) (v := .ref ag0) (C := RX6) (T := TX6) (N := 9) hx hb hts hin6 hown hK hP 0 rfl rfl 8 (by decide) fl51 (fun _ h9 => h9) rfl dX6_trace_3 ?_
  refine va_get (D := D) (ci := 3) (v := .int G_traced) (C := RX3) (T := TX3) (N := 6) hx hb hts hin3 hown hK hP 1 rfl rfl 1 (by decide) fl273 (fun _ h9 => h9) rfl dX6_trace_6 ?_
  refine lv_iconst (v := (1 : Int32)) hx hb dX6_trace_9 (by decide) ?_
  refine lv_isub hx hb dX6_trace_10 ?_
  obtain ⟨r11, hc11, hf⟩ := zb hf
  refine zsr (o := some (.int r11)) (As := [.int x1, .int (0 : Int32), .int (G_traced - (1 : Int32))]) (rest := []) (stk := [.int r11]) ⟨hx, hb, hml, hown, hts⟩ (mX6_within l D cy st sk sv B  n x1 (0 : Int32) (G_traced - (1 : Int32)) r11 hc11) (va_cwS 3 hts gX6_trace_X6_within rfl rfl rfl (by decide +kernel) ⟨Nat.le_of_ble_eq_true rfl, Nat.le_of_ble_eq_true rfl⟩) hG hS hAB hP [] rfl rfl hl.1 rfl (Nat.le_of_ble_eq_true rfl) dX6_trace_11 rfl ?_
  refine lv_if_eq (tgt := 29) hx hb dX6_trace_14 (by decide) (fun c_14 => ?_) (fun c_14 => ?_)
  · have hf := zp hf c_14
    refine lv_bipush (v := (-3 : Int32)) hx hb dX6_trace_29 (by decide) ?_
    cases hf
    exact W.iret hx hb hr (fun t ht hW => ⟨rfl, ht⟩) (fun q h => absurd h List.not_mem_nil) dX6_trace_31
  · have hf := zn hf c_14
    refine lv_aload_n hx hb dX6_trace_17 rfl (lv_at hl 0 rfl) ?_
    refine va_get (D := D) (ci := 6) (v := .ref ag0) (C := RX6) (T := TX6) (N := 9) hx hb hts hin6 hown hK hP 0 rfl rfl 8 (by decide) fl51 (fun _ h9 => h9) rfl dX6_trace_18 ?_
    refine va_get (D := D) (ci := 3) (v := .ref ag1) (C := RX3) (T := TX3) (N := 6) hx hb hts hin3 hown hK hP 1 rfl rfl 0 (by decide) fl280 (fun _ h9 => h9) rfl dX6_trace_21 ?_
    refine lv_iload_n hx hb dX6_trace_24 rfl (lv_at hl 1 rfl) ?_
    obtain ⟨h_25, hf⟩ := zg hf
    refine va_iald hx hb hK hP 2 0 rfl rfl h_25 dX6_trace_25 ?_
    refine lv_goto (tgt := 31) hx hb dX6_trace_26 (by decide) ?_
    cases hf
    exact W.iret hx hb hr (fun t ht hW => ⟨rfl, ht⟩) (fun q h => absurd h List.not_mem_nil) dX6_trace_31
set_option maxRecDepth 100000 in
set_option maxHeartbeats 100000000 in
theorem mX6_many (l : Launch) (D : va_G) (cy : Nat → ClassId) (st sk sv : Nat → Nat) (B : Nat) (ak : Nat) (an0 : Nat) (ay0 : Nat) (ae0 : Nat) (aa0 : Nat) (aw0 : Nat) (as0 : Nat) (af0 : Nat) (ag0 : Nat) (an1 : Nat) (an2 : Nat) (an3 : Nat) (an4 : Nat) (an5 : Nat) (aa1 : Nat) (aw1 : Nat) (ag1 : Nat) (n : Nat) (uK : Int32) (N_laws : (Nat → Int32)) (N_kind : (Nat → Int32)) (N_holds : (Nat → Int32)) (N_gone : (Nat → Int32)) (N_tells : (Nat → Int32)) (N_drowned : Int32) (N_count : Int32) (N_course : Int32) (N_told : Int32) (N_z : Int32) (A_bytes : (Nat → Int32)) (A_length : Int32) (A_place : Int32) (A_after : Int32) (A_sort : Int32) (A_number : Int32) (W_cells : (Nat → Int32)) (W_count : Int32) (G_bodies : (Nat → Int32)) (G_traced : Int32) (G_kind : Int32) (G_n : Int32) (G_a : Int32) (G_broken : Int32) (x1 : Int32) (z : Int32) (hf : fX6_many n uK (N_laws, N_kind, N_holds, N_gone, N_tells, N_drowned, N_count, N_course, N_told, N_z) (A_bytes, A_length, A_place, A_after, A_sort, A_number) (W_cells, W_count) (G_bodies, G_traced, G_kind, G_n, G_a, G_broken) x1 = some z) : Met l yX6_many wsX6_many ({ frames := 1, cells := 0, slots := 0, locals := 23 }) (PcR [.ref ak, .int x1] D cy st sk sv B [(ak, .inr (6, [.ref an0, .ref ay0, .ref ae0, .int uK, .ref aa0, .ref aw0, .ref as0, .ref af0, .ref ag0])), (an0, .inr (4, [.ref an1, .ref an2, .ref an3, .ref an4, .ref an5, .int N_drowned, .int N_count, .int N_course, .int N_told, .int N_z])), (an1, .inl (cy 0, 4, .inl N_laws)), (an2, .inl (cy 0, 8, .inl N_kind)), (an3, .inl (cy 0, 8, .inl N_holds)), (an4, .inl (cy 0, 8, .inl N_gone)), (an5, .inl (cy 0, 8, .inl N_tells)), (aa0, .inr (5, [.ref aa1, .int A_length, .int A_place, .int A_after, .int A_sort, .int A_number])), (aa1, .inl (cy 1, 200, .inl A_bytes)), (aw0, .inr (0, [.ref aw1, .int W_count])), (aw1, .inl (cy 0, 30, .inl W_cells)), (ag0, .inr (3, [.ref ag1, .int G_traced, .int G_kind, .int G_n, .int G_a, .int G_broken])), (ag1, .inl (cy 0, 30, .inl G_bodies))]) (Qr (some (.int z))) 0 0 (fun _ => False) := by
  refine Met.ofW (cc := cX6_many) (maxL := 2) (ret := (some .int)) (by decide) rfl ?_
  intro p e s m args below meth c s₁ Bd hml hv
  obtain ⟨rfl, hP, hG⟩ := hv
  have hx := Bd.exec
  have hb := Bd.bytes
  have hr := Bd.returns
  have hts := atoms_spec (ws := wsX6_many) Bd.pre
  have hown : s.vm.findClass RX6 = some m.cls := findClass_of_methodNamed Bd.named
  have hlocks := Bd.notSynchronized
  have hK := hG.1
  have hS : va_S (fun q => B ≤ q) s.heap s.heap [] := va_S.rf
  have hAB : ∀ q, (fun q => B ≤ q) q → B ≤ q := fun _ h => h
  have hin0 : ∀ w ∈ u_ws RX0 TX0 2, w ∈ wsX6_many := by decide +kernel
  have hin3 : ∀ w ∈ u_ws RX3 TX3 6, w ∈ wsX6_many := by decide +kernel
  have hin4 : ∀ w ∈ u_ws RX4 TX4 10, w ∈ wsX6_many := by decide +kernel
  have hin5 : ∀ w ∈ u_ws RX5 TX5 6, w ∈ wsX6_many := by decide +kernel
  have hin6 : ∀ w ∈ u_ws RX6 TX6 9, w ∈ wsX6_many := by decide +kernel
  have fl10 := hts (.fieldLink RX6 10 "KinCutlery" "now" "LKinCutlery$Table;") (by decide +kernel)
  have fl25 := hts (.fieldLink RX6 25 "KinCutlery" "tape" "LKinCutlery$Tape;") (by decide +kernel)
  have fl32 := hts (.fieldLink RX6 32 "KinCutlery" "rows" "LKinCutlery$Rows;") (by decide +kernel)
  have fl51 := hts (.fieldLink RX6 51 "KinCutlery" "stage" "LKinCutlery$Stage;") (by decide +kernel)
  have fl61 := hts (.fieldLink RX6 61 "KinCutlery$Tape" "length" "I") (by decide +kernel)
  have fl86 := hts (.fieldLink RX6 86 "KinCutlery$Rows" "count" "I") (by decide +kernel)
  have fl89 := hts (.fieldLink RX6 89 "KinCutlery$Table" "count" "I") (by decide +kernel)
  have fl153 := hts (.fieldLink RX6 153 "KinCutlery$Table" "drowned" "I") (by decide +kernel)
  have fl273 := hts (.fieldLink RX6 273 "KinCutlery$Stage" "traced" "I") (by decide +kernel)
  have hl := lv_entry ([.ref ak, .int x1]) (n := 2) (Nat.le_of_ble_eq_true rfl)
  rw [lg_entry_eq]
  generalize (lg_sl ([.ref ak, .int x1]) ++ List.replicate (2 - (lg_sl ([.ref ak, .int x1])).length) Slot.unset).toArray = ls at hl ⊢
  have hl : lv_has ls 2 [(0, .ref ak), (1, .int x1)] := hl
  have hf : (if x1 = (0 : Int32) then (some N_count) else if x1 = (1 : Int32) then ((fJ6_bitCount_0f7a4 n N_drowned).bind fun r59 => some r59) else if x1 = (2 : Int32) then ((fX4_tellers n (N_laws, N_kind, N_holds, N_gone, N_tells, N_drowned, N_count, N_course, N_told, N_z)).bind fun r67 => some r67) else if x1 = (3 : Int32) then ((fX4_piecesOf n (N_laws, N_kind, N_holds, N_gone, N_tells, N_drowned, N_count, N_course, N_told, N_z) (N_drowned ^^^ (-1 : Int32))).bind fun r84 => (fJ6_bitCount_0f7a4 n r84).bind fun r87 => some r87) else if x1 = (4 : Int32) then (some W_count) else if x1 = (5 : Int32) then (some A_length) else if x1 = (6 : Int32) then (some G_traced) else  (some (-1 : Int32))) = some z := hf
  refine lv_iload_n hx hb dX6_many_0 rfl (lv_at hl 1 rfl) ?_
  by_cases c_1_0 : x1 = (0 : Int32)
  · have hf := zp hf c_1_0
    refine lv_tableIn (tgt := 44) hx hb dX6_many_1 (by rw [c_1_0]; decide) (by rw [c_1_0]; decide) (by rw [c_1_0]; rfl) (by decide) ?_
    refine lv_aload_n hx hb dX6_many_44 rfl (lv_at hl 0 rfl) ?_
    refine va_get (D := D) (ci := 6) (v := .ref an0) (C := RX6) (T := TX6) (N := 9) hx hb hts hin6 hown hK hP 0 rfl rfl 0 (by decide) fl10 (fun _ h9 => h9) rfl dX6_many_45 ?_
    refine va_get (D := D) (ci := 4) (v := .int N_count) (C := RX4) (T := TX4) (N := 10) hx hb hts hin4 hown hK hP 1 rfl rfl 6 (by decide) fl89 (fun _ h9 => h9) rfl dX6_many_48 ?_
    cases hf
    exact W.iret hx hb hr (fun t ht hW => ⟨rfl, ht⟩) (fun q h => absurd h List.not_mem_nil) dX6_many_51
  have hf := zn hf c_1_0
  by_cases c_1_1 : x1 = (1 : Int32)
  · have hf := zp hf c_1_1
    refine lv_tableIn (tgt := 52) hx hb dX6_many_1 (by rw [c_1_1]; decide) (by rw [c_1_1]; decide) (by rw [c_1_1]; rfl) (by decide) ?_
    refine lv_aload_n hx hb dX6_many_52 rfl (lv_at hl 0 rfl) ?_
    refine va_get (D := D) (ci := 6) (v := .ref an0) (C := RX6) (T := TX6) (N := 9) hx hb hts hin6 hown hK hP 0 rfl rfl 0 (by decide) fl10 (fun _ h9 => h9) rfl dX6_many_53 ?_
    refine va_get (D := D) (ci := 4) (v := .int N_drowned) (C := RX4) (T := TX4) (N := 10) hx hb hts hin4 hown hK hP 1 rfl rfl 5 (by decide) fl153 (fun _ h9 => h9) rfl dX6_many_56 ?_
    obtain ⟨r59, hc59, hf⟩ := zb hf
    refine zsr (o := some (.int r59)) (As := [.int N_drowned]) (rest := []) (stk := [.int r59]) ⟨hx, hb, hml, hown, hts⟩ (mJ6_bitCount_0f7a4 l D cy st sk sv B  n N_drowned r59 hc59) (va_cwS 1 hts gX6_many_J6_bitCount_0f7a4 rfl rfl rfl (by decide +kernel) ⟨Nat.le_of_ble_eq_true rfl, Nat.le_of_ble_eq_true rfl⟩) hG hS hAB hP [] rfl rfl hl.1 rfl (Nat.le_of_ble_eq_true rfl) dX6_many_59 rfl ?_
    cases hf
    exact W.iret hx hb hr (fun t ht hW => ⟨rfl, ht⟩) (fun q h => absurd h List.not_mem_nil) dX6_many_62
  have hf := zn hf c_1_1
  by_cases c_1_2 : x1 = (2 : Int32)
  · have hf := zp hf c_1_2
    refine lv_tableIn (tgt := 63) hx hb dX6_many_1 (by rw [c_1_2]; decide) (by rw [c_1_2]; decide) (by rw [c_1_2]; rfl) (by decide) ?_
    refine lv_aload_n hx hb dX6_many_63 rfl (lv_at hl 0 rfl) ?_
    refine va_get (D := D) (ci := 6) (v := .ref an0) (C := RX6) (T := TX6) (N := 9) hx hb hts hin6 hown hK hP 0 rfl rfl 0 (by decide) fl10 (fun _ h9 => h9) rfl dX6_many_64 ?_
    obtain ⟨r67, hc67, hf⟩ := zb hf
    refine zvr (o := some (.int r67)) (As := []) (rest := []) (stk := [.int r67]) ⟨hx, hb, hml, hown, hts⟩ (mX4_tellers l D cy st sk sv B an0 an1 an2 an3 an4 an5 n N_laws N_kind N_holds N_gone N_tells N_drowned N_count N_course N_told N_z r67 hc67) (cwV 0 hts gX6_many_X4_tellers rfl rfl rfl (by decide +kernel) ⟨Nat.le_of_ble_eq_true rfl, Nat.le_of_ble_eq_true rfl⟩) hG hS hAB hP [1, 2, 3, 4, 5, 6] rfl 0 4 rfl rfl rfl rfl hl.1 rfl (Nat.le_of_ble_eq_true rfl) dX6_many_67 rfl ?_
    cases hf
    exact W.iret hx hb hr (fun t ht hW => ⟨rfl, ht⟩) (fun q h => absurd h List.not_mem_nil) dX6_many_70
  have hf := zn hf c_1_2
  by_cases c_1_3 : x1 = (3 : Int32)
  · have hf := zp hf c_1_3
    refine lv_tableIn (tgt := 71) hx hb dX6_many_1 (by rw [c_1_3]; decide) (by rw [c_1_3]; decide) (by rw [c_1_3]; rfl) (by decide) ?_
    refine lv_aload_n hx hb dX6_many_71 rfl (lv_at hl 0 rfl) ?_
    refine va_get (D := D) (ci := 6) (v := .ref an0) (C := RX6) (T := TX6) (N := 9) hx hb hts hin6 hown hK hP 0 rfl rfl 0 (by decide) fl10 (fun _ h9 => h9) rfl dX6_many_72 ?_
    refine lv_aload_n hx hb dX6_many_75 rfl (lv_at hl 0 rfl) ?_
    refine va_get (D := D) (ci := 6) (v := .ref an0) (C := RX6) (T := TX6) (N := 9) hx hb hts hin6 hown hK hP 0 rfl rfl 0 (by decide) fl10 (fun _ h9 => h9) rfl dX6_many_76 ?_
    refine va_get (D := D) (ci := 4) (v := .int N_drowned) (C := RX4) (T := TX4) (N := 10) hx hb hts hin4 hown hK hP 1 rfl rfl 5 (by decide) fl153 (fun _ h9 => h9) rfl dX6_many_79 ?_
    refine lv_iconst (v := (-1 : Int32)) hx hb dX6_many_82 (by decide) ?_
    refine lv_ixor hx hb dX6_many_83 ?_
    obtain ⟨r84, hc84, hf⟩ := zb hf
    refine zvr (o := some (.int r84)) (As := [.int (N_drowned ^^^ (-1 : Int32))]) (rest := []) (stk := [.int r84]) ⟨hx, hb, hml, hown, hts⟩ (mX4_piecesOf l D cy st sk sv B an0 an1 an2 an3 an4 an5 n N_laws N_kind N_holds N_gone N_tells N_drowned N_count N_course N_told N_z (N_drowned ^^^ (-1 : Int32)) r84 hc84) (cwV 1 hts gX6_many_X4_piecesOf rfl rfl rfl (by decide +kernel) ⟨Nat.le_of_ble_eq_true rfl, Nat.le_of_ble_eq_true rfl⟩) hG hS hAB hP [1, 2, 3, 4, 5, 6] rfl 0 4 rfl rfl rfl rfl hl.1 rfl (Nat.le_of_ble_eq_true rfl) dX6_many_84 rfl ?_
    obtain ⟨r87, hc87, hf⟩ := zb hf
    refine zsr (o := some (.int r87)) (As := [.int r84]) (rest := []) (stk := [.int r87]) ⟨hx, hb, hml, hown, hts⟩ (mJ6_bitCount_0f7a4 l D cy st sk sv B  n r84 r87 hc87) (va_cwS 1 hts gX6_many_J6_bitCount_0f7a4 rfl rfl rfl (by decide +kernel) ⟨Nat.le_of_ble_eq_true rfl, Nat.le_of_ble_eq_true rfl⟩) hG hS hAB hP [] rfl rfl hl.1 rfl (Nat.le_of_ble_eq_true rfl) dX6_many_87 rfl ?_
    cases hf
    exact W.iret hx hb hr (fun t ht hW => ⟨rfl, ht⟩) (fun q h => absurd h List.not_mem_nil) dX6_many_90
  have hf := zn hf c_1_3
  by_cases c_1_4 : x1 = (4 : Int32)
  · have hf := zp hf c_1_4
    refine lv_tableIn (tgt := 91) hx hb dX6_many_1 (by rw [c_1_4]; decide) (by rw [c_1_4]; decide) (by rw [c_1_4]; rfl) (by decide) ?_
    refine lv_aload_n hx hb dX6_many_91 rfl (lv_at hl 0 rfl) ?_
    refine va_get (D := D) (ci := 6) (v := .ref aw0) (C := RX6) (T := TX6) (N := 9) hx hb hts hin6 hown hK hP 0 rfl rfl 5 (by decide) fl32 (fun _ h9 => h9) rfl dX6_many_92 ?_
    refine va_get (D := D) (ci := 0) (v := .int W_count) (C := RX0) (T := TX0) (N := 2) hx hb hts hin0 hown hK hP 9 rfl rfl 1 (by decide) fl86 (fun _ h9 => h9) rfl dX6_many_95 ?_
    cases hf
    exact W.iret hx hb hr (fun t ht hW => ⟨rfl, ht⟩) (fun q h => absurd h List.not_mem_nil) dX6_many_98
  have hf := zn hf c_1_4
  by_cases c_1_5 : x1 = (5 : Int32)
  · have hf := zp hf c_1_5
    refine lv_tableIn (tgt := 99) hx hb dX6_many_1 (by rw [c_1_5]; decide) (by rw [c_1_5]; decide) (by rw [c_1_5]; rfl) (by decide) ?_
    refine lv_aload_n hx hb dX6_many_99 rfl (lv_at hl 0 rfl) ?_
    refine va_get (D := D) (ci := 6) (v := .ref aa0) (C := RX6) (T := TX6) (N := 9) hx hb hts hin6 hown hK hP 0 rfl rfl 4 (by decide) fl25 (fun _ h9 => h9) rfl dX6_many_100 ?_
    refine va_get (D := D) (ci := 5) (v := .int A_length) (C := RX5) (T := TX5) (N := 6) hx hb hts hin5 hown hK hP 7 rfl rfl 1 (by decide) fl61 (fun _ h9 => h9) rfl dX6_many_103 ?_
    cases hf
    exact W.iret hx hb hr (fun t ht hW => ⟨rfl, ht⟩) (fun q h => absurd h List.not_mem_nil) dX6_many_106
  have hf := zn hf c_1_5
  by_cases c_1_6 : x1 = (6 : Int32)
  · have hf := zp hf c_1_6
    refine lv_tableIn (tgt := 107) hx hb dX6_many_1 (by rw [c_1_6]; decide) (by rw [c_1_6]; decide) (by rw [c_1_6]; rfl) (by decide) ?_
    refine lv_aload_n hx hb dX6_many_107 rfl (lv_at hl 0 rfl) ?_
    refine va_get (D := D) (ci := 6) (v := .ref ag0) (C := RX6) (T := TX6) (N := 9) hx hb hts hin6 hown hK hP 0 rfl rfl 8 (by decide) fl51 (fun _ h9 => h9) rfl dX6_many_108 ?_
    refine va_get (D := D) (ci := 3) (v := .int G_traced) (C := RX3) (T := TX3) (N := 6) hx hb hts hin3 hown hK hP 11 rfl rfl 1 (by decide) fl273 (fun _ h9 => h9) rfl dX6_many_111 ?_
    cases hf
    exact W.iret hx hb hr (fun t ht hW => ⟨rfl, ht⟩) (fun q h => absurd h List.not_mem_nil) dX6_many_114
  have hf := zn hf c_1_6
  have e_1_0 : ¬ x1.toInt = 0 := fun h => c_1_0 (Int32.toInt_inj.mp (h.trans (by decide)))
  have e_1_1 : ¬ x1.toInt = 1 := fun h => c_1_1 (Int32.toInt_inj.mp (h.trans (by decide)))
  have e_1_2 : ¬ x1.toInt = 2 := fun h => c_1_2 (Int32.toInt_inj.mp (h.trans (by decide)))
  have e_1_3 : ¬ x1.toInt = 3 := fun h => c_1_3 (Int32.toInt_inj.mp (h.trans (by decide)))
  have e_1_4 : ¬ x1.toInt = 4 := fun h => c_1_4 (Int32.toInt_inj.mp (h.trans (by decide)))
  have e_1_5 : ¬ x1.toInt = 5 := fun h => c_1_5 (Int32.toInt_inj.mp (h.trans (by decide)))
  have e_1_6 : ¬ x1.toInt = 6 := fun h => c_1_6 (Int32.toInt_inj.mp (h.trans (by decide)))
  refine lv_tableOut (tgt := 115) hx hb dX6_many_1 (by omega) (by decide) ?_
  refine lv_iconst (v := (-1 : Int32)) hx hb dX6_many_115 (by decide) ?_
  cases hf
  exact W.iret hx hb hr (fun t ht hW => ⟨rfl, ht⟩) (fun q h => absurd h List.not_mem_nil) dX6_many_116
set_option maxRecDepth 100000 in
set_option maxHeartbeats 100000000 in
theorem mX6_keep (l : Launch) (D : va_G) (cy : Nat → ClassId) (st sk sv : Nat → Nat) (B : Nat) (ak : Nat) (an0 : Nat) (ay0 : Nat) (ae0 : Nat) (aa0 : Nat) (aw0 : Nat) (as0 : Nat) (af0 : Nat) (ag0 : Nat) (an1 : Nat) (an2 : Nat) (an3 : Nat) (an4 : Nat) (an5 : Nat) (ae1 : Nat) (ae2 : Nat) (ae3 : Nat) (ae4 : Nat) (ae5 : Nat) (sz : Nat) (n : Nat) (uK : Int32) (N_laws : (Nat → Int32)) (N_kind : (Nat → Int32)) (N_holds : (Nat → Int32)) (N_gone : (Nat → Int32)) (N_tells : (Nat → Int32)) (N_drowned : Int32) (N_count : Int32) (N_course : Int32) (N_told : Int32) (N_z : Int32) (E_laws : (Nat → Int32)) (E_kind : (Nat → Int32)) (E_holds : (Nat → Int32)) (E_gone : (Nat → Int32)) (E_tells : (Nat → Int32)) (E_drowned : Int32) (E_count : Int32) (E_course : Int32) (E_told : Int32) (E_z : Int32)  (z : Int32 × Int32 × TB) (hf : fX6_keep n uK (N_laws, N_kind, N_holds, N_gone, N_tells, N_drowned, N_count, N_course, N_told, N_z) (E_laws, E_kind, E_holds, E_gone, E_tells, E_drowned, E_count, E_course, E_told, E_z) = some z) : Met l yX6_keep wsX6_keep ({ frames := 2, cells := 0, slots := 0, locals := 81 }) (PcW [.ref ak] D cy st sk sv B sz [(ak, .inr (6, [.ref an0, .ref ay0, .ref ae0, .int uK, .ref aa0, .ref aw0, .ref as0, .ref af0, .ref ag0])), (an0, .inr (4, [.ref an1, .ref an2, .ref an3, .ref an4, .ref an5, .int N_drowned, .int N_count, .int N_course, .int N_told, .int N_z])), (an1, .inl (cy 0, 4, .inl N_laws)), (an2, .inl (cy 0, 8, .inl N_kind)), (an3, .inl (cy 0, 8, .inl N_holds)), (an4, .inl (cy 0, 8, .inl N_gone)), (an5, .inl (cy 0, 8, .inl N_tells)), (ae0, .inr (4, [.ref ae1, .ref ae2, .ref ae3, .ref ae4, .ref ae5, .int E_drowned, .int E_count, .int E_course, .int E_told, .int E_z])), (ae1, .inl (cy 0, 4, .inl E_laws)), (ae2, .inl (cy 0, 8, .inl E_kind)), (ae3, .inl (cy 0, 8, .inl E_holds)), (ae4, .inl (cy 0, 8, .inl E_gone)), (ae5, .inl (cy 0, 8, .inl E_tells))]) (Qw (some (.int z.1)) D [(ak, .inr (6, [.ref an0, .ref ay0, .ref ae0, .int z.2.1, .ref aa0, .ref aw0, .ref as0, .ref af0, .ref ag0])), (an0, .inr (4, [.ref an1, .ref an2, .ref an3, .ref an4, .ref an5, .int N_drowned, .int N_count, .int N_course, .int N_told, .int N_z])), (an1, .inl (cy 0, 4, .inl N_laws)), (an2, .inl (cy 0, 8, .inl N_kind)), (an3, .inl (cy 0, 8, .inl N_holds)), (an4, .inl (cy 0, 8, .inl N_gone)), (an5, .inl (cy 0, 8, .inl N_tells)), (ae0, .inr (4, [.ref ae1, .ref ae2, .ref ae3, .ref ae4, .ref ae5, .int z.2.2.2.2.2.2.2.1, .int z.2.2.2.2.2.2.2.2.1, .int z.2.2.2.2.2.2.2.2.2.1, .int z.2.2.2.2.2.2.2.2.2.2.1, .int z.2.2.2.2.2.2.2.2.2.2.2])), (ae1, .inl (cy 0, 4, .inl z.2.2.1)), (ae2, .inl (cy 0, 8, .inl z.2.2.2.1)), (ae3, .inl (cy 0, 8, .inl z.2.2.2.2.1)), (ae4, .inl (cy 0, 8, .inl z.2.2.2.2.2.1)), (ae5, .inl (cy 0, 8, .inl z.2.2.2.2.2.2.1))] (va_A [(ak, .inr (6, [.ref an0, .ref ay0, .ref ae0, .int uK, .ref aa0, .ref aw0, .ref as0, .ref af0, .ref ag0])), (an0, .inr (4, [.ref an1, .ref an2, .ref an3, .ref an4, .ref an5, .int N_drowned, .int N_count, .int N_course, .int N_told, .int N_z])), (an1, .inl (cy 0, 4, .inl N_laws)), (an2, .inl (cy 0, 8, .inl N_kind)), (an3, .inl (cy 0, 8, .inl N_holds)), (an4, .inl (cy 0, 8, .inl N_gone)), (an5, .inl (cy 0, 8, .inl N_tells)), (ae0, .inr (4, [.ref ae1, .ref ae2, .ref ae3, .ref ae4, .ref ae5, .int E_drowned, .int E_count, .int E_course, .int E_told, .int E_z])), (ae1, .inl (cy 0, 4, .inl E_laws)), (ae2, .inl (cy 0, 8, .inl E_kind)), (ae3, .inl (cy 0, 8, .inl E_holds)), (ae4, .inl (cy 0, 8, .inl E_gone)), (ae5, .inl (cy 0, 8, .inl E_tells))] sz)) 0 0 (va_A [(ak, .inr (6, [.ref an0, .ref ay0, .ref ae0, .int uK, .ref aa0, .ref aw0, .ref as0, .ref af0, .ref ag0])), (an0, .inr (4, [.ref an1, .ref an2, .ref an3, .ref an4, .ref an5, .int N_drowned, .int N_count, .int N_course, .int N_told, .int N_z])), (an1, .inl (cy 0, 4, .inl N_laws)), (an2, .inl (cy 0, 8, .inl N_kind)), (an3, .inl (cy 0, 8, .inl N_holds)), (an4, .inl (cy 0, 8, .inl N_gone)), (an5, .inl (cy 0, 8, .inl N_tells)), (ae0, .inr (4, [.ref ae1, .ref ae2, .ref ae3, .ref ae4, .ref ae5, .int E_drowned, .int E_count, .int E_course, .int E_told, .int E_z])), (ae1, .inl (cy 0, 4, .inl E_laws)), (ae2, .inl (cy 0, 8, .inl E_kind)), (ae3, .inl (cy 0, 8, .inl E_holds)), (ae4, .inl (cy 0, 8, .inl E_gone)), (ae5, .inl (cy 0, 8, .inl E_tells))] sz) := by
  refine Met.ofW (cc := cX6_keep) (maxL := 1) (ret := (some .int)) (by decide) rfl ?_
  intro p e s m args below meth c s₁ Bd hml hv
  obtain ⟨rfl, hsz, hP, hD0, hBs, hG⟩ := hv
  have hx := Bd.exec
  have hb := Bd.bytes
  have hr := Bd.returns
  have hts := atoms_spec (ws := wsX6_keep) Bd.pre
  have hown : s.vm.findClass RX6 = some m.cls := findClass_of_methodNamed Bd.named
  have hlocks := Bd.notSynchronized
  have hK := hG.1
  subst hsz
  have hD := hD0.self (sz := s.heap.size)
  have hAB0 := zA hD0 hBs
  generalize hAe : va_A [(ak, .inr (6, [.ref an0, .ref ay0, .ref ae0, .int uK, .ref aa0, .ref aw0, .ref as0, .ref af0, .ref ag0])), (an0, .inr (4, [.ref an1, .ref an2, .ref an3, .ref an4, .ref an5, .int N_drowned, .int N_count, .int N_course, .int N_told, .int N_z])), (an1, .inl (cy 0, 4, .inl N_laws)), (an2, .inl (cy 0, 8, .inl N_kind)), (an3, .inl (cy 0, 8, .inl N_holds)), (an4, .inl (cy 0, 8, .inl N_gone)), (an5, .inl (cy 0, 8, .inl N_tells)), (ae0, .inr (4, [.ref ae1, .ref ae2, .ref ae3, .ref ae4, .ref ae5, .int E_drowned, .int E_count, .int E_course, .int E_told, .int E_z])), (ae1, .inl (cy 0, 4, .inl E_laws)), (ae2, .inl (cy 0, 8, .inl E_kind)), (ae3, .inl (cy 0, 8, .inl E_holds)), (ae4, .inl (cy 0, 8, .inl E_gone)), (ae5, .inl (cy 0, 8, .inl E_tells))] s.heap.size = A at hD hAB0 ⊢
  have hA : ∀ q : Nat, s.heap.size ≤ q → A q := fun q h => by rw [← hAe]; exact Or.inr h
  have hAB : ∀ q, A q → B ≤ q := hAB0
  have hS : va_S A s.heap s.heap [] := va_S.rf
  have hfin : ∀ (z0 : Int32) (uK : Int32) (E_laws : (Nat → Int32)) (E_kind : (Nat → Int32)) (E_holds : (Nat → Int32)) (E_gone : (Nat → Int32)) (E_tells : (Nat → Int32)) (E_drowned : Int32) (E_count : Int32) (E_course : Int32) (E_told : Int32) (E_z : Int32), some (z0, uK, (E_laws, E_kind, E_holds, E_gone, E_tells, E_drowned, E_count, E_course, E_told, E_z)) = some z → ∀ (H : Heap) (t : State), t.heap = H → va_P D vwCl [(ak, .inr (6, [.ref an0, .ref ay0, .ref ae0, .int uK, .ref aa0, .ref aw0, .ref as0, .ref af0, .ref ag0])), (an0, .inr (4, [.ref an1, .ref an2, .ref an3, .ref an4, .ref an5, .int N_drowned, .int N_count, .int N_course, .int N_told, .int N_z])), (an1, .inl (cy 0, 4, .inl N_laws)), (an2, .inl (cy 0, 8, .inl N_kind)), (an3, .inl (cy 0, 8, .inl N_holds)), (an4, .inl (cy 0, 8, .inl N_gone)), (an5, .inl (cy 0, 8, .inl N_tells)), (ae0, .inr (4, [.ref ae1, .ref ae2, .ref ae3, .ref ae4, .ref ae5, .int E_drowned, .int E_count, .int E_course, .int E_told, .int E_z])), (ae1, .inl (cy 0, 4, .inl E_laws)), (ae2, .inl (cy 0, 8, .inl E_kind)), (ae3, .inl (cy 0, 8, .inl E_holds)), (ae4, .inl (cy 0, 8, .inl E_gone)), (ae5, .inl (cy 0, 8, .inl E_tells))] H → va_F A s t → Qw (some (.int z.1)) D [(ak, .inr (6, [.ref an0, .ref ay0, .ref ae0, .int z.2.1, .ref aa0, .ref aw0, .ref as0, .ref af0, .ref ag0])), (an0, .inr (4, [.ref an1, .ref an2, .ref an3, .ref an4, .ref an5, .int N_drowned, .int N_count, .int N_course, .int N_told, .int N_z])), (an1, .inl (cy 0, 4, .inl N_laws)), (an2, .inl (cy 0, 8, .inl N_kind)), (an3, .inl (cy 0, 8, .inl N_holds)), (an4, .inl (cy 0, 8, .inl N_gone)), (an5, .inl (cy 0, 8, .inl N_tells)), (ae0, .inr (4, [.ref ae1, .ref ae2, .ref ae3, .ref ae4, .ref ae5, .int z.2.2.2.2.2.2.2.1, .int z.2.2.2.2.2.2.2.2.1, .int z.2.2.2.2.2.2.2.2.2.1, .int z.2.2.2.2.2.2.2.2.2.2.1, .int z.2.2.2.2.2.2.2.2.2.2.2])), (ae1, .inl (cy 0, 4, .inl z.2.2.1)), (ae2, .inl (cy 0, 8, .inl z.2.2.2.1)), (ae3, .inl (cy 0, 8, .inl z.2.2.2.2.1)), (ae4, .inl (cy 0, 8, .inl z.2.2.2.2.2.1)), (ae5, .inl (cy 0, 8, .inl z.2.2.2.2.2.2.1))] A ([.ref ak] : List Value).toArray s (.returned (some (.int z0))) t := by
    intro z0 uK E_laws E_kind E_holds E_gone E_tells E_drowned E_count E_course E_told E_z h9 H t ht hP hF
    cases h9
    exact ⟨rfl, by rw [ht]; exact hP, hF⟩
  have hin6 : ∀ w ∈ u_ws RX6 TX6 9, w ∈ wsX6_keep := by decide +kernel
  have fl10 := hts (.fieldLink RX6 10 "KinCutlery" "now" "LKinCutlery$Table;") (by decide +kernel)
  have fl19 := hts (.fieldLink RX6 19 "KinCutlery" "kept" "LKinCutlery$Table;") (by decide +kernel)
  have fl289 := hts (.fieldLink RX6 289 "KinCutlery" "keptAny" "Z") (by decide +kernel)
  have hl := lv_entry ([.ref ak]) (n := 1) (Nat.le_of_ble_eq_true rfl)
  rw [lg_entry_eq]
  generalize (lg_sl ([.ref ak]) ++ List.replicate (1 - (lg_sl ([.ref ak])).length) Slot.unset).toArray = ls at hl ⊢
  have hl : lv_has ls 1 [(0, .ref ak)] := hl
  have hf : ((fX4_copyFrom n (E_laws, E_kind, E_holds, E_gone, E_tells, E_drowned, E_count, E_course, E_told, E_z) (N_laws, N_kind, N_holds, N_gone, N_tells, N_drowned, N_count, N_course, N_told, N_z)).bind fun r8 => some ((1 : Int32), (1 : Int32), r8)) = some z := hf
  refine lv_aload_n hx hb dX6_keep_0 rfl (lv_at hl 0 rfl) ?_
  refine va_get (D := D) (ci := 6) (v := .ref ae0) (C := RX6) (T := TX6) (N := 9) hx hb hts hin6 hown hK hP 0 rfl rfl 2 (by decide) fl19 (fun _ h9 => h9) rfl dX6_keep_1 ?_
  refine lv_aload_n hx hb dX6_keep_4 rfl (lv_at hl 0 rfl) ?_
  refine va_get (D := D) (ci := 6) (v := .ref an0) (C := RX6) (T := TX6) (N := 9) hx hb hts hin6 hown hK hP 0 rfl rfl 0 (by decide) fl10 (fun _ h9 => h9) rfl dX6_keep_5 ?_
  obtain ⟨r8, hc8, hf⟩ := zb hf
  refine zvw (o := none) (As := [.ref an0]) (rest := []) (stk := []) ⟨hx, hb, hml, hown, hts⟩ (mX4_copyFrom l D cy st sk sv B ae0 ae1 ae2 ae3 ae4 ae5 an0 an1 an2 an3 an4 an5 _ n E_laws E_kind E_holds E_gone E_tells E_drowned E_count E_course E_told E_z N_laws N_kind N_holds N_gone N_tells N_drowned N_count N_course N_told N_z r8 hc8) (cwV 1 hts gX6_keep_X4_copyFrom rfl rfl rfl (by decide +kernel) ⟨Nat.le_of_ble_eq_true rfl, Nat.le_of_ble_eq_true rfl⟩) hG hS hAB hA hP hD [7, 8, 9, 10, 11, 12, 1, 2, 3, 4, 5, 6] (by decide) rfl rfl rfl rfl 0 4 rfl rfl rfl rfl hl.1 rfl (Nat.le_of_ble_eq_true rfl) dX6_keep_8 rfl (fun H locs hP hD hS => ?_)
  have hP : va_P D vwCl [(ak, .inr (6, [.ref an0, .ref ay0, .ref ae0, .int uK, .ref aa0, .ref aw0, .ref as0, .ref af0, .ref ag0])), (an0, .inr (4, [.ref an1, .ref an2, .ref an3, .ref an4, .ref an5, .int N_drowned, .int N_count, .int N_course, .int N_told, .int N_z])), (an1, .inl (cy 0, 4, .inl N_laws)), (an2, .inl (cy 0, 8, .inl N_kind)), (an3, .inl (cy 0, 8, .inl N_holds)), (an4, .inl (cy 0, 8, .inl N_gone)), (an5, .inl (cy 0, 8, .inl N_tells)), (ae0, .inr (4, [.ref ae1, .ref ae2, .ref ae3, .ref ae4, .ref ae5, .int r8.2.2.2.2.2.1, .int r8.2.2.2.2.2.2.1, .int r8.2.2.2.2.2.2.2.1, .int r8.2.2.2.2.2.2.2.2.1, .int r8.2.2.2.2.2.2.2.2.2])), (ae1, .inl (cy 0, 4, .inl r8.1)), (ae2, .inl (cy 0, 8, .inl r8.2.1)), (ae3, .inl (cy 0, 8, .inl r8.2.2.1)), (ae4, .inl (cy 0, 8, .inl r8.2.2.2.1)), (ae5, .inl (cy 0, 8, .inl r8.2.2.2.2.1))] H := hP
  have hD : va_D A [(ak, .inr (6, [.ref an0, .ref ay0, .ref ae0, .int uK, .ref aa0, .ref aw0, .ref as0, .ref af0, .ref ag0])), (an0, .inr (4, [.ref an1, .ref an2, .ref an3, .ref an4, .ref an5, .int N_drowned, .int N_count, .int N_course, .int N_told, .int N_z])), (an1, .inl (cy 0, 4, .inl N_laws)), (an2, .inl (cy 0, 8, .inl N_kind)), (an3, .inl (cy 0, 8, .inl N_holds)), (an4, .inl (cy 0, 8, .inl N_gone)), (an5, .inl (cy 0, 8, .inl N_tells)), (ae0, .inr (4, [.ref ae1, .ref ae2, .ref ae3, .ref ae4, .ref ae5, .int r8.2.2.2.2.2.1, .int r8.2.2.2.2.2.2.1, .int r8.2.2.2.2.2.2.2.1, .int r8.2.2.2.2.2.2.2.2.1, .int r8.2.2.2.2.2.2.2.2.2])), (ae1, .inl (cy 0, 4, .inl r8.1)), (ae2, .inl (cy 0, 8, .inl r8.2.1)), (ae3, .inl (cy 0, 8, .inl r8.2.2.1)), (ae4, .inl (cy 0, 8, .inl r8.2.2.2.1)), (ae5, .inl (cy 0, 8, .inl r8.2.2.2.2.1))] := hD
  refine lv_aload_n hx hb dX6_keep_11 rfl (lv_at hl 0 rfl) ?_
  refine lv_iconst (v := (1 : Int32)) hx hb dX6_keep_12 (by decide) ?_
  refine va_put (D := D) (ci := 6) (v := .int (1 : Int32)) (ty := .boolean) (C := RX6) (T := TX6) (N := 9) hx hb hts hin6 tyX6 tyX6_ok nmX6 hown hK hP hD hS 0 rfl rfl 3 (by decide) fl289 (fun _ h9 => h9) rfl (by decide +kernel) rfl rfl (Nat.le_of_ble_eq_true rfl) dX6_keep_13 (fun H locs hP hD hS => ?_)
  have hP : va_P D vwCl [(ak, .inr (6, [.ref an0, .ref ay0, .ref ae0, .int (1 : Int32), .ref aa0, .ref aw0, .ref as0, .ref af0, .ref ag0])), (an0, .inr (4, [.ref an1, .ref an2, .ref an3, .ref an4, .ref an5, .int N_drowned, .int N_count, .int N_course, .int N_told, .int N_z])), (an1, .inl (cy 0, 4, .inl N_laws)), (an2, .inl (cy 0, 8, .inl N_kind)), (an3, .inl (cy 0, 8, .inl N_holds)), (an4, .inl (cy 0, 8, .inl N_gone)), (an5, .inl (cy 0, 8, .inl N_tells)), (ae0, .inr (4, [.ref ae1, .ref ae2, .ref ae3, .ref ae4, .ref ae5, .int r8.2.2.2.2.2.1, .int r8.2.2.2.2.2.2.1, .int r8.2.2.2.2.2.2.2.1, .int r8.2.2.2.2.2.2.2.2.1, .int r8.2.2.2.2.2.2.2.2.2])), (ae1, .inl (cy 0, 4, .inl r8.1)), (ae2, .inl (cy 0, 8, .inl r8.2.1)), (ae3, .inl (cy 0, 8, .inl r8.2.2.1)), (ae4, .inl (cy 0, 8, .inl r8.2.2.2.1)), (ae5, .inl (cy 0, 8, .inl r8.2.2.2.2.1))] H := hP
  have hD : va_D A [(ak, .inr (6, [.ref an0, .ref ay0, .ref ae0, .int (1 : Int32), .ref aa0, .ref aw0, .ref as0, .ref af0, .ref ag0])), (an0, .inr (4, [.ref an1, .ref an2, .ref an3, .ref an4, .ref an5, .int N_drowned, .int N_count, .int N_course, .int N_told, .int N_z])), (an1, .inl (cy 0, 4, .inl N_laws)), (an2, .inl (cy 0, 8, .inl N_kind)), (an3, .inl (cy 0, 8, .inl N_holds)), (an4, .inl (cy 0, 8, .inl N_gone)), (an5, .inl (cy 0, 8, .inl N_tells)), (ae0, .inr (4, [.ref ae1, .ref ae2, .ref ae3, .ref ae4, .ref ae5, .int r8.2.2.2.2.2.1, .int r8.2.2.2.2.2.2.1, .int r8.2.2.2.2.2.2.2.1, .int r8.2.2.2.2.2.2.2.2.1, .int r8.2.2.2.2.2.2.2.2.2])), (ae1, .inl (cy 0, 4, .inl r8.1)), (ae2, .inl (cy 0, 8, .inl r8.2.1)), (ae3, .inl (cy 0, 8, .inl r8.2.2.1)), (ae4, .inl (cy 0, 8, .inl r8.2.2.2.1)), (ae5, .inl (cy 0, 8, .inl r8.2.2.2.2.1))] := hD
  refine lv_iconst (v := (1 : Int32)) hx hb dX6_keep_16 (by decide) ?_
  exact W.iret hx hb hr (fun t ht hW => hfin (1 : Int32) (1 : Int32) r8.1 r8.2.1 r8.2.2.1 r8.2.2.2.1 r8.2.2.2.2.1 r8.2.2.2.2.2.1 r8.2.2.2.2.2.2.1 r8.2.2.2.2.2.2.2.1 r8.2.2.2.2.2.2.2.2.1 r8.2.2.2.2.2.2.2.2.2 hf _ t ht hP (hS.F ht)) hS.2.2 dX6_keep_17
set_option maxRecDepth 100000 in
set_option maxHeartbeats 100000000 in
theorem mX6_again (l : Launch) (D : va_G) (cy : Nat → ClassId) (st sk sv : Nat → Nat) (B : Nat) (ak : Nat) (an0 : Nat) (ay0 : Nat) (ae0 : Nat) (aa0 : Nat) (aw0 : Nat) (as0 : Nat) (af0 : Nat) (ag0 : Nat) (an1 : Nat) (an2 : Nat) (an3 : Nat) (an4 : Nat) (an5 : Nat) (ae1 : Nat) (ae2 : Nat) (ae3 : Nat) (ae4 : Nat) (ae5 : Nat) (sz : Nat) (n : Nat) (uK : Int32) (N_laws : (Nat → Int32)) (N_kind : (Nat → Int32)) (N_holds : (Nat → Int32)) (N_gone : (Nat → Int32)) (N_tells : (Nat → Int32)) (N_drowned : Int32) (N_count : Int32) (N_course : Int32) (N_told : Int32) (N_z : Int32) (E_laws : (Nat → Int32)) (E_kind : (Nat → Int32)) (E_holds : (Nat → Int32)) (E_gone : (Nat → Int32)) (E_tells : (Nat → Int32)) (E_drowned : Int32) (E_count : Int32) (E_course : Int32) (E_told : Int32) (E_z : Int32)  (z : Int32 × TB) (hf : fX6_again n uK (N_laws, N_kind, N_holds, N_gone, N_tells, N_drowned, N_count, N_course, N_told, N_z) (E_laws, E_kind, E_holds, E_gone, E_tells, E_drowned, E_count, E_course, E_told, E_z) = some z) : Met l yX6_again wsX6_again ({ frames := 2, cells := 0, slots := 0, locals := 81 }) (PcW [.ref ak] D cy st sk sv B sz [(ak, .inr (6, [.ref an0, .ref ay0, .ref ae0, .int uK, .ref aa0, .ref aw0, .ref as0, .ref af0, .ref ag0])), (an0, .inr (4, [.ref an1, .ref an2, .ref an3, .ref an4, .ref an5, .int N_drowned, .int N_count, .int N_course, .int N_told, .int N_z])), (an1, .inl (cy 0, 4, .inl N_laws)), (an2, .inl (cy 0, 8, .inl N_kind)), (an3, .inl (cy 0, 8, .inl N_holds)), (an4, .inl (cy 0, 8, .inl N_gone)), (an5, .inl (cy 0, 8, .inl N_tells)), (ae0, .inr (4, [.ref ae1, .ref ae2, .ref ae3, .ref ae4, .ref ae5, .int E_drowned, .int E_count, .int E_course, .int E_told, .int E_z])), (ae1, .inl (cy 0, 4, .inl E_laws)), (ae2, .inl (cy 0, 8, .inl E_kind)), (ae3, .inl (cy 0, 8, .inl E_holds)), (ae4, .inl (cy 0, 8, .inl E_gone)), (ae5, .inl (cy 0, 8, .inl E_tells))]) (Qw (some (.int z.1)) D [(ak, .inr (6, [.ref an0, .ref ay0, .ref ae0, .int uK, .ref aa0, .ref aw0, .ref as0, .ref af0, .ref ag0])), (an0, .inr (4, [.ref an1, .ref an2, .ref an3, .ref an4, .ref an5, .int z.2.2.2.2.2.2.1, .int z.2.2.2.2.2.2.2.1, .int z.2.2.2.2.2.2.2.2.1, .int z.2.2.2.2.2.2.2.2.2.1, .int z.2.2.2.2.2.2.2.2.2.2])), (an1, .inl (cy 0, 4, .inl z.2.1)), (an2, .inl (cy 0, 8, .inl z.2.2.1)), (an3, .inl (cy 0, 8, .inl z.2.2.2.1)), (an4, .inl (cy 0, 8, .inl z.2.2.2.2.1)), (an5, .inl (cy 0, 8, .inl z.2.2.2.2.2.1)), (ae0, .inr (4, [.ref ae1, .ref ae2, .ref ae3, .ref ae4, .ref ae5, .int E_drowned, .int E_count, .int E_course, .int E_told, .int E_z])), (ae1, .inl (cy 0, 4, .inl E_laws)), (ae2, .inl (cy 0, 8, .inl E_kind)), (ae3, .inl (cy 0, 8, .inl E_holds)), (ae4, .inl (cy 0, 8, .inl E_gone)), (ae5, .inl (cy 0, 8, .inl E_tells))] (va_A [(ak, .inr (6, [.ref an0, .ref ay0, .ref ae0, .int uK, .ref aa0, .ref aw0, .ref as0, .ref af0, .ref ag0])), (an0, .inr (4, [.ref an1, .ref an2, .ref an3, .ref an4, .ref an5, .int N_drowned, .int N_count, .int N_course, .int N_told, .int N_z])), (an1, .inl (cy 0, 4, .inl N_laws)), (an2, .inl (cy 0, 8, .inl N_kind)), (an3, .inl (cy 0, 8, .inl N_holds)), (an4, .inl (cy 0, 8, .inl N_gone)), (an5, .inl (cy 0, 8, .inl N_tells)), (ae0, .inr (4, [.ref ae1, .ref ae2, .ref ae3, .ref ae4, .ref ae5, .int E_drowned, .int E_count, .int E_course, .int E_told, .int E_z])), (ae1, .inl (cy 0, 4, .inl E_laws)), (ae2, .inl (cy 0, 8, .inl E_kind)), (ae3, .inl (cy 0, 8, .inl E_holds)), (ae4, .inl (cy 0, 8, .inl E_gone)), (ae5, .inl (cy 0, 8, .inl E_tells))] sz)) 0 0 (va_A [(ak, .inr (6, [.ref an0, .ref ay0, .ref ae0, .int uK, .ref aa0, .ref aw0, .ref as0, .ref af0, .ref ag0])), (an0, .inr (4, [.ref an1, .ref an2, .ref an3, .ref an4, .ref an5, .int N_drowned, .int N_count, .int N_course, .int N_told, .int N_z])), (an1, .inl (cy 0, 4, .inl N_laws)), (an2, .inl (cy 0, 8, .inl N_kind)), (an3, .inl (cy 0, 8, .inl N_holds)), (an4, .inl (cy 0, 8, .inl N_gone)), (an5, .inl (cy 0, 8, .inl N_tells)), (ae0, .inr (4, [.ref ae1, .ref ae2, .ref ae3, .ref ae4, .ref ae5, .int E_drowned, .int E_count, .int E_course, .int E_told, .int E_z])), (ae1, .inl (cy 0, 4, .inl E_laws)), (ae2, .inl (cy 0, 8, .inl E_kind)), (ae3, .inl (cy 0, 8, .inl E_holds)), (ae4, .inl (cy 0, 8, .inl E_gone)), (ae5, .inl (cy 0, 8, .inl E_tells))] sz) := by
  refine Met.ofW (cc := cX6_again) (maxL := 1) (ret := (some .int)) (by decide) rfl ?_
  intro p e s m args below meth c s₁ Bd hml hv
  obtain ⟨rfl, hsz, hP, hD0, hBs, hG⟩ := hv
  have hx := Bd.exec
  have hb := Bd.bytes
  have hr := Bd.returns
  have hts := atoms_spec (ws := wsX6_again) Bd.pre
  have hown : s.vm.findClass RX6 = some m.cls := findClass_of_methodNamed Bd.named
  have hlocks := Bd.notSynchronized
  have hK := hG.1
  subst hsz
  have hD := hD0.self (sz := s.heap.size)
  have hAB0 := zA hD0 hBs
  generalize hAe : va_A [(ak, .inr (6, [.ref an0, .ref ay0, .ref ae0, .int uK, .ref aa0, .ref aw0, .ref as0, .ref af0, .ref ag0])), (an0, .inr (4, [.ref an1, .ref an2, .ref an3, .ref an4, .ref an5, .int N_drowned, .int N_count, .int N_course, .int N_told, .int N_z])), (an1, .inl (cy 0, 4, .inl N_laws)), (an2, .inl (cy 0, 8, .inl N_kind)), (an3, .inl (cy 0, 8, .inl N_holds)), (an4, .inl (cy 0, 8, .inl N_gone)), (an5, .inl (cy 0, 8, .inl N_tells)), (ae0, .inr (4, [.ref ae1, .ref ae2, .ref ae3, .ref ae4, .ref ae5, .int E_drowned, .int E_count, .int E_course, .int E_told, .int E_z])), (ae1, .inl (cy 0, 4, .inl E_laws)), (ae2, .inl (cy 0, 8, .inl E_kind)), (ae3, .inl (cy 0, 8, .inl E_holds)), (ae4, .inl (cy 0, 8, .inl E_gone)), (ae5, .inl (cy 0, 8, .inl E_tells))] s.heap.size = A at hD hAB0 ⊢
  have hA : ∀ q : Nat, s.heap.size ≤ q → A q := fun q h => by rw [← hAe]; exact Or.inr h
  have hAB : ∀ q, A q → B ≤ q := hAB0
  have hS : va_S A s.heap s.heap [] := va_S.rf
  have hfin : ∀ (z0 : Int32) (N_laws : (Nat → Int32)) (N_kind : (Nat → Int32)) (N_holds : (Nat → Int32)) (N_gone : (Nat → Int32)) (N_tells : (Nat → Int32)) (N_drowned : Int32) (N_count : Int32) (N_course : Int32) (N_told : Int32) (N_z : Int32), some (z0, (N_laws, N_kind, N_holds, N_gone, N_tells, N_drowned, N_count, N_course, N_told, N_z)) = some z → ∀ (H : Heap) (t : State), t.heap = H → va_P D vwCl [(ak, .inr (6, [.ref an0, .ref ay0, .ref ae0, .int uK, .ref aa0, .ref aw0, .ref as0, .ref af0, .ref ag0])), (an0, .inr (4, [.ref an1, .ref an2, .ref an3, .ref an4, .ref an5, .int N_drowned, .int N_count, .int N_course, .int N_told, .int N_z])), (an1, .inl (cy 0, 4, .inl N_laws)), (an2, .inl (cy 0, 8, .inl N_kind)), (an3, .inl (cy 0, 8, .inl N_holds)), (an4, .inl (cy 0, 8, .inl N_gone)), (an5, .inl (cy 0, 8, .inl N_tells)), (ae0, .inr (4, [.ref ae1, .ref ae2, .ref ae3, .ref ae4, .ref ae5, .int E_drowned, .int E_count, .int E_course, .int E_told, .int E_z])), (ae1, .inl (cy 0, 4, .inl E_laws)), (ae2, .inl (cy 0, 8, .inl E_kind)), (ae3, .inl (cy 0, 8, .inl E_holds)), (ae4, .inl (cy 0, 8, .inl E_gone)), (ae5, .inl (cy 0, 8, .inl E_tells))] H → va_F A s t → Qw (some (.int z.1)) D [(ak, .inr (6, [.ref an0, .ref ay0, .ref ae0, .int uK, .ref aa0, .ref aw0, .ref as0, .ref af0, .ref ag0])), (an0, .inr (4, [.ref an1, .ref an2, .ref an3, .ref an4, .ref an5, .int z.2.2.2.2.2.2.1, .int z.2.2.2.2.2.2.2.1, .int z.2.2.2.2.2.2.2.2.1, .int z.2.2.2.2.2.2.2.2.2.1, .int z.2.2.2.2.2.2.2.2.2.2])), (an1, .inl (cy 0, 4, .inl z.2.1)), (an2, .inl (cy 0, 8, .inl z.2.2.1)), (an3, .inl (cy 0, 8, .inl z.2.2.2.1)), (an4, .inl (cy 0, 8, .inl z.2.2.2.2.1)), (an5, .inl (cy 0, 8, .inl z.2.2.2.2.2.1)), (ae0, .inr (4, [.ref ae1, .ref ae2, .ref ae3, .ref ae4, .ref ae5, .int E_drowned, .int E_count, .int E_course, .int E_told, .int E_z])), (ae1, .inl (cy 0, 4, .inl E_laws)), (ae2, .inl (cy 0, 8, .inl E_kind)), (ae3, .inl (cy 0, 8, .inl E_holds)), (ae4, .inl (cy 0, 8, .inl E_gone)), (ae5, .inl (cy 0, 8, .inl E_tells))] A ([.ref ak] : List Value).toArray s (.returned (some (.int z0))) t := by
    intro z0 N_laws N_kind N_holds N_gone N_tells N_drowned N_count N_course N_told N_z h9 H t ht hP hF
    cases h9
    exact ⟨rfl, by rw [ht]; exact hP, hF⟩
  have hin4 : ∀ w ∈ u_ws RX4 TX4 10, w ∈ wsX6_again := by decide +kernel
  have hin6 : ∀ w ∈ u_ws RX6 TX6 9, w ∈ wsX6_again := by decide +kernel
  have fl10 := hts (.fieldLink RX6 10 "KinCutlery" "now" "LKinCutlery$Table;") (by decide +kernel)
  have fl19 := hts (.fieldLink RX6 19 "KinCutlery" "kept" "LKinCutlery$Table;") (by decide +kernel)
  have fl89 := hts (.fieldLink RX6 89 "KinCutlery$Table" "count" "I") (by decide +kernel)
  have fl289 := hts (.fieldLink RX6 289 "KinCutlery" "keptAny" "Z") (by decide +kernel)
  have hl := lv_entry ([.ref ak]) (n := 1) (Nat.le_of_ble_eq_true rfl)
  rw [lg_entry_eq]
  generalize (lg_sl ([.ref ak]) ++ List.replicate (1 - (lg_sl ([.ref ak])).length) Slot.unset).toArray = ls at hl ⊢
  have hl : lv_has ls 1 [(0, .ref ak)] := hl
  have hf : (if uK = 0 then (some ((-3 : Int32), (N_laws, N_kind, N_holds, N_gone, N_tells, N_drowned, N_count, N_course, N_told, N_z))) else ((fX4_copyFrom n (N_laws, N_kind, N_holds, N_gone, N_tells, N_drowned, N_count, N_course, N_told, N_z) (E_laws, E_kind, E_holds, E_gone, E_tells, E_drowned, E_count, E_course, E_told, E_z)).bind fun r18 => some (r18.2.2.2.2.2.2.1, r18))) = some z := hf
  refine lv_aload_n hx hb dX6_again_0 rfl (lv_at hl 0 rfl) ?_
  refine va_get (D := D) (ci := 6) (v := .int uK) (C := RX6) (T := TX6) (N := 9) hx hb hts hin6 hown hK hP 0 rfl rfl 3 (by decide) fl289 (fun _ h9 => h9) rfl dX6_again_1 ?_
  refine lv_if_ne (tgt := 10) hx hb dX6_again_4 (by decide) (fun c_4 => ?_) (fun c_4 => ?_)
  · have hf := zn hf c_4
    refine lv_aload_n hx hb dX6_again_10 rfl (lv_at hl 0 rfl) ?_
    refine va_get (D := D) (ci := 6) (v := .ref an0) (C := RX6) (T := TX6) (N := 9) hx hb hts hin6 hown hK hP 0 rfl rfl 0 (by decide) fl10 (fun _ h9 => h9) rfl dX6_again_11 ?_
    refine lv_aload_n hx hb dX6_again_14 rfl (lv_at hl 0 rfl) ?_
    refine va_get (D := D) (ci := 6) (v := .ref ae0) (C := RX6) (T := TX6) (N := 9) hx hb hts hin6 hown hK hP 0 rfl rfl 2 (by decide) fl19 (fun _ h9 => h9) rfl dX6_again_15 ?_
    obtain ⟨r18, hc18, hf⟩ := zb hf
    refine zvw (o := none) (As := [.ref ae0]) (rest := []) (stk := []) ⟨hx, hb, hml, hown, hts⟩ (mX4_copyFrom l D cy st sk sv B an0 an1 an2 an3 an4 an5 ae0 ae1 ae2 ae3 ae4 ae5 _ n N_laws N_kind N_holds N_gone N_tells N_drowned N_count N_course N_told N_z E_laws E_kind E_holds E_gone E_tells E_drowned E_count E_course E_told E_z r18 hc18) (cwV 1 hts gX6_again_X4_copyFrom rfl rfl rfl (by decide +kernel) ⟨Nat.le_of_ble_eq_true rfl, Nat.le_of_ble_eq_true rfl⟩) hG hS hAB hA hP hD [1, 2, 3, 4, 5, 6, 7, 8, 9, 10, 11, 12] (by decide) rfl rfl rfl rfl 0 4 rfl rfl rfl rfl hl.1 rfl (Nat.le_of_ble_eq_true rfl) dX6_again_18 rfl (fun H locs hP hD hS => ?_)
    have hP : va_P D vwCl [(ak, .inr (6, [.ref an0, .ref ay0, .ref ae0, .int uK, .ref aa0, .ref aw0, .ref as0, .ref af0, .ref ag0])), (an0, .inr (4, [.ref an1, .ref an2, .ref an3, .ref an4, .ref an5, .int r18.2.2.2.2.2.1, .int r18.2.2.2.2.2.2.1, .int r18.2.2.2.2.2.2.2.1, .int r18.2.2.2.2.2.2.2.2.1, .int r18.2.2.2.2.2.2.2.2.2])), (an1, .inl (cy 0, 4, .inl r18.1)), (an2, .inl (cy 0, 8, .inl r18.2.1)), (an3, .inl (cy 0, 8, .inl r18.2.2.1)), (an4, .inl (cy 0, 8, .inl r18.2.2.2.1)), (an5, .inl (cy 0, 8, .inl r18.2.2.2.2.1)), (ae0, .inr (4, [.ref ae1, .ref ae2, .ref ae3, .ref ae4, .ref ae5, .int E_drowned, .int E_count, .int E_course, .int E_told, .int E_z])), (ae1, .inl (cy 0, 4, .inl E_laws)), (ae2, .inl (cy 0, 8, .inl E_kind)), (ae3, .inl (cy 0, 8, .inl E_holds)), (ae4, .inl (cy 0, 8, .inl E_gone)), (ae5, .inl (cy 0, 8, .inl E_tells))] H := hP
    have hD : va_D A [(ak, .inr (6, [.ref an0, .ref ay0, .ref ae0, .int uK, .ref aa0, .ref aw0, .ref as0, .ref af0, .ref ag0])), (an0, .inr (4, [.ref an1, .ref an2, .ref an3, .ref an4, .ref an5, .int r18.2.2.2.2.2.1, .int r18.2.2.2.2.2.2.1, .int r18.2.2.2.2.2.2.2.1, .int r18.2.2.2.2.2.2.2.2.1, .int r18.2.2.2.2.2.2.2.2.2])), (an1, .inl (cy 0, 4, .inl r18.1)), (an2, .inl (cy 0, 8, .inl r18.2.1)), (an3, .inl (cy 0, 8, .inl r18.2.2.1)), (an4, .inl (cy 0, 8, .inl r18.2.2.2.1)), (an5, .inl (cy 0, 8, .inl r18.2.2.2.2.1)), (ae0, .inr (4, [.ref ae1, .ref ae2, .ref ae3, .ref ae4, .ref ae5, .int E_drowned, .int E_count, .int E_course, .int E_told, .int E_z])), (ae1, .inl (cy 0, 4, .inl E_laws)), (ae2, .inl (cy 0, 8, .inl E_kind)), (ae3, .inl (cy 0, 8, .inl E_holds)), (ae4, .inl (cy 0, 8, .inl E_gone)), (ae5, .inl (cy 0, 8, .inl E_tells))] := hD
    refine lv_aload_n hx hb dX6_again_21 rfl (lv_at hl 0 rfl) ?_
    refine va_get (D := D) (ci := 6) (v := .ref an0) (C := RX6) (T := TX6) (N := 9) hx hb hts hin6 hown hK hP 0 rfl rfl 0 (by decide) fl10 (fun _ h9 => h9) rfl dX6_again_22 ?_
    refine va_get (D := D) (ci := 4) (v := .int r18.2.2.2.2.2.2.1) (C := RX4) (T := TX4) (N := 10) hx hb hts hin4 hown hK hP 1 rfl rfl 6 (by decide) fl89 (fun _ h9 => h9) rfl dX6_again_25 ?_
    exact W.iret hx hb hr (fun t ht hW => hfin r18.2.2.2.2.2.2.1 r18.1 r18.2.1 r18.2.2.1 r18.2.2.2.1 r18.2.2.2.2.1 r18.2.2.2.2.2.1 r18.2.2.2.2.2.2.1 r18.2.2.2.2.2.2.2.1 r18.2.2.2.2.2.2.2.2.1 r18.2.2.2.2.2.2.2.2.2 hf _ t ht hP (hS.F ht)) hS.2.2 dX6_again_28
  · have hf := zp hf c_4
    refine lv_bipush (v := (-3 : Int32)) hx hb dX6_again_7 (by decide) ?_
    exact W.iret hx hb hr (fun t ht hW => hfin (-3 : Int32) N_laws N_kind N_holds N_gone N_tells N_drowned N_count N_course N_told N_z hf _ t ht hP (hS.F ht)) hS.2.2 dX6_again_9
set_option maxRecDepth 100000 in
set_option maxHeartbeats 100000000 in
theorem mX7_begins (l : Launch) (D : va_G) (cy : Nat → ClassId) (st sk sv : Nat → Nat) (B : Nat) (am : Nat) (am0 : Nat) (am1 : Nat) (am2 : Nat) (am3 : Nat) (am4 : Nat) (am5 : Nat) (am6 : Nat) (am7 : Nat) (am8 : Nat) (am9 : Nat) (am10 : Nat) (am11 : Nat) (am12 : Nat) (sz : Nat) (n : Nat) (M_isHeld : Int32) (M_taped : Int32) (M_token : Int32) (M_from : Int32) (M_to : Int32) (M_value : Int32) (M_isWrong : Int32) (M_rowN : Int32) (M_ran : Int32) (M_actKind : Int32) (M_actN : Int32) (M_actA : Int32) (M_isParted : Int32) (u_s : (Nat → Int32))  (z : (Nat → Int32)) (hf : fX7_begins n (M_isHeld, M_taped, M_token, M_from, M_to, M_value, M_isWrong, M_rowN, M_ran, M_actKind, M_actN, M_actA, M_isParted) u_s = some z) : Met l yX7_begins wsX7_begins ({ frames := 0, cells := 0, slots := 0, locals := 0 }) (PcW [.ref am] D cy st sk sv B sz [(am, .inr (7, [.ref am0, .ref am1, .ref am2, .ref am3, .int M_isHeld, .ref am4, .int M_taped, .int M_token, .int M_from, .int M_to, .int M_value, .int M_isWrong, .ref am5, .int M_rowN, .ref am6, .ref am7, .ref am8, .ref am9, .ref am10, .ref am11, .ref am12, .int M_ran, .int M_actKind, .int M_actN, .int M_actA, .int M_isParted])), (am0, .inl (cy 0, 48, .inl u_s))]) (Qw (none) D [(am, .inr (7, [.ref am0, .ref am1, .ref am2, .ref am3, .int M_isHeld, .ref am4, .int M_taped, .int M_token, .int M_from, .int M_to, .int M_value, .int M_isWrong, .ref am5, .int M_rowN, .ref am6, .ref am7, .ref am8, .ref am9, .ref am10, .ref am11, .ref am12, .int M_ran, .int M_actKind, .int M_actN, .int M_actA, .int M_isParted])), (am0, .inl (cy 0, 48, .inl z))] (va_A [(am, .inr (7, [.ref am0, .ref am1, .ref am2, .ref am3, .int M_isHeld, .ref am4, .int M_taped, .int M_token, .int M_from, .int M_to, .int M_value, .int M_isWrong, .ref am5, .int M_rowN, .ref am6, .ref am7, .ref am8, .ref am9, .ref am10, .ref am11, .ref am12, .int M_ran, .int M_actKind, .int M_actN, .int M_actA, .int M_isParted])), (am0, .inl (cy 0, 48, .inl u_s))] sz)) 0 0 (va_A [(am, .inr (7, [.ref am0, .ref am1, .ref am2, .ref am3, .int M_isHeld, .ref am4, .int M_taped, .int M_token, .int M_from, .int M_to, .int M_value, .int M_isWrong, .ref am5, .int M_rowN, .ref am6, .ref am7, .ref am8, .ref am9, .ref am10, .ref am11, .ref am12, .int M_ran, .int M_actKind, .int M_actN, .int M_actA, .int M_isParted])), (am0, .inl (cy 0, 48, .inl u_s))] sz) := by
  refine Met.ofW (cc := cX7_begins) (maxL := 3) (ret := none) (by decide) rfl ?_
  intro p e s m args below meth c s₁ Bd hml hv
  obtain ⟨rfl, hsz, hP, hD0, hBs, hG⟩ := hv
  have hx := Bd.exec
  have hb := Bd.bytes
  have hr := Bd.returns
  have hts := atoms_spec (ws := wsX7_begins) Bd.pre
  have hown : s.vm.findClass RX7 = some m.cls := findClass_of_methodNamed Bd.named
  have hlocks := Bd.notSynchronized
  have hK := hG.1
  subst hsz
  have hD := hD0.self (sz := s.heap.size)
  have hAB0 := zA hD0 hBs
  generalize hAe : va_A [(am, .inr (7, [.ref am0, .ref am1, .ref am2, .ref am3, .int M_isHeld, .ref am4, .int M_taped, .int M_token, .int M_from, .int M_to, .int M_value, .int M_isWrong, .ref am5, .int M_rowN, .ref am6, .ref am7, .ref am8, .ref am9, .ref am10, .ref am11, .ref am12, .int M_ran, .int M_actKind, .int M_actN, .int M_actA, .int M_isParted])), (am0, .inl (cy 0, 48, .inl u_s))] s.heap.size = A at hD hAB0 ⊢
  have hA : ∀ q : Nat, s.heap.size ≤ q → A q := fun q h => by rw [← hAe]; exact Or.inr h
  have hAB : ∀ q, A q → B ≤ q := hAB0
  have hS : va_S A s.heap s.heap [] := va_S.rf
  have hfin : ∀ (u_s : (Nat → Int32)), some u_s = some z → ∀ (H : Heap) (t : State), t.heap = H → va_P D vwCl [(am, .inr (7, [.ref am0, .ref am1, .ref am2, .ref am3, .int M_isHeld, .ref am4, .int M_taped, .int M_token, .int M_from, .int M_to, .int M_value, .int M_isWrong, .ref am5, .int M_rowN, .ref am6, .ref am7, .ref am8, .ref am9, .ref am10, .ref am11, .ref am12, .int M_ran, .int M_actKind, .int M_actN, .int M_actA, .int M_isParted])), (am0, .inl (cy 0, 48, .inl u_s))] H → va_F A s t → Qw (none) D [(am, .inr (7, [.ref am0, .ref am1, .ref am2, .ref am3, .int M_isHeld, .ref am4, .int M_taped, .int M_token, .int M_from, .int M_to, .int M_value, .int M_isWrong, .ref am5, .int M_rowN, .ref am6, .ref am7, .ref am8, .ref am9, .ref am10, .ref am11, .ref am12, .int M_ran, .int M_actKind, .int M_actN, .int M_actA, .int M_isParted])), (am0, .inl (cy 0, 48, .inl z))] A ([.ref am] : List Value).toArray s (.returned (none)) t := by
    intro u_s h9 H t ht hP hF
    cases h9
    exact ⟨rfl, by rw [ht]; exact hP, hF⟩
  have hin7 : ∀ w ∈ u_ws RX7 TX7 26, w ∈ wsX7_begins := by decide +kernel
  have fl7 := hts (.fieldLink RX7 7 "KinCutleryModel" "s" "[I") (by decide +kernel)
  have hL9 : ∀ (n0 : Nat) (u_s : (Nat → Int32)) (y1 : Int32) (y2 : Int32), lpF (fX7_begins_F9 n (M_isHeld, M_taped, M_token, M_from, M_to, M_value, M_isWrong, M_rowN, M_ran, M_actKind, M_actN, M_actA, M_isParted) ) n0 (u_s, y1, y2) = some z → ∀ (H : Heap) (locs : List Loc), va_P D vwCl [(am, .inr (7, [.ref am0, .ref am1, .ref am2, .ref am3, .int M_isHeld, .ref am4, .int M_taped, .int M_token, .int M_from, .int M_to, .int M_value, .int M_isWrong, .ref am5, .int M_rowN, .ref am6, .ref am7, .ref am8, .ref am9, .ref am10, .ref am11, .ref am12, .int M_ran, .int M_actKind, .int M_actN, .int M_actA, .int M_isParted])), (am0, .inl (cy 0, 48, .inl u_s))] H → va_D A [(am, .inr (7, [.ref am0, .ref am1, .ref am2, .ref am3, .int M_isHeld, .ref am4, .int M_taped, .int M_token, .int M_from, .int M_to, .int M_value, .int M_isWrong, .ref am5, .int M_rowN, .ref am6, .ref am7, .ref am8, .ref am9, .ref am10, .ref am11, .ref am12, .int M_ran, .int M_actKind, .int M_actN, .int M_actA, .int M_isParted])), (am0, .inl (cy 0, 48, .inl u_s))] → va_S A s.heap H locs → ∀ (ls : Array Slot), lv_has ls 3 [(0, .ref am), (1, .int y1), (2, .int y2)] → W p l e (headSpec wsX7_begins ({ frames := 0, cells := 0, slots := 0, locals := 0 })).room s m ([.ref am] : List Value).toArray below meth c H locs 0 0 (MQ below (Qw (none) D [(am, .inr (7, [.ref am0, .ref am1, .ref am2, .ref am3, .int M_isHeld, .ref am4, .int M_taped, .int M_token, .int M_from, .int M_to, .int M_value, .int M_isWrong, .ref am5, .int M_rowN, .ref am6, .ref am7, .ref am8, .ref am9, .ref am10, .ref am11, .ref am12, .int M_ran, .int M_actKind, .int M_actN, .int M_actA, .int M_isParted])), (am0, .inl (cy 0, 48, .inl z))] A) ([.ref am] : List Value).toArray s 0 0 A) (F0 m 9 ls []) := by
    have key : ∀ (n0 : Nat) (v9 : (Nat → Int32) × Int32 × Int32), lpF (fX7_begins_F9 n (M_isHeld, M_taped, M_token, M_from, M_to, M_value, M_isWrong, M_rowN, M_ran, M_actKind, M_actN, M_actA, M_isParted) ) n0 v9 = some z → ∀ (H : Heap) (locs : List Loc), va_P D vwCl [(am, .inr (7, [.ref am0, .ref am1, .ref am2, .ref am3, .int M_isHeld, .ref am4, .int M_taped, .int M_token, .int M_from, .int M_to, .int M_value, .int M_isWrong, .ref am5, .int M_rowN, .ref am6, .ref am7, .ref am8, .ref am9, .ref am10, .ref am11, .ref am12, .int M_ran, .int M_actKind, .int M_actN, .int M_actA, .int M_isParted])), (am0, .inl (cy 0, 48, .inl v9.1))] H → va_D A [(am, .inr (7, [.ref am0, .ref am1, .ref am2, .ref am3, .int M_isHeld, .ref am4, .int M_taped, .int M_token, .int M_from, .int M_to, .int M_value, .int M_isWrong, .ref am5, .int M_rowN, .ref am6, .ref am7, .ref am8, .ref am9, .ref am10, .ref am11, .ref am12, .int M_ran, .int M_actKind, .int M_actN, .int M_actA, .int M_isParted])), (am0, .inl (cy 0, 48, .inl v9.1))] → va_S A s.heap H locs → ∀ (ls : Array Slot), lv_has ls 3 [(0, .ref am), (1, .int v9.2.1), (2, .int v9.2.2)] → W p l e (headSpec wsX7_begins ({ frames := 0, cells := 0, slots := 0, locals := 0 })).room s m ([.ref am] : List Value).toArray below meth c H locs 0 0 (MQ below (Qw (none) D [(am, .inr (7, [.ref am0, .ref am1, .ref am2, .ref am3, .int M_isHeld, .ref am4, .int M_taped, .int M_token, .int M_from, .int M_to, .int M_value, .int M_isWrong, .ref am5, .int M_rowN, .ref am6, .ref am7, .ref am8, .ref am9, .ref am10, .ref am11, .ref am12, .int M_ran, .int M_actKind, .int M_actN, .int M_actA, .int M_isParted])), (am0, .inl (cy 0, 48, .inl z))] A) ([.ref am] : List Value).toArray s 0 0 A) (F0 m 9 ls []) := by
      refine lpW ?_
      intro k9 hk90
      have hk9 : ∀ (u_s : (Nat → Int32)) (y1 : Int32) (y2 : Int32), k9 (u_s, y1, y2) = some z → ∀ (H : Heap) (locs : List Loc), va_P D vwCl [(am, .inr (7, [.ref am0, .ref am1, .ref am2, .ref am3, .int M_isHeld, .ref am4, .int M_taped, .int M_token, .int M_from, .int M_to, .int M_value, .int M_isWrong, .ref am5, .int M_rowN, .ref am6, .ref am7, .ref am8, .ref am9, .ref am10, .ref am11, .ref am12, .int M_ran, .int M_actKind, .int M_actN, .int M_actA, .int M_isParted])), (am0, .inl (cy 0, 48, .inl u_s))] H → va_D A [(am, .inr (7, [.ref am0, .ref am1, .ref am2, .ref am3, .int M_isHeld, .ref am4, .int M_taped, .int M_token, .int M_from, .int M_to, .int M_value, .int M_isWrong, .ref am5, .int M_rowN, .ref am6, .ref am7, .ref am8, .ref am9, .ref am10, .ref am11, .ref am12, .int M_ran, .int M_actKind, .int M_actN, .int M_actA, .int M_isParted])), (am0, .inl (cy 0, 48, .inl u_s))] → va_S A s.heap H locs → ∀ (ls : Array Slot), lv_has ls 3 [(0, .ref am), (1, .int y1), (2, .int y2)] → W p l e (headSpec wsX7_begins ({ frames := 0, cells := 0, slots := 0, locals := 0 })).room s m ([.ref am] : List Value).toArray below meth c H locs 0 0 (MQ below (Qw (none) D [(am, .inr (7, [.ref am0, .ref am1, .ref am2, .ref am3, .int M_isHeld, .ref am4, .int M_taped, .int M_token, .int M_from, .int M_to, .int M_value, .int M_isWrong, .ref am5, .int M_rowN, .ref am6, .ref am7, .ref am8, .ref am9, .ref am10, .ref am11, .ref am12, .int M_ran, .int M_actKind, .int M_actN, .int M_actA, .int M_isParted])), (am0, .inl (cy 0, 48, .inl z))] A) ([.ref am] : List Value).toArray s 0 0 A) (F0 m 9 ls []) := fun u_s y1 y2 h9 => hk90 (u_s, y1, y2) h9
      have hstep : ∀ (u_s : (Nat → Int32)) (y1 : Int32) (y2 : Int32), fX7_begins_F9 n (M_isHeld, M_taped, M_token, M_from, M_to, M_value, M_isWrong, M_rowN, M_ran, M_actKind, M_actN, M_actA, M_isParted)  k9 (u_s, y1, y2) = some z → ∀ (H : Heap) (locs : List Loc), va_P D vwCl [(am, .inr (7, [.ref am0, .ref am1, .ref am2, .ref am3, .int M_isHeld, .ref am4, .int M_taped, .int M_token, .int M_from, .int M_to, .int M_value, .int M_isWrong, .ref am5, .int M_rowN, .ref am6, .ref am7, .ref am8, .ref am9, .ref am10, .ref am11, .ref am12, .int M_ran, .int M_actKind, .int M_actN, .int M_actA, .int M_isParted])), (am0, .inl (cy 0, 48, .inl u_s))] H → va_D A [(am, .inr (7, [.ref am0, .ref am1, .ref am2, .ref am3, .int M_isHeld, .ref am4, .int M_taped, .int M_token, .int M_from, .int M_to, .int M_value, .int M_isWrong, .ref am5, .int M_rowN, .ref am6, .ref am7, .ref am8, .ref am9, .ref am10, .ref am11, .ref am12, .int M_ran, .int M_actKind, .int M_actN, .int M_actA, .int M_isParted])), (am0, .inl (cy 0, 48, .inl u_s))] → va_S A s.heap H locs → ∀ (ls : Array Slot), lv_has ls 3 [(0, .ref am), (1, .int y1), (2, .int y2)] → W p l e (headSpec wsX7_begins ({ frames := 0, cells := 0, slots := 0, locals := 0 })).room s m ([.ref am] : List Value).toArray below meth c H locs 0 0 (MQ below (Qw (none) D [(am, .inr (7, [.ref am0, .ref am1, .ref am2, .ref am3, .int M_isHeld, .ref am4, .int M_taped, .int M_token, .int M_from, .int M_to, .int M_value, .int M_isWrong, .ref am5, .int M_rowN, .ref am6, .ref am7, .ref am8, .ref am9, .ref am10, .ref am11, .ref am12, .int M_ran, .int M_actKind, .int M_actN, .int M_actA, .int M_isParted])), (am0, .inl (cy 0, 48, .inl z))] A) ([.ref am] : List Value).toArray s 0 0 A) (F0 m 9 ls []) := by
        intro u_s y1 y2 hf H locs hP hD hS ls hl
        have hf : (if (48 : Int32) ≤ y2 then (some (upd (upd (upd (upd (upd u_s (2 : Int32).toNatClampNeg y1) (4 : Int32).toNatClampNeg (3 : Int32)) (5 : Int32).toNatClampNeg (2 : Int32)) (6 : Int32).toNatClampNeg (90 : Int32)) (7 : Int32).toNatClampNeg (20 : Int32))) else (if y2 < 0 ∨ 48 ≤ y2.toNatClampNeg then none else k9 ((upd u_s y2.toNatClampNeg (0 : Int32)), y1, (y2 + (1 : Int32))))) = some z := hf
        refine lv_iload_n hx hb dX7_begins_9 rfl (lv_at hl 2 rfl) ?_
        refine lv_bipush (v := (48 : Int32)) hx hb dX7_begins_10 (by decide) ?_
        refine lv_icmp_ge (tgt := 28) hx hb dX7_begins_12 (by decide) (fun c_12 => ?_) (fun c_12 => ?_)
        · have hf := zp hf c_12
          refine lv_aload_n hx hb dX7_begins_28 rfl (lv_at hl 0 rfl) ?_
          refine va_get (D := D) (ci := 7) (v := .ref am0) (C := RX7) (T := TX7) (N := 26) hx hb hts hin7 hown hK hP 0 rfl rfl 0 (by decide) fl7 (fun _ h9 => h9) rfl dX7_begins_29 ?_
          refine lv_iconst (v := (2 : Int32)) hx hb dX7_begins_32 (by decide) ?_
          refine lv_iload_n hx hb dX7_begins_33 rfl (lv_at hl 1 rfl) ?_
          refine va_iast hx hb hK hP hD hS 1 0 rfl rfl vi_2_48 dX7_begins_34 (fun H locs hP hD hS => ?_)
          have hP : va_P D vwCl [(am, .inr (7, [.ref am0, .ref am1, .ref am2, .ref am3, .int M_isHeld, .ref am4, .int M_taped, .int M_token, .int M_from, .int M_to, .int M_value, .int M_isWrong, .ref am5, .int M_rowN, .ref am6, .ref am7, .ref am8, .ref am9, .ref am10, .ref am11, .ref am12, .int M_ran, .int M_actKind, .int M_actN, .int M_actA, .int M_isParted])), (am0, .inl (cy 0, 48, .inl (upd u_s (2 : Int32).toNatClampNeg y1)))] H := hP
          have hD : va_D A [(am, .inr (7, [.ref am0, .ref am1, .ref am2, .ref am3, .int M_isHeld, .ref am4, .int M_taped, .int M_token, .int M_from, .int M_to, .int M_value, .int M_isWrong, .ref am5, .int M_rowN, .ref am6, .ref am7, .ref am8, .ref am9, .ref am10, .ref am11, .ref am12, .int M_ran, .int M_actKind, .int M_actN, .int M_actA, .int M_isParted])), (am0, .inl (cy 0, 48, .inl (upd u_s (2 : Int32).toNatClampNeg y1)))] := hD
          refine lv_aload_n hx hb dX7_begins_35 rfl (lv_at hl 0 rfl) ?_
          refine va_get (D := D) (ci := 7) (v := .ref am0) (C := RX7) (T := TX7) (N := 26) hx hb hts hin7 hown hK hP 0 rfl rfl 0 (by decide) fl7 (fun _ h9 => h9) rfl dX7_begins_36 ?_
          refine lv_iconst (v := (4 : Int32)) hx hb dX7_begins_39 (by decide) ?_
          refine lv_iconst (v := (3 : Int32)) hx hb dX7_begins_40 (by decide) ?_
          refine va_iast hx hb hK hP hD hS 1 0 rfl rfl vi_4_48 dX7_begins_41 (fun H locs hP hD hS => ?_)
          have hP : va_P D vwCl [(am, .inr (7, [.ref am0, .ref am1, .ref am2, .ref am3, .int M_isHeld, .ref am4, .int M_taped, .int M_token, .int M_from, .int M_to, .int M_value, .int M_isWrong, .ref am5, .int M_rowN, .ref am6, .ref am7, .ref am8, .ref am9, .ref am10, .ref am11, .ref am12, .int M_ran, .int M_actKind, .int M_actN, .int M_actA, .int M_isParted])), (am0, .inl (cy 0, 48, .inl (upd (upd u_s (2 : Int32).toNatClampNeg y1) (4 : Int32).toNatClampNeg (3 : Int32))))] H := hP
          have hD : va_D A [(am, .inr (7, [.ref am0, .ref am1, .ref am2, .ref am3, .int M_isHeld, .ref am4, .int M_taped, .int M_token, .int M_from, .int M_to, .int M_value, .int M_isWrong, .ref am5, .int M_rowN, .ref am6, .ref am7, .ref am8, .ref am9, .ref am10, .ref am11, .ref am12, .int M_ran, .int M_actKind, .int M_actN, .int M_actA, .int M_isParted])), (am0, .inl (cy 0, 48, .inl (upd (upd u_s (2 : Int32).toNatClampNeg y1) (4 : Int32).toNatClampNeg (3 : Int32))))] := hD
          refine lv_aload_n hx hb dX7_begins_42 rfl (lv_at hl 0 rfl) ?_
          refine va_get (D := D) (ci := 7) (v := .ref am0) (C := RX7) (T := TX7) (N := 26) hx hb hts hin7 hown hK hP 0 rfl rfl 0 (by decide) fl7 (fun _ h9 => h9) rfl dX7_begins_43 ?_
          refine lv_iconst (v := (5 : Int32)) hx hb dX7_begins_46 (by decide) ?_
          refine lv_iconst (v := (2 : Int32)) hx hb dX7_begins_47 (by decide) ?_
          refine va_iast hx hb hK hP hD hS 1 0 rfl rfl vi_5_48 dX7_begins_48 (fun H locs hP hD hS => ?_)
          have hP : va_P D vwCl [(am, .inr (7, [.ref am0, .ref am1, .ref am2, .ref am3, .int M_isHeld, .ref am4, .int M_taped, .int M_token, .int M_from, .int M_to, .int M_value, .int M_isWrong, .ref am5, .int M_rowN, .ref am6, .ref am7, .ref am8, .ref am9, .ref am10, .ref am11, .ref am12, .int M_ran, .int M_actKind, .int M_actN, .int M_actA, .int M_isParted])), (am0, .inl (cy 0, 48, .inl (upd (upd (upd u_s (2 : Int32).toNatClampNeg y1) (4 : Int32).toNatClampNeg (3 : Int32)) (5 : Int32).toNatClampNeg (2 : Int32))))] H := hP
          have hD : va_D A [(am, .inr (7, [.ref am0, .ref am1, .ref am2, .ref am3, .int M_isHeld, .ref am4, .int M_taped, .int M_token, .int M_from, .int M_to, .int M_value, .int M_isWrong, .ref am5, .int M_rowN, .ref am6, .ref am7, .ref am8, .ref am9, .ref am10, .ref am11, .ref am12, .int M_ran, .int M_actKind, .int M_actN, .int M_actA, .int M_isParted])), (am0, .inl (cy 0, 48, .inl (upd (upd (upd u_s (2 : Int32).toNatClampNeg y1) (4 : Int32).toNatClampNeg (3 : Int32)) (5 : Int32).toNatClampNeg (2 : Int32))))] := hD
          refine lv_aload_n hx hb dX7_begins_49 rfl (lv_at hl 0 rfl) ?_
          refine va_get (D := D) (ci := 7) (v := .ref am0) (C := RX7) (T := TX7) (N := 26) hx hb hts hin7 hown hK hP 0 rfl rfl 0 (by decide) fl7 (fun _ h9 => h9) rfl dX7_begins_50 ?_
          refine lv_bipush (v := (6 : Int32)) hx hb dX7_begins_53 (by decide) ?_
          refine lv_bipush (v := (90 : Int32)) hx hb dX7_begins_55 (by decide) ?_
          refine va_iast hx hb hK hP hD hS 1 0 rfl rfl vi_6_48 dX7_begins_57 (fun H locs hP hD hS => ?_)
          have hP : va_P D vwCl [(am, .inr (7, [.ref am0, .ref am1, .ref am2, .ref am3, .int M_isHeld, .ref am4, .int M_taped, .int M_token, .int M_from, .int M_to, .int M_value, .int M_isWrong, .ref am5, .int M_rowN, .ref am6, .ref am7, .ref am8, .ref am9, .ref am10, .ref am11, .ref am12, .int M_ran, .int M_actKind, .int M_actN, .int M_actA, .int M_isParted])), (am0, .inl (cy 0, 48, .inl (upd (upd (upd (upd u_s (2 : Int32).toNatClampNeg y1) (4 : Int32).toNatClampNeg (3 : Int32)) (5 : Int32).toNatClampNeg (2 : Int32)) (6 : Int32).toNatClampNeg (90 : Int32))))] H := hP
          have hD : va_D A [(am, .inr (7, [.ref am0, .ref am1, .ref am2, .ref am3, .int M_isHeld, .ref am4, .int M_taped, .int M_token, .int M_from, .int M_to, .int M_value, .int M_isWrong, .ref am5, .int M_rowN, .ref am6, .ref am7, .ref am8, .ref am9, .ref am10, .ref am11, .ref am12, .int M_ran, .int M_actKind, .int M_actN, .int M_actA, .int M_isParted])), (am0, .inl (cy 0, 48, .inl (upd (upd (upd (upd u_s (2 : Int32).toNatClampNeg y1) (4 : Int32).toNatClampNeg (3 : Int32)) (5 : Int32).toNatClampNeg (2 : Int32)) (6 : Int32).toNatClampNeg (90 : Int32))))] := hD
          refine lv_aload_n hx hb dX7_begins_58 rfl (lv_at hl 0 rfl) ?_
          refine va_get (D := D) (ci := 7) (v := .ref am0) (C := RX7) (T := TX7) (N := 26) hx hb hts hin7 hown hK hP 0 rfl rfl 0 (by decide) fl7 (fun _ h9 => h9) rfl dX7_begins_59 ?_
          refine lv_bipush (v := (7 : Int32)) hx hb dX7_begins_62 (by decide) ?_
          refine lv_bipush (v := (20 : Int32)) hx hb dX7_begins_64 (by decide) ?_
          refine va_iast hx hb hK hP hD hS 1 0 rfl rfl vi_7_48 dX7_begins_66 (fun H locs hP hD hS => ?_)
          have hP : va_P D vwCl [(am, .inr (7, [.ref am0, .ref am1, .ref am2, .ref am3, .int M_isHeld, .ref am4, .int M_taped, .int M_token, .int M_from, .int M_to, .int M_value, .int M_isWrong, .ref am5, .int M_rowN, .ref am6, .ref am7, .ref am8, .ref am9, .ref am10, .ref am11, .ref am12, .int M_ran, .int M_actKind, .int M_actN, .int M_actA, .int M_isParted])), (am0, .inl (cy 0, 48, .inl (upd (upd (upd (upd (upd u_s (2 : Int32).toNatClampNeg y1) (4 : Int32).toNatClampNeg (3 : Int32)) (5 : Int32).toNatClampNeg (2 : Int32)) (6 : Int32).toNatClampNeg (90 : Int32)) (7 : Int32).toNatClampNeg (20 : Int32))))] H := hP
          have hD : va_D A [(am, .inr (7, [.ref am0, .ref am1, .ref am2, .ref am3, .int M_isHeld, .ref am4, .int M_taped, .int M_token, .int M_from, .int M_to, .int M_value, .int M_isWrong, .ref am5, .int M_rowN, .ref am6, .ref am7, .ref am8, .ref am9, .ref am10, .ref am11, .ref am12, .int M_ran, .int M_actKind, .int M_actN, .int M_actA, .int M_isParted])), (am0, .inl (cy 0, 48, .inl (upd (upd (upd (upd (upd u_s (2 : Int32).toNatClampNeg y1) (4 : Int32).toNatClampNeg (3 : Int32)) (5 : Int32).toNatClampNeg (2 : Int32)) (6 : Int32).toNatClampNeg (90 : Int32)) (7 : Int32).toNatClampNeg (20 : Int32))))] := hD
          exact W.vret hx hb hr (fun t ht hW => hfin (upd (upd (upd (upd (upd u_s (2 : Int32).toNatClampNeg y1) (4 : Int32).toNatClampNeg (3 : Int32)) (5 : Int32).toNatClampNeg (2 : Int32)) (6 : Int32).toNatClampNeg (90 : Int32)) (7 : Int32).toNatClampNeg (20 : Int32)) hf _ t ht hP (hS.F ht)) hS.2.2 dX7_begins_67
        · have hf := zn hf c_12
          refine lv_aload_n hx hb dX7_begins_15 rfl (lv_at hl 0 rfl) ?_
          refine va_get (D := D) (ci := 7) (v := .ref am0) (C := RX7) (T := TX7) (N := 26) hx hb hts hin7 hown hK hP 0 rfl rfl 0 (by decide) fl7 (fun _ h9 => h9) rfl dX7_begins_16 ?_
          refine lv_iload_n hx hb dX7_begins_19 rfl (lv_at hl 2 rfl) ?_
          refine lv_iconst (v := (0 : Int32)) hx hb dX7_begins_20 (by decide) ?_
          obtain ⟨h_21, hf⟩ := zg hf
          refine va_iast hx hb hK hP hD hS 1 0 rfl rfl h_21 dX7_begins_21 (fun H locs hP hD hS => ?_)
          have hP : va_P D vwCl [(am, .inr (7, [.ref am0, .ref am1, .ref am2, .ref am3, .int M_isHeld, .ref am4, .int M_taped, .int M_token, .int M_from, .int M_to, .int M_value, .int M_isWrong, .ref am5, .int M_rowN, .ref am6, .ref am7, .ref am8, .ref am9, .ref am10, .ref am11, .ref am12, .int M_ran, .int M_actKind, .int M_actN, .int M_actA, .int M_isParted])), (am0, .inl (cy 0, 48, .inl (upd u_s y2.toNatClampNeg (0 : Int32))))] H := hP
          have hD : va_D A [(am, .inr (7, [.ref am0, .ref am1, .ref am2, .ref am3, .int M_isHeld, .ref am4, .int M_taped, .int M_token, .int M_from, .int M_to, .int M_value, .int M_isWrong, .ref am5, .int M_rowN, .ref am6, .ref am7, .ref am8, .ref am9, .ref am10, .ref am11, .ref am12, .int M_ran, .int M_actKind, .int M_actN, .int M_actA, .int M_isParted])), (am0, .inl (cy 0, 48, .inl (upd u_s y2.toNatClampNeg (0 : Int32))))] := hD
          refine lv_iinc (v := (y2 + (1 : Int32))) (lv' := [(2, .int (y2 + (1 : Int32))), (0, .ref am), (1, .int y1)]) hx hb dX7_begins_22 hl (k := 2) rfl rfl (by decide) rfl (fun ls hl => ?_)
          refine lv_goto (tgt := 9) hx hb dX7_begins_25 (by decide) ?_
          exact hk9 (upd u_s y2.toNatClampNeg (0 : Int32)) y1 (y2 + (1 : Int32)) hf _ _ hP hD hS _ (lv_sub hl [1, 2, 0] rfl)
      exact fun v9 h9 => hstep v9.1 v9.2.1 v9.2.2 h9
    exact fun n0 u_s y1 y2 h9 => key n0 (u_s, y1, y2) h9
  have hl := lv_entry ([.ref am]) (n := 3) (Nat.le_of_ble_eq_true rfl)
  rw [lg_entry_eq]
  generalize (lg_sl ([.ref am]) ++ List.replicate (3 - (lg_sl ([.ref am])).length) Slot.unset).toArray = ls at hl ⊢
  have hl : lv_has ls 3 [(0, .ref am)] := hl
  have hf : (lpF (fX7_begins_F9 n (M_isHeld, M_taped, M_token, M_from, M_to, M_value, M_isWrong, M_rowN, M_ran, M_actKind, M_actN, M_actA, M_isParted) ) n (u_s, (u_s (2 : Int32).toNatClampNeg), (0 : Int32))) = some z := hf
  refine lv_aload_n hx hb dX7_begins_0 rfl (lv_at hl 0 rfl) ?_
  refine va_get (D := D) (ci := 7) (v := .ref am0) (C := RX7) (T := TX7) (N := 26) hx hb hts hin7 hown hK hP 0 rfl rfl 0 (by decide) fl7 (fun _ h9 => h9) rfl dX7_begins_1 ?_
  refine lv_iconst (v := (2 : Int32)) hx hb dX7_begins_4 (by decide) ?_
  refine va_iald hx hb hK hP 1 0 rfl rfl vi_2_48 dX7_begins_5 ?_
  refine lv_istore_n (lv' := [(1, .int (u_s (2 : Int32).toNatClampNeg)), (0, .ref am)]) hx hb dX7_begins_6 rfl hl (by decide) rfl (fun ls hl => ?_)
  refine lv_iconst (v := (0 : Int32)) hx hb dX7_begins_7 (by decide) ?_
  refine lv_istore_n (lv' := [(2, .int (0 : Int32)), (1, .int (u_s (2 : Int32).toNatClampNeg)), (0, .ref am)]) hx hb dX7_begins_8 rfl hl (by decide) rfl (fun ls hl => ?_)
  exact hL9 n u_s (u_s (2 : Int32).toNatClampNeg) (0 : Int32) hf _ _ hP hD hS _ (lv_sub hl [2, 1, 0] rfl)
set_option maxRecDepth 100000 in
set_option maxHeartbeats 100000000 in
theorem mX7_isIn (l : Launch) (D : va_G) (cy : Nat → ClassId) (st sk sv : Nat → Nat) (B : Nat)  (n : Nat)  (x0 : Int64) (x2 : Int64) (x4 : Int64) (z : Int32) (hf : fX7_isIn n x0 x2 x4 = some z) : Met l yX7_isIn wsX7_isIn ({ frames := 0, cells := 0, slots := 0, locals := 0 }) (PcR [.long x0, .long x2, .long x4] D cy st sk sv B []) (Qr (some (.int z))) 0 0 (fun _ => False) := by
  refine Met.ofW (cc := cX7_isIn) (maxL := 6) (ret := (some .boolean)) (by decide) rfl ?_
  intro p e s m args below meth c s₁ Bd hml hv
  obtain ⟨rfl, hP, hG⟩ := hv
  have hx := Bd.exec
  have hb := Bd.bytes
  have hr := Bd.returns
  have hts := atoms_spec (ws := wsX7_isIn) Bd.pre
  have hown : s.vm.findClass RX7 = some m.cls := findClass_of_methodNamed Bd.named
  have hlocks := Bd.notSynchronized
  have hK := hG.1
  have hS : va_S (fun q => B ≤ q) s.heap s.heap [] := va_S.rf
  have hAB : ∀ q, (fun q => B ≤ q) q → B ≤ q := fun _ h => h
  have hl := lv_entry ([.long x0, .long x2, .long x4]) (n := 6) (Nat.le_of_ble_eq_true rfl)
  rw [lg_entry_eq]
  generalize (lg_sl ([.long x0, .long x2, .long x4]) ++ List.replicate (6 - (lg_sl ([.long x0, .long x2, .long x4])).length) Slot.unset).toArray = ls at hl ⊢
  have hl : lv_has ls 6 [(0, .long x0), (2, .long x2), (4, .long x4)] := hl
  have hf : (if (lg_cmp x0 x2) < 0 then (some (0 : Int32)) else (if 0 < (lg_cmp x0 x4) then (some (0 : Int32)) else (some (1 : Int32)))) = some z := hf
  refine lv_lload_n hx hb dX7_isIn_0 rfl (lv_at hl 0 rfl) ?_
  refine lv_lload_n hx hb dX7_isIn_1 rfl (lv_at hl 1 rfl) ?_
  refine W.lcmp hx hb dX7_isIn_2 ?_
  refine lv_if_lt (tgt := 17) hx hb dX7_isIn_3 (by decide) (fun c_3 => ?_) (fun c_3 => ?_)
  · have hf := zp hf c_3
    refine lv_iconst (v := (0 : Int32)) hx hb dX7_isIn_17 (by decide) ?_
    cases hf
    exact W.zret hx hb hr rfl (fun t ht hW => ⟨rfl, ht⟩) (fun q h => absurd h List.not_mem_nil) dX7_isIn_18
  · have hf := zn hf c_3
    refine lv_lload_n hx hb dX7_isIn_6 rfl (lv_at hl 0 rfl) ?_
    refine lv_lload hx hb dX7_isIn_7 (lv_at hl 2 rfl) ?_
    refine W.lcmp hx hb dX7_isIn_9 ?_
    refine lv_if_gt (tgt := 17) hx hb dX7_isIn_10 (by decide) (fun c_10 => ?_) (fun c_10 => ?_)
    · have hf := zp hf c_10
      refine lv_iconst (v := (0 : Int32)) hx hb dX7_isIn_17 (by decide) ?_
      cases hf
      exact W.zret hx hb hr rfl (fun t ht hW => ⟨rfl, ht⟩) (fun q h => absurd h List.not_mem_nil) dX7_isIn_18
    · have hf := zn hf c_10
      refine lv_iconst (v := (1 : Int32)) hx hb dX7_isIn_13 (by decide) ?_
      refine lv_goto (tgt := 18) hx hb dX7_isIn_14 (by decide) ?_
      cases hf
      exact W.zret hx hb hr rfl (fun t ht hW => ⟨rfl, ht⟩) (fun q h => absurd h List.not_mem_nil) dX7_isIn_18
set_option maxRecDepth 100000 in
set_option maxHeartbeats 100000000 in
theorem mX7_isOne (l : Launch) (D : va_G) (cy : Nat → ClassId) (st sk sv : Nat → Nat) (B : Nat) (am : Nat) (am0 : Nat) (am1 : Nat) (am2 : Nat) (am3 : Nat) (am4 : Nat) (am5 : Nat) (am6 : Nat) (am7 : Nat) (am8 : Nat) (am9 : Nat) (am10 : Nat) (am11 : Nat) (am12 : Nat) (n : Nat) (M_isHeld : Int32) (M_taped : Int32) (M_token : Int32) (M_from : Int32) (M_to : Int32) (M_value : Int32) (M_isWrong : Int32) (M_rowN : Int32) (M_ran : Int32) (M_actKind : Int32) (M_actN : Int32) (M_actA : Int32) (M_isParted : Int32) (u_s : (Nat → Int32)) (x1 : Int32) (z : Int32) (hf : fX7_isOne n (M_isHeld, M_taped, M_token, M_from, M_to, M_value, M_isWrong, M_rowN, M_ran, M_actKind, M_actN, M_actA, M_isParted) u_s x1 = some z) : Met l yX7_isOne wsX7_isOne ({ frames := 0, cells := 0, slots := 0, locals := 0 }) (PcR [.ref am, .int x1] D cy st sk sv B [(am, .inr (7, [.ref am0, .ref am1, .ref am2, .ref am3, .int M_isHeld, .ref am4, .int M_taped, .int M_token, .int M_from, .int M_to, .int M_value, .int M_isWrong, .ref am5, .int M_rowN, .ref am6, .ref am7, .ref am8, .ref am9, .ref am10, .ref am11, .ref am12, .int M_ran, .int M_actKind, .int M_actN, .int M_actA, .int M_isParted])), (am0, .inl (cy 0, 48, .inl u_s))]) (Qr (some (.int z))) 0 0 (fun _ => False) := by
  refine Met.ofW (cc := cX7_isOne) (maxL := 2) (ret := (some .boolean)) (by decide) rfl ?_
  intro p e s m args below meth c s₁ Bd hml hv
  obtain ⟨rfl, hP, hG⟩ := hv
  have hx := Bd.exec
  have hb := Bd.bytes
  have hr := Bd.returns
  have hts := atoms_spec (ws := wsX7_isOne) Bd.pre
  have hown : s.vm.findClass RX7 = some m.cls := findClass_of_methodNamed Bd.named
  have hlocks := Bd.notSynchronized
  have hK := hG.1
  have hS : va_S (fun q => B ≤ q) s.heap s.heap [] := va_S.rf
  have hAB : ∀ q, (fun q => B ≤ q) q → B ≤ q := fun _ h => h
  have hin7 : ∀ w ∈ u_ws RX7 TX7 26, w ∈ wsX7_isOne := by decide +kernel
  have fl7 := hts (.fieldLink RX7 7 "KinCutleryModel" "s" "[I") (by decide +kernel)
  have hl := lv_entry ([.ref am, .int x1]) (n := 2) (Nat.le_of_ble_eq_true rfl)
  rw [lg_entry_eq]
  generalize (lg_sl ([.ref am, .int x1]) ++ List.replicate (2 - (lg_sl ([.ref am, .int x1])).length) Slot.unset).toArray = ls at hl ⊢
  have hl : lv_has ls 2 [(0, .ref am), (1, .int x1)] := hl
  have hf : (if x1 < 0 then (some (0 : Int32)) else (if (u_s (0 : Int32).toNatClampNeg) ≤ x1 then (some (0 : Int32)) else (some (1 : Int32)))) = some z := hf
  refine lv_iload_n hx hb dX7_isOne_0 rfl (lv_at hl 1 rfl) ?_
  refine lv_if_lt (tgt := 18) hx hb dX7_isOne_1 (by decide) (fun c_1 => ?_) (fun c_1 => ?_)
  · have hf := zp hf c_1
    refine lv_iconst (v := (0 : Int32)) hx hb dX7_isOne_18 (by decide) ?_
    cases hf
    exact W.zret hx hb hr rfl (fun t ht hW => ⟨rfl, ht⟩) (fun q h => absurd h List.not_mem_nil) dX7_isOne_19
  · have hf := zn hf c_1
    refine lv_iload_n hx hb dX7_isOne_4 rfl (lv_at hl 1 rfl) ?_
    refine lv_aload_n hx hb dX7_isOne_5 rfl (lv_at hl 0 rfl) ?_
    refine va_get (D := D) (ci := 7) (v := .ref am0) (C := RX7) (T := TX7) (N := 26) hx hb hts hin7 hown hK hP 0 rfl rfl 0 (by decide) fl7 (fun _ h9 => h9) rfl dX7_isOne_6 ?_
    refine lv_iconst (v := (0 : Int32)) hx hb dX7_isOne_9 (by decide) ?_
    refine va_iald hx hb hK hP 1 0 rfl rfl vi_0_48 dX7_isOne_10 ?_
    refine lv_icmp_ge (tgt := 18) hx hb dX7_isOne_11 (by decide) (fun c_11 => ?_) (fun c_11 => ?_)
    · have hf := zp hf c_11
      refine lv_iconst (v := (0 : Int32)) hx hb dX7_isOne_18 (by decide) ?_
      cases hf
      exact W.zret hx hb hr rfl (fun t ht hW => ⟨rfl, ht⟩) (fun q h => absurd h List.not_mem_nil) dX7_isOne_19
    · have hf := zn hf c_11
      refine lv_iconst (v := (1 : Int32)) hx hb dX7_isOne_14 (by decide) ?_
      refine lv_goto (tgt := 19) hx hb dX7_isOne_15 (by decide) ?_
      cases hf
      exact W.zret hx hb hr rfl (fun t ht hW => ⟨rfl, ht⟩) (fun q h => absurd h List.not_mem_nil) dX7_isOne_19
set_option maxRecDepth 100000 in
set_option maxHeartbeats 100000000 in
theorem mX7_its (l : Launch) (D : va_G) (cy : Nat → ClassId) (st sk sv : Nat → Nat) (B : Nat) (am : Nat) (am0 : Nat) (am1 : Nat) (am2 : Nat) (am3 : Nat) (am4 : Nat) (am5 : Nat) (am6 : Nat) (am7 : Nat) (am8 : Nat) (am9 : Nat) (am10 : Nat) (am11 : Nat) (am12 : Nat) (n : Nat) (M_isHeld : Int32) (M_taped : Int32) (M_token : Int32) (M_from : Int32) (M_to : Int32) (M_value : Int32) (M_isWrong : Int32) (M_rowN : Int32) (M_ran : Int32) (M_actKind : Int32) (M_actN : Int32) (M_actA : Int32) (M_isParted : Int32) (u_s : (Nat → Int32)) (x1 : Int32) (x2 : Int32) (z : Int32) (hf : fX7_its n (M_isHeld, M_taped, M_token, M_from, M_to, M_value, M_isWrong, M_rowN, M_ran, M_actKind, M_actN, M_actA, M_isParted) u_s x1 x2 = some z) : Met l yX7_its wsX7_its ({ frames := 0, cells := 0, slots := 0, locals := 0 }) (PcR [.ref am, .int x1, .int x2] D cy st sk sv B [(am, .inr (7, [.ref am0, .ref am1, .ref am2, .ref am3, .int M_isHeld, .ref am4, .int M_taped, .int M_token, .int M_from, .int M_to, .int M_value, .int M_isWrong, .ref am5, .int M_rowN, .ref am6, .ref am7, .ref am8, .ref am9, .ref am10, .ref am11, .ref am12, .int M_ran, .int M_actKind, .int M_actN, .int M_actA, .int M_isParted])), (am0, .inl (cy 0, 48, .inl u_s))]) (Qr (some (.int z))) 0 0 (fun _ => False) := by
  refine Met.ofW (cc := cX7_its) (maxL := 3) (ret := (some .int)) (by decide) rfl ?_
  intro p e s m args below meth c s₁ Bd hml hv
  obtain ⟨rfl, hP, hG⟩ := hv
  have hx := Bd.exec
  have hb := Bd.bytes
  have hr := Bd.returns
  have hts := atoms_spec (ws := wsX7_its) Bd.pre
  have hown : s.vm.findClass RX7 = some m.cls := findClass_of_methodNamed Bd.named
  have hlocks := Bd.notSynchronized
  have hK := hG.1
  have hS : va_S (fun q => B ≤ q) s.heap s.heap [] := va_S.rf
  have hAB : ∀ q, (fun q => B ≤ q) q → B ≤ q := fun _ h => h
  have hin7 : ∀ w ∈ u_ws RX7 TX7 26, w ∈ wsX7_its := by decide +kernel
  have fl7 := hts (.fieldLink RX7 7 "KinCutleryModel" "s" "[I") (by decide +kernel)
  have hl := lv_entry ([.ref am, .int x1, .int x2]) (n := 3) (Nat.le_of_ble_eq_true rfl)
  rw [lg_entry_eq]
  generalize (lg_sl ([.ref am, .int x1, .int x2]) ++ List.replicate (3 - (lg_sl ([.ref am, .int x1, .int x2])).length) Slot.unset).toArray = ls at hl ⊢
  have hl : lv_has ls 3 [(0, .ref am), (1, .int x1), (2, .int x2)] := hl
  have hf : (if (((8 : Int32) + ((5 : Int32) * x1)) + x2) < 0 ∨ 48 ≤ (((8 : Int32) + ((5 : Int32) * x1)) + x2).toNatClampNeg then none else some (u_s (((8 : Int32) + ((5 : Int32) * x1)) + x2).toNatClampNeg)) = some z := hf
  refine lv_aload_n hx hb dX7_its_0 rfl (lv_at hl 0 rfl) ?_
  refine va_get (D := D) (ci := 7) (v := .ref am0) (C := RX7) (T := TX7) (N := 26) hx hb hts hin7 hown hK hP 0 rfl rfl 0 (by decide) fl7 (fun _ h9 => h9) rfl dX7_its_1 ?_
  refine lv_bipush (v := (8 : Int32)) hx hb dX7_its_4 (by decide) ?_
  refine lv_iconst (v := (5 : Int32)) hx hb dX7_its_6 (by decide) ?_
  refine lv_iload_n hx hb dX7_its_7 rfl (lv_at hl 1 rfl) ?_
  refine lv_imul hx hb dX7_its_8 ?_
  refine lv_iadd hx hb dX7_its_9 ?_
  refine lv_iload_n hx hb dX7_its_10 rfl (lv_at hl 2 rfl) ?_
  refine lv_iadd hx hb dX7_its_11 ?_
  obtain ⟨h_12, hf⟩ := zg hf
  refine va_iald hx hb hK hP 1 0 rfl rfl h_12 dX7_its_12 ?_
  cases hf
  exact W.iret hx hb hr (fun t ht hW => ⟨rfl, ht⟩) (fun q h => absurd h List.not_mem_nil) dX7_its_13
set_option maxRecDepth 100000 in
set_option maxHeartbeats 100000000 in
theorem mX7_becomes (l : Launch) (D : va_G) (cy : Nat → ClassId) (st sk sv : Nat → Nat) (B : Nat) (am : Nat) (am0 : Nat) (am1 : Nat) (am2 : Nat) (am3 : Nat) (am4 : Nat) (am5 : Nat) (am6 : Nat) (am7 : Nat) (am8 : Nat) (am9 : Nat) (am10 : Nat) (am11 : Nat) (am12 : Nat) (sz : Nat) (n : Nat) (M_isHeld : Int32) (M_taped : Int32) (M_token : Int32) (M_from : Int32) (M_to : Int32) (M_value : Int32) (M_isWrong : Int32) (M_rowN : Int32) (M_ran : Int32) (M_actKind : Int32) (M_actN : Int32) (M_actA : Int32) (M_isParted : Int32) (u_s : (Nat → Int32)) (x1 : Int32) (x2 : Int32) (z : Int32 × (Nat → Int32)) (hf : fX7_becomes n (M_isHeld, M_taped, M_token, M_from, M_to, M_value, M_isWrong, M_rowN, M_ran, M_actKind, M_actN, M_actA, M_isParted) u_s x1 x2 = some z) : Met l yX7_becomes wsX7_becomes ({ frames := 0, cells := 0, slots := 0, locals := 0 }) (PcW [.ref am, .int x1, .int x2] D cy st sk sv B sz [(am, .inr (7, [.ref am0, .ref am1, .ref am2, .ref am3, .int M_isHeld, .ref am4, .int M_taped, .int M_token, .int M_from, .int M_to, .int M_value, .int M_isWrong, .ref am5, .int M_rowN, .ref am6, .ref am7, .ref am8, .ref am9, .ref am10, .ref am11, .ref am12, .int M_ran, .int M_actKind, .int M_actN, .int M_actA, .int M_isParted])), (am0, .inl (cy 0, 48, .inl u_s))]) (Qw (some (.int z.1)) D [(am, .inr (7, [.ref am0, .ref am1, .ref am2, .ref am3, .int M_isHeld, .ref am4, .int M_taped, .int M_token, .int M_from, .int M_to, .int M_value, .int M_isWrong, .ref am5, .int M_rowN, .ref am6, .ref am7, .ref am8, .ref am9, .ref am10, .ref am11, .ref am12, .int M_ran, .int M_actKind, .int M_actN, .int M_actA, .int M_isParted])), (am0, .inl (cy 0, 48, .inl z.2))] (va_A [(am, .inr (7, [.ref am0, .ref am1, .ref am2, .ref am3, .int M_isHeld, .ref am4, .int M_taped, .int M_token, .int M_from, .int M_to, .int M_value, .int M_isWrong, .ref am5, .int M_rowN, .ref am6, .ref am7, .ref am8, .ref am9, .ref am10, .ref am11, .ref am12, .int M_ran, .int M_actKind, .int M_actN, .int M_actA, .int M_isParted])), (am0, .inl (cy 0, 48, .inl u_s))] sz)) 0 0 (va_A [(am, .inr (7, [.ref am0, .ref am1, .ref am2, .ref am3, .int M_isHeld, .ref am4, .int M_taped, .int M_token, .int M_from, .int M_to, .int M_value, .int M_isWrong, .ref am5, .int M_rowN, .ref am6, .ref am7, .ref am8, .ref am9, .ref am10, .ref am11, .ref am12, .int M_ran, .int M_actKind, .int M_actN, .int M_actA, .int M_isParted])), (am0, .inl (cy 0, 48, .inl u_s))] sz) := by
  refine Met.ofW (cc := cX7_becomes) (maxL := 4) (ret := (some .int)) (by decide) rfl ?_
  intro p e s m args below meth c s₁ Bd hml hv
  obtain ⟨rfl, hsz, hP, hD0, hBs, hG⟩ := hv
  have hx := Bd.exec
  have hb := Bd.bytes
  have hr := Bd.returns
  have hts := atoms_spec (ws := wsX7_becomes) Bd.pre
  have hown : s.vm.findClass RX7 = some m.cls := findClass_of_methodNamed Bd.named
  have hlocks := Bd.notSynchronized
  have hK := hG.1
  subst hsz
  have hD := hD0.self (sz := s.heap.size)
  have hAB0 := zA hD0 hBs
  generalize hAe : va_A [(am, .inr (7, [.ref am0, .ref am1, .ref am2, .ref am3, .int M_isHeld, .ref am4, .int M_taped, .int M_token, .int M_from, .int M_to, .int M_value, .int M_isWrong, .ref am5, .int M_rowN, .ref am6, .ref am7, .ref am8, .ref am9, .ref am10, .ref am11, .ref am12, .int M_ran, .int M_actKind, .int M_actN, .int M_actA, .int M_isParted])), (am0, .inl (cy 0, 48, .inl u_s))] s.heap.size = A at hD hAB0 ⊢
  have hA : ∀ q : Nat, s.heap.size ≤ q → A q := fun q h => by rw [← hAe]; exact Or.inr h
  have hAB : ∀ q, A q → B ≤ q := hAB0
  have hS : va_S A s.heap s.heap [] := va_S.rf
  have hfin : ∀ (z0 : Int32) (u_s : (Nat → Int32)), some (z0, u_s) = some z → ∀ (H : Heap) (t : State), t.heap = H → va_P D vwCl [(am, .inr (7, [.ref am0, .ref am1, .ref am2, .ref am3, .int M_isHeld, .ref am4, .int M_taped, .int M_token, .int M_from, .int M_to, .int M_value, .int M_isWrong, .ref am5, .int M_rowN, .ref am6, .ref am7, .ref am8, .ref am9, .ref am10, .ref am11, .ref am12, .int M_ran, .int M_actKind, .int M_actN, .int M_actA, .int M_isParted])), (am0, .inl (cy 0, 48, .inl u_s))] H → va_F A s t → Qw (some (.int z.1)) D [(am, .inr (7, [.ref am0, .ref am1, .ref am2, .ref am3, .int M_isHeld, .ref am4, .int M_taped, .int M_token, .int M_from, .int M_to, .int M_value, .int M_isWrong, .ref am5, .int M_rowN, .ref am6, .ref am7, .ref am8, .ref am9, .ref am10, .ref am11, .ref am12, .int M_ran, .int M_actKind, .int M_actN, .int M_actA, .int M_isParted])), (am0, .inl (cy 0, 48, .inl z.2))] A ([.ref am, .int x1, .int x2] : List Value).toArray s (.returned (some (.int z0))) t := by
    intro z0 u_s h9 H t ht hP hF
    cases h9
    exact ⟨rfl, by rw [ht]; exact hP, hF⟩
  have hin7 : ∀ w ∈ u_ws RX7 TX7 26, w ∈ wsX7_becomes := by decide +kernel
  have fl7 := hts (.fieldLink RX7 7 "KinCutleryModel" "s" "[I") (by decide +kernel)
  have hl := lv_entry ([.ref am, .int x1, .int x2]) (n := 4) (Nat.le_of_ble_eq_true rfl)
  rw [lg_entry_eq]
  generalize (lg_sl ([.ref am, .int x1, .int x2]) ++ List.replicate (4 - (lg_sl ([.ref am, .int x1, .int x2])).length) Slot.unset).toArray = ls at hl ⊢
  have hl : lv_has ls 4 [(0, .ref am), (1, .int x1), (2, .int x2)] := hl
  have hf : (if x1 < 0 ∨ 48 ≤ x1.toNatClampNeg then none else if x1 < 0 ∨ 48 ≤ x1.toNatClampNeg then none else some ((u_s x1.toNatClampNeg), (upd u_s x1.toNatClampNeg x2))) = some z := hf
  refine lv_aload_n hx hb dX7_becomes_0 rfl (lv_at hl 0 rfl) ?_
  refine va_get (D := D) (ci := 7) (v := .ref am0) (C := RX7) (T := TX7) (N := 26) hx hb hts hin7 hown hK hP 0 rfl rfl 0 (by decide) fl7 (fun _ h9 => h9) rfl dX7_becomes_1 ?_
  refine lv_iload_n hx hb dX7_becomes_4 rfl (lv_at hl 1 rfl) ?_
  obtain ⟨h_5, hf⟩ := zg hf
  refine va_iald hx hb hK hP 1 0 rfl rfl h_5 dX7_becomes_5 ?_
  refine lv_istore_n (lv' := [(3, .int (u_s x1.toNatClampNeg)), (0, .ref am), (1, .int x1), (2, .int x2)]) hx hb dX7_becomes_6 rfl hl (by decide) rfl (fun ls hl => ?_)
  refine lv_aload_n hx hb dX7_becomes_7 rfl (lv_at hl 1 rfl) ?_
  refine va_get (D := D) (ci := 7) (v := .ref am0) (C := RX7) (T := TX7) (N := 26) hx hb hts hin7 hown hK hP 0 rfl rfl 0 (by decide) fl7 (fun _ h9 => h9) rfl dX7_becomes_8 ?_
  refine lv_iload_n hx hb dX7_becomes_11 rfl (lv_at hl 2 rfl) ?_
  refine lv_iload_n hx hb dX7_becomes_12 rfl (lv_at hl 3 rfl) ?_
  obtain ⟨h_13, hf⟩ := zg hf
  refine va_iast hx hb hK hP hD hS 1 0 rfl rfl h_13 dX7_becomes_13 (fun H locs hP hD hS => ?_)
  have hP : va_P D vwCl [(am, .inr (7, [.ref am0, .ref am1, .ref am2, .ref am3, .int M_isHeld, .ref am4, .int M_taped, .int M_token, .int M_from, .int M_to, .int M_value, .int M_isWrong, .ref am5, .int M_rowN, .ref am6, .ref am7, .ref am8, .ref am9, .ref am10, .ref am11, .ref am12, .int M_ran, .int M_actKind, .int M_actN, .int M_actA, .int M_isParted])), (am0, .inl (cy 0, 48, .inl (upd u_s x1.toNatClampNeg x2)))] H := hP
  have hD : va_D A [(am, .inr (7, [.ref am0, .ref am1, .ref am2, .ref am3, .int M_isHeld, .ref am4, .int M_taped, .int M_token, .int M_from, .int M_to, .int M_value, .int M_isWrong, .ref am5, .int M_rowN, .ref am6, .ref am7, .ref am8, .ref am9, .ref am10, .ref am11, .ref am12, .int M_ran, .int M_actKind, .int M_actN, .int M_actA, .int M_isParted])), (am0, .inl (cy 0, 48, .inl (upd u_s x1.toNatClampNeg x2)))] := hD
  refine lv_iload_n hx hb dX7_becomes_14 rfl (lv_at hl 0 rfl) ?_
  exact W.iret hx hb hr (fun t ht hW => hfin (u_s x1.toNatClampNeg) (upd u_s x1.toNatClampNeg x2) hf _ t ht hP (hS.F ht)) hS.2.2 dX7_becomes_15
set_option maxRecDepth 100000 in
set_option maxHeartbeats 100000000 in
theorem mX7_copyRow (l : Launch) (D : va_G) (cy : Nat → ClassId) (st sk sv : Nat → Nat) (B : Nat) (ap : Nat) (aq : Nat) (sz : Nat) (n : Nat) (up : (Nat → Int32)) (uq : (Nat → Int32))  (z : (Nat → Int32)) (hf : fX7_copyRow n up uq = some z) : Met l yX7_copyRow wsX7_copyRow ({ frames := 0, cells := 0, slots := 0, locals := 0 }) (PcW [.ref ap, .ref aq] D cy st sk sv B sz [(ap, .inl (cy 0, 48, .inl up)), (aq, .inl (cy 0, 48, .inl uq))]) (Qw (none) D [(ap, .inl (cy 0, 48, .inl up)), (aq, .inl (cy 0, 48, .inl z))] (va_A [(ap, .inl (cy 0, 48, .inl up)), (aq, .inl (cy 0, 48, .inl uq))] sz)) 0 0 (va_A [(ap, .inl (cy 0, 48, .inl up)), (aq, .inl (cy 0, 48, .inl uq))] sz) := by
  refine Met.ofW (cc := cX7_copyRow) (maxL := 3) (ret := none) (by decide) rfl ?_
  intro p e s m args below meth c s₁ Bd hml hv
  obtain ⟨rfl, hsz, hP, hD0, hBs, hG⟩ := hv
  have hx := Bd.exec
  have hb := Bd.bytes
  have hr := Bd.returns
  have hts := atoms_spec (ws := wsX7_copyRow) Bd.pre
  have hown : s.vm.findClass RX7 = some m.cls := findClass_of_methodNamed Bd.named
  have hlocks := Bd.notSynchronized
  have hK := hG.1
  subst hsz
  have hD := hD0.self (sz := s.heap.size)
  have hAB0 := zA hD0 hBs
  generalize hAe : va_A [(ap, .inl (cy 0, 48, .inl up)), (aq, .inl (cy 0, 48, .inl uq))] s.heap.size = A at hD hAB0 ⊢
  have hA : ∀ q : Nat, s.heap.size ≤ q → A q := fun q h => by rw [← hAe]; exact Or.inr h
  have hAB : ∀ q, A q → B ≤ q := hAB0
  have hS : va_S A s.heap s.heap [] := va_S.rf
  have hfin : ∀ (uq : (Nat → Int32)), some uq = some z → ∀ (H : Heap) (t : State), t.heap = H → va_P D vwCl [(ap, .inl (cy 0, 48, .inl up)), (aq, .inl (cy 0, 48, .inl uq))] H → va_F A s t → Qw (none) D [(ap, .inl (cy 0, 48, .inl up)), (aq, .inl (cy 0, 48, .inl z))] A ([.ref ap, .ref aq] : List Value).toArray s (.returned (none)) t := by
    intro uq h9 H t ht hP hF
    cases h9
    exact ⟨rfl, by rw [ht]; exact hP, hF⟩
  have hL2 : ∀ (n0 : Nat) (uq : (Nat → Int32)) (y2 : Int32), lpF (fX7_copyRow_F2 n up ) n0 (uq, y2) = some z → ∀ (H : Heap) (locs : List Loc), va_P D vwCl [(ap, .inl (cy 0, 48, .inl up)), (aq, .inl (cy 0, 48, .inl uq))] H → va_D A [(ap, .inl (cy 0, 48, .inl up)), (aq, .inl (cy 0, 48, .inl uq))] → va_S A s.heap H locs → ∀ (ls : Array Slot), lv_has ls 3 [(0, .ref ap), (1, .ref aq), (2, .int y2)] → W p l e (headSpec wsX7_copyRow ({ frames := 0, cells := 0, slots := 0, locals := 0 })).room s m ([.ref ap, .ref aq] : List Value).toArray below meth c H locs 0 0 (MQ below (Qw (none) D [(ap, .inl (cy 0, 48, .inl up)), (aq, .inl (cy 0, 48, .inl z))] A) ([.ref ap, .ref aq] : List Value).toArray s 0 0 A) (F0 m 2 ls []) := by
    have key : ∀ (n0 : Nat) (v2 : (Nat → Int32) × Int32), lpF (fX7_copyRow_F2 n up ) n0 v2 = some z → ∀ (H : Heap) (locs : List Loc), va_P D vwCl [(ap, .inl (cy 0, 48, .inl up)), (aq, .inl (cy 0, 48, .inl v2.1))] H → va_D A [(ap, .inl (cy 0, 48, .inl up)), (aq, .inl (cy 0, 48, .inl v2.1))] → va_S A s.heap H locs → ∀ (ls : Array Slot), lv_has ls 3 [(0, .ref ap), (1, .ref aq), (2, .int v2.2)] → W p l e (headSpec wsX7_copyRow ({ frames := 0, cells := 0, slots := 0, locals := 0 })).room s m ([.ref ap, .ref aq] : List Value).toArray below meth c H locs 0 0 (MQ below (Qw (none) D [(ap, .inl (cy 0, 48, .inl up)), (aq, .inl (cy 0, 48, .inl z))] A) ([.ref ap, .ref aq] : List Value).toArray s 0 0 A) (F0 m 2 ls []) := by
      refine lpW ?_
      intro k2 hk20
      have hk2 : ∀ (uq : (Nat → Int32)) (y2 : Int32), k2 (uq, y2) = some z → ∀ (H : Heap) (locs : List Loc), va_P D vwCl [(ap, .inl (cy 0, 48, .inl up)), (aq, .inl (cy 0, 48, .inl uq))] H → va_D A [(ap, .inl (cy 0, 48, .inl up)), (aq, .inl (cy 0, 48, .inl uq))] → va_S A s.heap H locs → ∀ (ls : Array Slot), lv_has ls 3 [(0, .ref ap), (1, .ref aq), (2, .int y2)] → W p l e (headSpec wsX7_copyRow ({ frames := 0, cells := 0, slots := 0, locals := 0 })).room s m ([.ref ap, .ref aq] : List Value).toArray below meth c H locs 0 0 (MQ below (Qw (none) D [(ap, .inl (cy 0, 48, .inl up)), (aq, .inl (cy 0, 48, .inl z))] A) ([.ref ap, .ref aq] : List Value).toArray s 0 0 A) (F0 m 2 ls []) := fun uq y2 h9 => hk20 (uq, y2) h9
      have hstep : ∀ (uq : (Nat → Int32)) (y2 : Int32), fX7_copyRow_F2 n up  k2 (uq, y2) = some z → ∀ (H : Heap) (locs : List Loc), va_P D vwCl [(ap, .inl (cy 0, 48, .inl up)), (aq, .inl (cy 0, 48, .inl uq))] H → va_D A [(ap, .inl (cy 0, 48, .inl up)), (aq, .inl (cy 0, 48, .inl uq))] → va_S A s.heap H locs → ∀ (ls : Array Slot), lv_has ls 3 [(0, .ref ap), (1, .ref aq), (2, .int y2)] → W p l e (headSpec wsX7_copyRow ({ frames := 0, cells := 0, slots := 0, locals := 0 })).room s m ([.ref ap, .ref aq] : List Value).toArray below meth c H locs 0 0 (MQ below (Qw (none) D [(ap, .inl (cy 0, 48, .inl up)), (aq, .inl (cy 0, 48, .inl z))] A) ([.ref ap, .ref aq] : List Value).toArray s 0 0 A) (F0 m 2 ls []) := by
        intro uq y2 hf H locs hP hD hS ls hl
        have hf : (if (48 : Int32) ≤ y2 then (some uq) else (if y2 < 0 ∨ 48 ≤ y2.toNatClampNeg then none else if y2 < 0 ∨ 48 ≤ y2.toNatClampNeg then none else k2 ((upd uq y2.toNatClampNeg (up y2.toNatClampNeg)), (y2 + (1 : Int32))))) = some z := hf
        refine lv_iload_n hx hb dX7_copyRow_2 rfl (lv_at hl 2 rfl) ?_
        refine lv_bipush (v := (48 : Int32)) hx hb dX7_copyRow_3 (by decide) ?_
        refine lv_icmp_ge (tgt := 20) hx hb dX7_copyRow_5 (by decide) (fun c_5 => ?_) (fun c_5 => ?_)
        · have hf := zp hf c_5
          exact W.vret hx hb hr (fun t ht hW => hfin uq hf _ t ht hP (hS.F ht)) hS.2.2 dX7_copyRow_20
        · have hf := zn hf c_5
          refine lv_aload_n hx hb dX7_copyRow_8 rfl (lv_at hl 1 rfl) ?_
          refine lv_iload_n hx hb dX7_copyRow_9 rfl (lv_at hl 2 rfl) ?_
          refine lv_aload_n hx hb dX7_copyRow_10 rfl (lv_at hl 0 rfl) ?_
          refine lv_iload_n hx hb dX7_copyRow_11 rfl (lv_at hl 2 rfl) ?_
          obtain ⟨h_12, hf⟩ := zg hf
          refine va_iald hx hb hK hP 0 0 rfl rfl h_12 dX7_copyRow_12 ?_
          obtain ⟨h_13, hf⟩ := zg hf
          refine va_iast hx hb hK hP hD hS 1 0 rfl rfl h_13 dX7_copyRow_13 (fun H locs hP hD hS => ?_)
          have hP : va_P D vwCl [(ap, .inl (cy 0, 48, .inl up)), (aq, .inl (cy 0, 48, .inl (upd uq y2.toNatClampNeg (up y2.toNatClampNeg))))] H := hP
          have hD : va_D A [(ap, .inl (cy 0, 48, .inl up)), (aq, .inl (cy 0, 48, .inl (upd uq y2.toNatClampNeg (up y2.toNatClampNeg))))] := hD
          refine lv_iinc (v := (y2 + (1 : Int32))) (lv' := [(2, .int (y2 + (1 : Int32))), (0, .ref ap), (1, .ref aq)]) hx hb dX7_copyRow_14 hl (k := 2) rfl rfl (by decide) rfl (fun ls hl => ?_)
          refine lv_goto (tgt := 2) hx hb dX7_copyRow_17 (by decide) ?_
          exact hk2 (upd uq y2.toNatClampNeg (up y2.toNatClampNeg)) (y2 + (1 : Int32)) hf _ _ hP hD hS _ (lv_sub hl [1, 2, 0] rfl)
      exact fun v2 h9 => hstep v2.1 v2.2 h9
    exact fun n0 uq y2 h9 => key n0 (uq, y2) h9
  have hl := lv_entry ([.ref ap, .ref aq]) (n := 3) (Nat.le_of_ble_eq_true rfl)
  rw [lg_entry_eq]
  generalize (lg_sl ([.ref ap, .ref aq]) ++ List.replicate (3 - (lg_sl ([.ref ap, .ref aq])).length) Slot.unset).toArray = ls at hl ⊢
  have hl : lv_has ls 3 [(0, .ref ap), (1, .ref aq)] := hl
  have hf : (lpF (fX7_copyRow_F2 n up ) n (uq, (0 : Int32))) = some z := hf
  refine lv_iconst (v := (0 : Int32)) hx hb dX7_copyRow_0 (by decide) ?_
  refine lv_istore_n (lv' := [(2, .int (0 : Int32)), (0, .ref ap), (1, .ref aq)]) hx hb dX7_copyRow_1 rfl hl (by decide) rfl (fun ls hl => ?_)
  exact hL2 n uq (0 : Int32) hf _ _ hP hD hS _ (lv_sub hl [1, 2, 0] rfl)
