set_option maxRecDepth 100000 in
set_option maxHeartbeats 100000000 in
theorem mX6_item (l : Launch) (D : va_G) (cy : Nat → ClassId) (st sk sv : Nat → Nat) (B : Nat) (ak : Nat) (an0 : Nat) (ay0 : Nat) (ae0 : Nat) (aa0 : Nat) (aw0 : Nat) (as0 : Nat) (af0 : Nat) (ag0 : Nat) (aS : Nat → Nat) (aI : Nat → Nat) (n : Nat) (uK : Int32) (S_items : (Nat → Nat → Int64)) (S_sort : (Nat → Int32)) (S_length : (Nat → Int32)) (x1 : Int32) (x2 : Int32) (x3 : Int32) (z : Int32) (hf : fX6_item n uK (S_items, S_sort, S_length) x1 x2 x3 = some z) : Met l yX6_item wsX6_item ({ frames := 1, cells := 0, slots := 0, locals := 22 }) (PcR [.ref ak, .int x1, .int x2, .int x3] D cy st sk sv B [(ak, .inr (6, [.ref an0, .ref ay0, .ref ae0, .int uK, .ref aa0, .ref aw0, .ref as0, .ref af0, .ref ag0])), (as0, .inl (cy 3, 4, .inr (.inr (.inr (.inr (fun j => some (aS j))))))), ((aS 0), .inr (1, [.ref (aI 0), .int (S_sort 0), .int (S_length 0)])), ((aI 0), .inl (cy 2, 40, .inr (.inl (S_items 0)))), ((aS 1), .inr (1, [.ref (aI 1), .int (S_sort 1), .int (S_length 1)])), ((aI 1), .inl (cy 2, 40, .inr (.inl (S_items 1)))), ((aS 2), .inr (1, [.ref (aI 2), .int (S_sort 2), .int (S_length 2)])), ((aI 2), .inl (cy 2, 40, .inr (.inl (S_items 2)))), ((aS 3), .inr (1, [.ref (aI 3), .int (S_sort 3), .int (S_length 3)])), ((aI 3), .inl (cy 2, 40, .inr (.inl (S_items 3))))]) (Qr (some (.int z))) 0 0 (fun _ => False) := by
  refine Met.ofW (cc := cX6_item) (maxL := 5) (ret := (some .int)) (by decide) rfl ?_
  intro p e s m args below meth c s₁ Bd hml hv
  obtain ⟨rfl, hP, hG⟩ := hv
  have hx := Bd.exec
  have hb := Bd.bytes
  have hr := Bd.returns
  have hts := atoms_spec (ws := wsX6_item) Bd.pre
  have hown : s.vm.findClass RX6 = some m.cls := findClass_of_methodNamed Bd.named
  have hlocks := Bd.notSynchronized
  have hK := hG.1
  have hS : va_S (fun q => B ≤ q) s.heap s.heap [] := va_S.rf
  have hAB : ∀ q, (fun q => B ≤ q) q → B ≤ q := fun _ h => h
  have hin1 : ∀ w ∈ u_ws RX1 TX1 3, w ∈ wsX6_item := by decide +kernel
  have hin6 : ∀ w ∈ u_ws RX6 TX6 9, w ∈ wsX6_item := by decide +kernel
  have fl38 := hts (.fieldLink RX6 38 "KinCutlery" "sheets" "[LKinCutlery$Sheet;") (by decide +kernel)
  have fl203 := hts (.fieldLink RX6 203 "KinCutlery$Sheet" "sort" "I") (by decide +kernel)
  have fl210 := hts (.fieldLink RX6 210 "KinCutlery$Sheet" "length" "I") (by decide +kernel)
  have fl211 := hts (.fieldLink RX6 211 "KinCutlery$Sheet" "items" "[J") (by decide +kernel)
  have hl := lv_entry ([.ref ak, .int x1, .int x2, .int x3]) (n := 5) (Nat.le_of_ble_eq_true rfl)
  rw [lg_entry_eq]
  generalize (lg_sl ([.ref ak, .int x1, .int x2, .int x3]) ++ List.replicate (5 - (lg_sl ([.ref ak, .int x1, .int x2, .int x3])).length) Slot.unset).toArray = ls at hl ⊢
  have hl : lv_has ls 5 [(0, .ref ak), (1, .int x1), (2, .int x2), (3, .int x3)] := hl
  have hf : ((fX6_within n x1 (0 : Int32) (3 : Int32)).bind fun r3 => if r3 = 0 then (some (-1 : Int32)) else ((fX6_within n x2 (0 : Int32) (3 : Int32)).bind fun r12 => if r12 = 0 then (some (-1 : Int32)) else (if x1 < 0 ∨ 4 ≤ x1.toNatClampNeg then none else if (S_sort x1.toNatClampNeg) = (-1 : Int32) then (some (-11 : Int32)) else (if (S_sort x1.toNatClampNeg) = x2 then ((fX6_within n x3 (0 : Int32) ((S_length x1.toNatClampNeg) - (1 : Int32))).bind fun r61 => if r61 = 0 then (some (-12 : Int32)) else (if x3 < 0 ∨ 40 ≤ x3.toNatClampNeg then none else some (((S_items x1.toNatClampNeg) x3.toNatClampNeg).toInt32))) else (some (-13 : Int32)))))) = some z := hf
  refine lv_iload_n hx hb dX6_item_0 rfl (lv_at hl 1 rfl) ?_
  refine lv_iconst (v := (0 : Int32)) hx hb dX6_item_1 (by decide) ?_
  refine lv_iconst (v := (3 : Int32)) hx hb dX6_item_2 (by decide) ?_
  obtain ⟨r3, hc3, hf⟩ := zb hf
  refine zsr (o := some (.int r3)) (As := [.int x1, .int (0 : Int32), .int (3 : Int32)]) (rest := []) (stk := [.int r3]) ⟨hx, hb, hml, hown, hts⟩ (mX6_within l D cy st sk sv B  n x1 (0 : Int32) (3 : Int32) r3 hc3) (va_cwS 3 hts gX6_item_X6_within rfl rfl rfl (by decide +kernel) ⟨Nat.le_of_ble_eq_true rfl, Nat.le_of_ble_eq_true rfl⟩) hG hS hAB hP [] rfl rfl hl.1 rfl (Nat.le_of_ble_eq_true rfl) dX6_item_3 rfl ?_
  refine lv_if_eq (tgt := 18) hx hb dX6_item_6 (by decide) (fun c_6 => ?_) (fun c_6 => ?_)
  · have hf := zp hf c_6
    refine lv_iconst (v := (-1 : Int32)) hx hb dX6_item_18 (by decide) ?_
    cases hf
    exact W.iret hx hb hr (fun t ht hW => ⟨rfl, ht⟩) (fun q h => absurd h List.not_mem_nil) dX6_item_19
  · have hf := zn hf c_6
    refine lv_iload_n hx hb dX6_item_9 rfl (lv_at hl 2 rfl) ?_
    refine lv_iconst (v := (0 : Int32)) hx hb dX6_item_10 (by decide) ?_
    refine lv_iconst (v := (3 : Int32)) hx hb dX6_item_11 (by decide) ?_
    obtain ⟨r12, hc12, hf⟩ := zb hf
    refine zsr (o := some (.int r12)) (As := [.int x2, .int (0 : Int32), .int (3 : Int32)]) (rest := []) (stk := [.int r12]) ⟨hx, hb, hml, hown, hts⟩ (mX6_within l D cy st sk sv B  n x2 (0 : Int32) (3 : Int32) r12 hc12) (va_cwS 3 hts gX6_item_X6_within rfl rfl rfl (by decide +kernel) ⟨Nat.le_of_ble_eq_true rfl, Nat.le_of_ble_eq_true rfl⟩) hG hS hAB hP [] rfl rfl hl.1 rfl (Nat.le_of_ble_eq_true rfl) dX6_item_12 rfl ?_
    refine lv_if_ne (tgt := 20) hx hb dX6_item_15 (by decide) (fun c_15 => ?_) (fun c_15 => ?_)
    · have hf := zn hf c_15
      refine lv_aload_n hx hb dX6_item_20 rfl (lv_at hl 0 rfl) ?_
      refine va_get (D := D) (ci := 6) (v := .ref as0) (C := RX6) (T := TX6) (N := 9) hx hb hts hin6 hown hK hP 0 rfl rfl 6 (by decide) fl38 (fun _ h9 => h9) rfl dX6_item_21 ?_
      refine lv_iload_n hx hb dX6_item_24 rfl (lv_at hl 1 rfl) ?_
      obtain ⟨hi_x1, hf⟩ := zg hf
      rcases zc4 hi_x1 with hj_x1 | hj_x1 | hj_x1 | hj_x1
      · rw [hj_x1] at hf
        refine va_aldq hx hb hK hP 1 3 rfl rfl hi_x1 dX6_item_25 ?_
        rw [hj_x1]
        refine W.eq (g2 := F0 m 26 ls [.ref (aS 0)]) rfl ?_
        refine lv_astore (lv' := [(4, .ref (aS 0)), (0, .ref ak), (1, .int x1), (2, .int x2), (3, .int x3)]) hx hb dX6_item_26 hl (by decide) rfl (fun ls hl => ?_)
        refine lv_aload hx hb dX6_item_28 (lv_at hl 0 rfl) ?_
        refine va_get (D := D) (ci := 1) (v := .int (S_sort 0)) (C := RX1) (T := TX1) (N := 3) hx hb hts hin1 hown hK hP 2 rfl rfl 1 (by decide) fl203 (fun _ h9 => h9) rfl dX6_item_30 ?_
        refine lv_iconst (v := (-1 : Int32)) hx hb dX6_item_33 (by decide) ?_
        refine lv_icmp_ne (tgt := 40) hx hb dX6_item_34 (by decide) (fun c_34 => ?_) (fun c_34 => ?_)
        · have hf := zn hf c_34
          refine lv_aload hx hb dX6_item_40 (lv_at hl 0 rfl) ?_
          refine va_get (D := D) (ci := 1) (v := .int (S_sort 0)) (C := RX1) (T := TX1) (N := 3) hx hb hts hin1 hown hK hP 2 rfl rfl 1 (by decide) fl203 (fun _ h9 => h9) rfl dX6_item_42 ?_
          refine lv_iload_n hx hb dX6_item_45 rfl (lv_at hl 3 rfl) ?_
          refine lv_icmp_eq (tgt := 52) hx hb dX6_item_46 (by decide) (fun c_46 => ?_) (fun c_46 => ?_)
          · have hf := zp hf c_46
            refine lv_iload_n hx hb dX6_item_52 rfl (lv_at hl 4 rfl) ?_
            refine lv_iconst (v := (0 : Int32)) hx hb dX6_item_53 (by decide) ?_
            refine lv_aload hx hb dX6_item_54 (lv_at hl 0 rfl) ?_
            refine va_get (D := D) (ci := 1) (v := .int (S_length 0)) (C := RX1) (T := TX1) (N := 3) hx hb hts hin1 hown hK hP 2 rfl rfl 2 (by decide) fl210 (fun _ h9 => h9) rfl dX6_item_56 ?_
            refine lv_iconst (v := (1 : Int32)) hx hb dX6_item_59 (by decide) ?_
            refine lv_isub hx hb dX6_item_60 ?_
            obtain ⟨r61, hc61, hf⟩ := zb hf
            refine zsr (o := some (.int r61)) (As := [.int x3, .int (0 : Int32), .int ((S_length 0) - (1 : Int32))]) (rest := []) (stk := [.int r61]) ⟨hx, hb, hml, hown, hts⟩ (mX6_within l D cy st sk sv B  n x3 (0 : Int32) ((S_length 0) - (1 : Int32)) r61 hc61) (va_cwS 3 hts gX6_item_X6_within rfl rfl rfl (by decide +kernel) ⟨Nat.le_of_ble_eq_true rfl, Nat.le_of_ble_eq_true rfl⟩) hG hS hAB hP [] rfl rfl hl.1 rfl (Nat.le_of_ble_eq_true rfl) dX6_item_61 rfl ?_
            refine lv_if_eq (tgt := 78) hx hb dX6_item_64 (by decide) (fun c_64 => ?_) (fun c_64 => ?_)
            · have hf := zp hf c_64
              refine lv_bipush (v := (-12 : Int32)) hx hb dX6_item_78 (by decide) ?_
              cases hf
              exact W.iret hx hb hr (fun t ht hW => ⟨rfl, ht⟩) (fun q h => absurd h List.not_mem_nil) dX6_item_80
            · have hf := zn hf c_64
              refine lv_aload hx hb dX6_item_67 (lv_at hl 0 rfl) ?_
              refine va_get (D := D) (ci := 1) (v := .ref (aI 0)) (C := RX1) (T := TX1) (N := 3) hx hb hts hin1 hown hK hP 2 rfl rfl 0 (by decide) fl211 (fun _ h9 => h9) rfl dX6_item_69 ?_
              refine lv_iload_n hx hb dX6_item_72 rfl (lv_at hl 4 rfl) ?_
              obtain ⟨h_73, hf⟩ := zg hf
              refine va_lald hx hb hK hP 3 2 rfl rfl h_73 dX6_item_73 ?_
              refine lv_l2i hx hb dX6_item_74 rfl ?_
              refine lv_goto (tgt := 80) hx hb dX6_item_75 (by decide) ?_
              cases hf
              exact W.iret hx hb hr (fun t ht hW => ⟨rfl, ht⟩) (fun q h => absurd h List.not_mem_nil) dX6_item_80
          · have hf := zn hf c_46
            refine lv_bipush (v := (-13 : Int32)) hx hb dX6_item_49 (by decide) ?_
            cases hf
            exact W.iret hx hb hr (fun t ht hW => ⟨rfl, ht⟩) (fun q h => absurd h List.not_mem_nil) dX6_item_51
        · have hf := zp hf c_34
          refine lv_bipush (v := (-11 : Int32)) hx hb dX6_item_37 (by decide) ?_
          cases hf
          exact W.iret hx hb hr (fun t ht hW => ⟨rfl, ht⟩) (fun q h => absurd h List.not_mem_nil) dX6_item_39
      · rw [hj_x1] at hf
        refine va_aldq hx hb hK hP 1 3 rfl rfl hi_x1 dX6_item_25 ?_
        rw [hj_x1]
        refine W.eq (g2 := F0 m 26 ls [.ref (aS 1)]) rfl ?_
        refine lv_astore (lv' := [(4, .ref (aS 1)), (0, .ref ak), (1, .int x1), (2, .int x2), (3, .int x3)]) hx hb dX6_item_26 hl (by decide) rfl (fun ls hl => ?_)
        refine lv_aload hx hb dX6_item_28 (lv_at hl 0 rfl) ?_
        refine va_get (D := D) (ci := 1) (v := .int (S_sort 1)) (C := RX1) (T := TX1) (N := 3) hx hb hts hin1 hown hK hP 4 rfl rfl 1 (by decide) fl203 (fun _ h9 => h9) rfl dX6_item_30 ?_
        refine lv_iconst (v := (-1 : Int32)) hx hb dX6_item_33 (by decide) ?_
        refine lv_icmp_ne (tgt := 40) hx hb dX6_item_34 (by decide) (fun c_34 => ?_) (fun c_34 => ?_)
        · have hf := zn hf c_34
          refine lv_aload hx hb dX6_item_40 (lv_at hl 0 rfl) ?_
          refine va_get (D := D) (ci := 1) (v := .int (S_sort 1)) (C := RX1) (T := TX1) (N := 3) hx hb hts hin1 hown hK hP 4 rfl rfl 1 (by decide) fl203 (fun _ h9 => h9) rfl dX6_item_42 ?_
          refine lv_iload_n hx hb dX6_item_45 rfl (lv_at hl 3 rfl) ?_
          refine lv_icmp_eq (tgt := 52) hx hb dX6_item_46 (by decide) (fun c_46 => ?_) (fun c_46 => ?_)
          · have hf := zp hf c_46
            refine lv_iload_n hx hb dX6_item_52 rfl (lv_at hl 4 rfl) ?_
            refine lv_iconst (v := (0 : Int32)) hx hb dX6_item_53 (by decide) ?_
            refine lv_aload hx hb dX6_item_54 (lv_at hl 0 rfl) ?_
            refine va_get (D := D) (ci := 1) (v := .int (S_length 1)) (C := RX1) (T := TX1) (N := 3) hx hb hts hin1 hown hK hP 4 rfl rfl 2 (by decide) fl210 (fun _ h9 => h9) rfl dX6_item_56 ?_
            refine lv_iconst (v := (1 : Int32)) hx hb dX6_item_59 (by decide) ?_
            refine lv_isub hx hb dX6_item_60 ?_
            obtain ⟨r61, hc61, hf⟩ := zb hf
            refine zsr (o := some (.int r61)) (As := [.int x3, .int (0 : Int32), .int ((S_length 1) - (1 : Int32))]) (rest := []) (stk := [.int r61]) ⟨hx, hb, hml, hown, hts⟩ (mX6_within l D cy st sk sv B  n x3 (0 : Int32) ((S_length 1) - (1 : Int32)) r61 hc61) (va_cwS 3 hts gX6_item_X6_within rfl rfl rfl (by decide +kernel) ⟨Nat.le_of_ble_eq_true rfl, Nat.le_of_ble_eq_true rfl⟩) hG hS hAB hP [] rfl rfl hl.1 rfl (Nat.le_of_ble_eq_true rfl) dX6_item_61 rfl ?_
            refine lv_if_eq (tgt := 78) hx hb dX6_item_64 (by decide) (fun c_64 => ?_) (fun c_64 => ?_)
            · have hf := zp hf c_64
              refine lv_bipush (v := (-12 : Int32)) hx hb dX6_item_78 (by decide) ?_
              cases hf
              exact W.iret hx hb hr (fun t ht hW => ⟨rfl, ht⟩) (fun q h => absurd h List.not_mem_nil) dX6_item_80
            · have hf := zn hf c_64
              refine lv_aload hx hb dX6_item_67 (lv_at hl 0 rfl) ?_
              refine va_get (D := D) (ci := 1) (v := .ref (aI 1)) (C := RX1) (T := TX1) (N := 3) hx hb hts hin1 hown hK hP 4 rfl rfl 0 (by decide) fl211 (fun _ h9 => h9) rfl dX6_item_69 ?_
              refine lv_iload_n hx hb dX6_item_72 rfl (lv_at hl 4 rfl) ?_
              obtain ⟨h_73, hf⟩ := zg hf
              refine va_lald hx hb hK hP 5 2 rfl rfl h_73 dX6_item_73 ?_
              refine lv_l2i hx hb dX6_item_74 rfl ?_
              refine lv_goto (tgt := 80) hx hb dX6_item_75 (by decide) ?_
              cases hf
              exact W.iret hx hb hr (fun t ht hW => ⟨rfl, ht⟩) (fun q h => absurd h List.not_mem_nil) dX6_item_80
          · have hf := zn hf c_46
            refine lv_bipush (v := (-13 : Int32)) hx hb dX6_item_49 (by decide) ?_
            cases hf
            exact W.iret hx hb hr (fun t ht hW => ⟨rfl, ht⟩) (fun q h => absurd h List.not_mem_nil) dX6_item_51
        · have hf := zp hf c_34
          refine lv_bipush (v := (-11 : Int32)) hx hb dX6_item_37 (by decide) ?_
          cases hf
          exact W.iret hx hb hr (fun t ht hW => ⟨rfl, ht⟩) (fun q h => absurd h List.not_mem_nil) dX6_item_39
      · rw [hj_x1] at hf
        refine va_aldq hx hb hK hP 1 3 rfl rfl hi_x1 dX6_item_25 ?_
        rw [hj_x1]
        refine W.eq (g2 := F0 m 26 ls [.ref (aS 2)]) rfl ?_
        refine lv_astore (lv' := [(4, .ref (aS 2)), (0, .ref ak), (1, .int x1), (2, .int x2), (3, .int x3)]) hx hb dX6_item_26 hl (by decide) rfl (fun ls hl => ?_)
        refine lv_aload hx hb dX6_item_28 (lv_at hl 0 rfl) ?_
        refine va_get (D := D) (ci := 1) (v := .int (S_sort 2)) (C := RX1) (T := TX1) (N := 3) hx hb hts hin1 hown hK hP 6 rfl rfl 1 (by decide) fl203 (fun _ h9 => h9) rfl dX6_item_30 ?_
        refine lv_iconst (v := (-1 : Int32)) hx hb dX6_item_33 (by decide) ?_
        refine lv_icmp_ne (tgt := 40) hx hb dX6_item_34 (by decide) (fun c_34 => ?_) (fun c_34 => ?_)
        · have hf := zn hf c_34
          refine lv_aload hx hb dX6_item_40 (lv_at hl 0 rfl) ?_
          refine va_get (D := D) (ci := 1) (v := .int (S_sort 2)) (C := RX1) (T := TX1) (N := 3) hx hb hts hin1 hown hK hP 6 rfl rfl 1 (by decide) fl203 (fun _ h9 => h9) rfl dX6_item_42 ?_
          refine lv_iload_n hx hb dX6_item_45 rfl (lv_at hl 3 rfl) ?_
          refine lv_icmp_eq (tgt := 52) hx hb dX6_item_46 (by decide) (fun c_46 => ?_) (fun c_46 => ?_)
          · have hf := zp hf c_46
            refine lv_iload_n hx hb dX6_item_52 rfl (lv_at hl 4 rfl) ?_
            refine lv_iconst (v := (0 : Int32)) hx hb dX6_item_53 (by decide) ?_
            refine lv_aload hx hb dX6_item_54 (lv_at hl 0 rfl) ?_
            refine va_get (D := D) (ci := 1) (v := .int (S_length 2)) (C := RX1) (T := TX1) (N := 3) hx hb hts hin1 hown hK hP 6 rfl rfl 2 (by decide) fl210 (fun _ h9 => h9) rfl dX6_item_56 ?_
            refine lv_iconst (v := (1 : Int32)) hx hb dX6_item_59 (by decide) ?_
            refine lv_isub hx hb dX6_item_60 ?_
            obtain ⟨r61, hc61, hf⟩ := zb hf
            refine zsr (o := some (.int r61)) (As := [.int x3, .int (0 : Int32), .int ((S_length 2) - (1 : Int32))]) (rest := []) (stk := [.int r61]) ⟨hx, hb, hml, hown, hts⟩ (mX6_within l D cy st sk sv B  n x3 (0 : Int32) ((S_length 2) - (1 : Int32)) r61 hc61) (va_cwS 3 hts gX6_item_X6_within rfl rfl rfl (by decide +kernel) ⟨Nat.le_of_ble_eq_true rfl, Nat.le_of_ble_eq_true rfl⟩) hG hS hAB hP [] rfl rfl hl.1 rfl (Nat.le_of_ble_eq_true rfl) dX6_item_61 rfl ?_
            refine lv_if_eq (tgt := 78) hx hb dX6_item_64 (by decide) (fun c_64 => ?_) (fun c_64 => ?_)
            · have hf := zp hf c_64
              refine lv_bipush (v := (-12 : Int32)) hx hb dX6_item_78 (by decide) ?_
              cases hf
              exact W.iret hx hb hr (fun t ht hW => ⟨rfl, ht⟩) (fun q h => absurd h List.not_mem_nil) dX6_item_80
            · have hf := zn hf c_64
              refine lv_aload hx hb dX6_item_67 (lv_at hl 0 rfl) ?_
              refine va_get (D := D) (ci := 1) (v := .ref (aI 2)) (C := RX1) (T := TX1) (N := 3) hx hb hts hin1 hown hK hP 6 rfl rfl 0 (by decide) fl211 (fun _ h9 => h9) rfl dX6_item_69 ?_
              refine lv_iload_n hx hb dX6_item_72 rfl (lv_at hl 4 rfl) ?_
              obtain ⟨h_73, hf⟩ := zg hf
              refine va_lald hx hb hK hP 7 2 rfl rfl h_73 dX6_item_73 ?_
              refine lv_l2i hx hb dX6_item_74 rfl ?_
              refine lv_goto (tgt := 80) hx hb dX6_item_75 (by decide) ?_
              cases hf
              exact W.iret hx hb hr (fun t ht hW => ⟨rfl, ht⟩) (fun q h => absurd h List.not_mem_nil) dX6_item_80
          · have hf := zn hf c_46
            refine lv_bipush (v := (-13 : Int32)) hx hb dX6_item_49 (by decide) ?_
            cases hf
            exact W.iret hx hb hr (fun t ht hW => ⟨rfl, ht⟩) (fun q h => absurd h List.not_mem_nil) dX6_item_51
        · have hf := zp hf c_34
          refine lv_bipush (v := (-11 : Int32)) hx hb dX6_item_37 (by decide) ?_
          cases hf
          exact W.iret hx hb hr (fun t ht hW => ⟨rfl, ht⟩) (fun q h => absurd h List.not_mem_nil) dX6_item_39
      · rw [hj_x1] at hf
        refine va_aldq hx hb hK hP 1 3 rfl rfl hi_x1 dX6_item_25 ?_
        rw [hj_x1]
        refine W.eq (g2 := F0 m 26 ls [.ref (aS 3)]) rfl ?_
        refine lv_astore (lv' := [(4, .ref (aS 3)), (0, .ref ak), (1, .int x1), (2, .int x2), (3, .int x3)]) hx hb dX6_item_26 hl (by decide) rfl (fun ls hl => ?_)
        refine lv_aload hx hb dX6_item_28 (lv_at hl 0 rfl) ?_
        refine va_get (D := D) (ci := 1) (v := .int (S_sort 3)) (C := RX1) (T := TX1) (N := 3) hx hb hts hin1 hown hK hP 8 rfl rfl 1 (by decide) fl203 (fun _ h9 => h9) rfl dX6_item_30 ?_
        refine lv_iconst (v := (-1 : Int32)) hx hb dX6_item_33 (by decide) ?_
        refine lv_icmp_ne (tgt := 40) hx hb dX6_item_34 (by decide) (fun c_34 => ?_) (fun c_34 => ?_)
        · have hf := zn hf c_34
          refine lv_aload hx hb dX6_item_40 (lv_at hl 0 rfl) ?_
          refine va_get (D := D) (ci := 1) (v := .int (S_sort 3)) (C := RX1) (T := TX1) (N := 3) hx hb hts hin1 hown hK hP 8 rfl rfl 1 (by decide) fl203 (fun _ h9 => h9) rfl dX6_item_42 ?_
          refine lv_iload_n hx hb dX6_item_45 rfl (lv_at hl 3 rfl) ?_
          refine lv_icmp_eq (tgt := 52) hx hb dX6_item_46 (by decide) (fun c_46 => ?_) (fun c_46 => ?_)
          · have hf := zp hf c_46
            refine lv_iload_n hx hb dX6_item_52 rfl (lv_at hl 4 rfl) ?_
            refine lv_iconst (v := (0 : Int32)) hx hb dX6_item_53 (by decide) ?_
            refine lv_aload hx hb dX6_item_54 (lv_at hl 0 rfl) ?_
            refine va_get (D := D) (ci := 1) (v := .int (S_length 3)) (C := RX1) (T := TX1) (N := 3) hx hb hts hin1 hown hK hP 8 rfl rfl 2 (by decide) fl210 (fun _ h9 => h9) rfl dX6_item_56 ?_
            refine lv_iconst (v := (1 : Int32)) hx hb dX6_item_59 (by decide) ?_
            refine lv_isub hx hb dX6_item_60 ?_
            obtain ⟨r61, hc61, hf⟩ := zb hf
            refine zsr (o := some (.int r61)) (As := [.int x3, .int (0 : Int32), .int ((S_length 3) - (1 : Int32))]) (rest := []) (stk := [.int r61]) ⟨hx, hb, hml, hown, hts⟩ (mX6_within l D cy st sk sv B  n x3 (0 : Int32) ((S_length 3) - (1 : Int32)) r61 hc61) (va_cwS 3 hts gX6_item_X6_within rfl rfl rfl (by decide +kernel) ⟨Nat.le_of_ble_eq_true rfl, Nat.le_of_ble_eq_true rfl⟩) hG hS hAB hP [] rfl rfl hl.1 rfl (Nat.le_of_ble_eq_true rfl) dX6_item_61 rfl ?_
            refine lv_if_eq (tgt := 78) hx hb dX6_item_64 (by decide) (fun c_64 => ?_) (fun c_64 => ?_)
            · have hf := zp hf c_64
              refine lv_bipush (v := (-12 : Int32)) hx hb dX6_item_78 (by decide) ?_
              cases hf
              exact W.iret hx hb hr (fun t ht hW => ⟨rfl, ht⟩) (fun q h => absurd h List.not_mem_nil) dX6_item_80
            · have hf := zn hf c_64
              refine lv_aload hx hb dX6_item_67 (lv_at hl 0 rfl) ?_
              refine va_get (D := D) (ci := 1) (v := .ref (aI 3)) (C := RX1) (T := TX1) (N := 3) hx hb hts hin1 hown hK hP 8 rfl rfl 0 (by decide) fl211 (fun _ h9 => h9) rfl dX6_item_69 ?_
              refine lv_iload_n hx hb dX6_item_72 rfl (lv_at hl 4 rfl) ?_
              obtain ⟨h_73, hf⟩ := zg hf
              refine va_lald hx hb hK hP 9 2 rfl rfl h_73 dX6_item_73 ?_
              refine lv_l2i hx hb dX6_item_74 rfl ?_
              refine lv_goto (tgt := 80) hx hb dX6_item_75 (by decide) ?_
              cases hf
              exact W.iret hx hb hr (fun t ht hW => ⟨rfl, ht⟩) (fun q h => absurd h List.not_mem_nil) dX6_item_80
          · have hf := zn hf c_46
            refine lv_bipush (v := (-13 : Int32)) hx hb dX6_item_49 (by decide) ?_
            cases hf
            exact W.iret hx hb hr (fun t ht hW => ⟨rfl, ht⟩) (fun q h => absurd h List.not_mem_nil) dX6_item_51
        · have hf := zp hf c_34
          refine lv_bipush (v := (-11 : Int32)) hx hb dX6_item_37 (by decide) ?_
          cases hf
          exact W.iret hx hb hr (fun t ht hW => ⟨rfl, ht⟩) (fun q h => absurd h List.not_mem_nil) dX6_item_39
    · have hf := zp hf c_15
      refine lv_iconst (v := (-1 : Int32)) hx hb dX6_item_18 (by decide) ?_
      cases hf
      exact W.iret hx hb hr (fun t ht hW => ⟨rfl, ht⟩) (fun q h => absurd h List.not_mem_nil) dX6_item_19
