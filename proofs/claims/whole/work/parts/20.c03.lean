set_option maxRecDepth 100000 in
set_option maxHeartbeats 100000000 in
theorem mX5_kindNamed (l : Launch) (D : va_G) (cy : Nat → ClassId) (st sk sv : Nat → Nat) (B : Nat) (aa0 : Nat) (aa1 : Nat) (n : Nat) (A_bytes : (Nat → Int32)) (A_length : Int32) (A_place : Int32) (A_after : Int32) (A_sort : Int32) (A_number : Int32)  (z : Int32) (hf : fX5_kindNamed n (A_bytes, A_length, A_place, A_after, A_sort, A_number) = some z) : Met l yX5_kindNamed wsX5_kindNamed ({ frames := 7, cells := 0, slots := 0, locals := 203 }) (PcR [.ref aa0] D cy st sk sv B [(aa0, .inr (5, [.ref aa1, .int A_length, .int A_place, .int A_after, .int A_sort, .int A_number])), (aa1, .inl (cy 1, 200, .inl A_bytes))]) (Qr (some (.int z))) 0 0 (fun _ => False) := by
  refine Met.ofW (cc := cX5_kindNamed) (maxL := 1) (ret := (some .int)) (by decide) rfl ?_
  intro p e s m args below meth c s₁ Bd hml hv
  obtain ⟨rfl, hP, hG⟩ := hv
  have hx := Bd.exec
  have hb := Bd.bytes
  have hr := Bd.returns
  have hts := atoms_spec (ws := wsX5_kindNamed) Bd.pre
  have hown : s.vm.findClass RX5 = some m.cls := findClass_of_methodNamed Bd.named
  have hlocks := Bd.notSynchronized
  have hK := hG.1
  have hS : va_S (fun q => B ≤ q) s.heap s.heap [] := va_S.rf
  have hAB : ∀ q, (fun q => B ≤ q) q → B ≤ q := fun _ h => h
  have hl := lv_entry ([.ref aa0]) (n := 1) (Nat.le_of_ble_eq_true rfl)
  rw [lg_entry_eq]
  generalize (lg_sl ([.ref aa0]) ++ List.replicate (1 - (lg_sl ([.ref aa0])).length) Slot.unset).toArray = ls at hl ⊢
  have hl : lv_has ls 1 [(0, .ref aa0)] := hl
  have hf : ((fX5_isName n (A_bytes, A_length, A_place, A_after, A_sort, A_number) 0).bind fun r3 => if r3 = 0 then ((fX5_isName n (A_bytes, A_length, A_place, A_after, A_sort, A_number) 1).bind fun r14 => if r14 = 0 then ((fX5_isName n (A_bytes, A_length, A_place, A_after, A_sort, A_number) 2).bind fun r25 => if r25 = 0 then ((fX5_isName n (A_bytes, A_length, A_place, A_after, A_sort, A_number) 3).bind fun r36 => if r36 = 0 then ((fX5_isName n (A_bytes, A_length, A_place, A_after, A_sort, A_number) 4).bind fun r47 => if r47 = 0 then ((fX5_isName n (A_bytes, A_length, A_place, A_after, A_sort, A_number) 5).bind fun r58 => if r58 = 0 then (some (-3 : Int32)) else (some (5 : Int32))) else (some (4 : Int32))) else (some (3 : Int32))) else (some (2 : Int32))) else (some (1 : Int32))) else (some (0 : Int32))) = some z := hf
  refine lv_aload_n hx hb dX5_kindNamed_0 rfl (lv_at hl 0 rfl) ?_
  refine va_ldcS (q := sk 0) hx hb hown (hG.2.2.2.2.2.2 0 (by decide)) dX5_kindNamed_1 ?_
  obtain ⟨r3, hc3, hf⟩ := zb hf
  refine zvr (o := some (.int r3)) (As := [.ref (sk 0)]) (rest := []) (stk := [.int r3]) ⟨hx, hb, hml, hown, hts⟩ (mX5_isName l D cy st sk sv B aa0 aa1 n A_bytes A_length A_place A_after A_sort A_number 0 (by decide) r3 hc3) (cwV 1 hts gX5_kindNamed_X5_isName rfl rfl rfl (by decide +kernel) ⟨Nat.le_of_ble_eq_true rfl, Nat.le_of_ble_eq_true rfl⟩) hG hS hAB hP [0, 1] rfl 0 5 rfl rfl rfl rfl hl.1 rfl (Nat.le_of_ble_eq_true rfl) dX5_kindNamed_3 rfl ?_
  refine lv_if_eq (tgt := 11) hx hb dX5_kindNamed_6 (by decide) (fun c_6 => ?_) (fun c_6 => ?_)
  · have hf := zp hf c_6
    refine lv_aload_n hx hb dX5_kindNamed_11 rfl (lv_at hl 0 rfl) ?_
    refine va_ldcS (q := sk 1) hx hb hown (hG.2.2.2.2.2.2 1 (by decide)) dX5_kindNamed_12 ?_
    obtain ⟨r14, hc14, hf⟩ := zb hf
    refine zvr (o := some (.int r14)) (As := [.ref (sk 1)]) (rest := []) (stk := [.int r14]) ⟨hx, hb, hml, hown, hts⟩ (mX5_isName l D cy st sk sv B aa0 aa1 n A_bytes A_length A_place A_after A_sort A_number 1 (by decide) r14 hc14) (cwV 1 hts gX5_kindNamed_X5_isName rfl rfl rfl (by decide +kernel) ⟨Nat.le_of_ble_eq_true rfl, Nat.le_of_ble_eq_true rfl⟩) hG hS hAB hP [0, 1] rfl 0 5 rfl rfl rfl rfl hl.1 rfl (Nat.le_of_ble_eq_true rfl) dX5_kindNamed_14 rfl ?_
    refine lv_if_eq (tgt := 22) hx hb dX5_kindNamed_17 (by decide) (fun c_17 => ?_) (fun c_17 => ?_)
    · have hf := zp hf c_17
      refine lv_aload_n hx hb dX5_kindNamed_22 rfl (lv_at hl 0 rfl) ?_
      refine va_ldcS (q := sk 2) hx hb hown (hG.2.2.2.2.2.2 2 (by decide)) dX5_kindNamed_23 ?_
      obtain ⟨r25, hc25, hf⟩ := zb hf
      refine zvr (o := some (.int r25)) (As := [.ref (sk 2)]) (rest := []) (stk := [.int r25]) ⟨hx, hb, hml, hown, hts⟩ (mX5_isName l D cy st sk sv B aa0 aa1 n A_bytes A_length A_place A_after A_sort A_number 2 (by decide) r25 hc25) (cwV 1 hts gX5_kindNamed_X5_isName rfl rfl rfl (by decide +kernel) ⟨Nat.le_of_ble_eq_true rfl, Nat.le_of_ble_eq_true rfl⟩) hG hS hAB hP [0, 1] rfl 0 5 rfl rfl rfl rfl hl.1 rfl (Nat.le_of_ble_eq_true rfl) dX5_kindNamed_25 rfl ?_
      refine lv_if_eq (tgt := 33) hx hb dX5_kindNamed_28 (by decide) (fun c_28 => ?_) (fun c_28 => ?_)
      · have hf := zp hf c_28
        refine lv_aload_n hx hb dX5_kindNamed_33 rfl (lv_at hl 0 rfl) ?_
        refine va_ldcS (q := sk 3) hx hb hown (hG.2.2.2.2.2.2 3 (by decide)) dX5_kindNamed_34 ?_
        obtain ⟨r36, hc36, hf⟩ := zb hf
        refine zvr (o := some (.int r36)) (As := [.ref (sk 3)]) (rest := []) (stk := [.int r36]) ⟨hx, hb, hml, hown, hts⟩ (mX5_isName l D cy st sk sv B aa0 aa1 n A_bytes A_length A_place A_after A_sort A_number 3 (by decide) r36 hc36) (cwV 1 hts gX5_kindNamed_X5_isName rfl rfl rfl (by decide +kernel) ⟨Nat.le_of_ble_eq_true rfl, Nat.le_of_ble_eq_true rfl⟩) hG hS hAB hP [0, 1] rfl 0 5 rfl rfl rfl rfl hl.1 rfl (Nat.le_of_ble_eq_true rfl) dX5_kindNamed_36 rfl ?_
        refine lv_if_eq (tgt := 44) hx hb dX5_kindNamed_39 (by decide) (fun c_39 => ?_) (fun c_39 => ?_)
        · have hf := zp hf c_39
          refine lv_aload_n hx hb dX5_kindNamed_44 rfl (lv_at hl 0 rfl) ?_
          refine va_ldcS (q := sk 4) hx hb hown (hG.2.2.2.2.2.2 4 (by decide)) dX5_kindNamed_45 ?_
          obtain ⟨r47, hc47, hf⟩ := zb hf
          refine zvr (o := some (.int r47)) (As := [.ref (sk 4)]) (rest := []) (stk := [.int r47]) ⟨hx, hb, hml, hown, hts⟩ (mX5_isName l D cy st sk sv B aa0 aa1 n A_bytes A_length A_place A_after A_sort A_number 4 (by decide) r47 hc47) (cwV 1 hts gX5_kindNamed_X5_isName rfl rfl rfl (by decide +kernel) ⟨Nat.le_of_ble_eq_true rfl, Nat.le_of_ble_eq_true rfl⟩) hG hS hAB hP [0, 1] rfl 0 5 rfl rfl rfl rfl hl.1 rfl (Nat.le_of_ble_eq_true rfl) dX5_kindNamed_47 rfl ?_
          refine lv_if_eq (tgt := 55) hx hb dX5_kindNamed_50 (by decide) (fun c_50 => ?_) (fun c_50 => ?_)
          · have hf := zp hf c_50
            refine lv_aload_n hx hb dX5_kindNamed_55 rfl (lv_at hl 0 rfl) ?_
            refine va_ldcS (q := sk 5) hx hb hown (hG.2.2.2.2.2.2 5 (by decide)) dX5_kindNamed_56 ?_
            obtain ⟨r58, hc58, hf⟩ := zb hf
            refine zvr (o := some (.int r58)) (As := [.ref (sk 5)]) (rest := []) (stk := [.int r58]) ⟨hx, hb, hml, hown, hts⟩ (mX5_isName l D cy st sk sv B aa0 aa1 n A_bytes A_length A_place A_after A_sort A_number 5 (by decide) r58 hc58) (cwV 1 hts gX5_kindNamed_X5_isName rfl rfl rfl (by decide +kernel) ⟨Nat.le_of_ble_eq_true rfl, Nat.le_of_ble_eq_true rfl⟩) hG hS hAB hP [0, 1] rfl 0 5 rfl rfl rfl rfl hl.1 rfl (Nat.le_of_ble_eq_true rfl) dX5_kindNamed_58 rfl ?_
            refine lv_if_eq (tgt := 68) hx hb dX5_kindNamed_61 (by decide) (fun c_61 => ?_) (fun c_61 => ?_)
            · have hf := zp hf c_61
              refine lv_bipush (v := (-3 : Int32)) hx hb dX5_kindNamed_68 (by decide) ?_
              cases hf
              exact W.iret hx hb hr (fun t ht hW => ⟨rfl, ht⟩) (fun q h => absurd h List.not_mem_nil) dX5_kindNamed_70
            · have hf := zn hf c_61
              refine lv_iconst (v := (5 : Int32)) hx hb dX5_kindNamed_64 (by decide) ?_
              refine lv_goto (tgt := 70) hx hb dX5_kindNamed_65 (by decide) ?_
              cases hf
              exact W.iret hx hb hr (fun t ht hW => ⟨rfl, ht⟩) (fun q h => absurd h List.not_mem_nil) dX5_kindNamed_70
          · have hf := zn hf c_50
            refine lv_iconst (v := (4 : Int32)) hx hb dX5_kindNamed_53 (by decide) ?_
            cases hf
            exact W.iret hx hb hr (fun t ht hW => ⟨rfl, ht⟩) (fun q h => absurd h List.not_mem_nil) dX5_kindNamed_54
        · have hf := zn hf c_39
          refine lv_iconst (v := (3 : Int32)) hx hb dX5_kindNamed_42 (by decide) ?_
          cases hf
          exact W.iret hx hb hr (fun t ht hW => ⟨rfl, ht⟩) (fun q h => absurd h List.not_mem_nil) dX5_kindNamed_43
      · have hf := zn hf c_28
        refine lv_iconst (v := (2 : Int32)) hx hb dX5_kindNamed_31 (by decide) ?_
        cases hf
        exact W.iret hx hb hr (fun t ht hW => ⟨rfl, ht⟩) (fun q h => absurd h List.not_mem_nil) dX5_kindNamed_32
    · have hf := zn hf c_17
      refine lv_iconst (v := (1 : Int32)) hx hb dX5_kindNamed_20 (by decide) ?_
      cases hf
      exact W.iret hx hb hr (fun t ht hW => ⟨rfl, ht⟩) (fun q h => absurd h List.not_mem_nil) dX5_kindNamed_21
  · have hf := zn hf c_6
    refine lv_iconst (v := (0 : Int32)) hx hb dX5_kindNamed_9 (by decide) ?_
    cases hf
    exact W.iret hx hb hr (fun t ht hW => ⟨rfl, ht⟩) (fun q h => absurd h List.not_mem_nil) dX5_kindNamed_10
set_option maxRecDepth 100000 in
set_option maxHeartbeats 100000000 in
theorem mX5_readNumber (l : Launch) (D : va_G) (cy : Nat → ClassId) (st sk sv : Nat → Nat) (B : Nat) (aa0 : Nat) (aa1 : Nat) (sz : Nat) (n : Nat) (A_bytes : (Nat → Int32)) (A_length : Int32) (A_place : Int32) (A_after : Int32) (A_sort : Int32) (A_number : Int32) (x1 : Int32) (z : Int32 × TP) (hf : fX5_readNumber n (A_bytes, A_length, A_place, A_after, A_sort, A_number) x1 = some z) : Met l yX5_readNumber wsX5_readNumber ({ frames := 2, cells := 0, slots := 0, locals := 41 }) (PcW [.ref aa0, .int x1] D cy st sk sv B sz [(aa0, .inr (5, [.ref aa1, .int A_length, .int A_place, .int A_after, .int A_sort, .int A_number])), (aa1, .inl (cy 1, 200, .inl A_bytes))]) (Qw (some (.int z.1)) D [(aa0, .inr (5, [.ref aa1, .int z.2.2.1, .int z.2.2.2.1, .int z.2.2.2.2.1, .int z.2.2.2.2.2.1, .int z.2.2.2.2.2.2])), (aa1, .inl (cy 1, 200, .inl z.2.1))] (va_A [(aa0, .inr (5, [.ref aa1, .int A_length, .int A_place, .int A_after, .int A_sort, .int A_number])), (aa1, .inl (cy 1, 200, .inl A_bytes))] sz)) 0 0 (va_A [(aa0, .inr (5, [.ref aa1, .int A_length, .int A_place, .int A_after, .int A_sort, .int A_number])), (aa1, .inl (cy 1, 200, .inl A_bytes))] sz) := by
  refine Met.ofW (cc := cX5_readNumber) (maxL := 3) (ret := (some .boolean)) (by decide) rfl ?_
  intro p e s m args below meth c s₁ Bd hml hv
  obtain ⟨rfl, hsz, hP, hD0, hBs, hG⟩ := hv
  have hx := Bd.exec
  have hb := Bd.bytes
  have hr := Bd.returns
  have hts := atoms_spec (ws := wsX5_readNumber) Bd.pre
  have hown : s.vm.findClass RX5 = some m.cls := findClass_of_methodNamed Bd.named
  have hlocks := Bd.notSynchronized
  have hK := hG.1
  subst hsz
  have hD := hD0.self (sz := s.heap.size)
  have hAB0 := zA hD0 hBs
  generalize hAe : va_A [(aa0, .inr (5, [.ref aa1, .int A_length, .int A_place, .int A_after, .int A_sort, .int A_number])), (aa1, .inl (cy 1, 200, .inl A_bytes))] s.heap.size = A at hD hAB0 ⊢
  have hA : ∀ q : Nat, s.heap.size ≤ q → A q := fun q h => by rw [← hAe]; exact Or.inr h
  have hAB : ∀ q, A q → B ≤ q := hAB0
  have hS : va_S A s.heap s.heap [] := va_S.rf
  have hfin : ∀ (z0 : Int32) (A_bytes : (Nat → Int32)) (A_length : Int32) (A_place : Int32) (A_after : Int32) (A_sort : Int32) (A_number : Int32), some (z0, (A_bytes, A_length, A_place, A_after, A_sort, A_number)) = some z → ∀ (H : Heap) (t : State), t.heap = H → va_P D vwCl [(aa0, .inr (5, [.ref aa1, .int A_length, .int A_place, .int A_after, .int A_sort, .int A_number])), (aa1, .inl (cy 1, 200, .inl A_bytes))] H → va_F A s t → Qw (some (.int z.1)) D [(aa0, .inr (5, [.ref aa1, .int z.2.2.1, .int z.2.2.2.1, .int z.2.2.2.2.1, .int z.2.2.2.2.2.1, .int z.2.2.2.2.2.2])), (aa1, .inl (cy 1, 200, .inl z.2.1))] A ([.ref aa0, .int x1] : List Value).toArray s (.returned (some (.int z0))) t := by
    intro z0 A_bytes A_length A_place A_after A_sort A_number h9 H t ht hP hF
    cases h9
    exact ⟨rfl, by rw [ht]; exact hP, hF⟩
  have hin5 : ∀ w ∈ u_ws RX5 TX5 6, w ∈ wsX5_readNumber := by decide +kernel
  have fl9 := hts (.fieldLink RX5 9 "KinCutlery$Tape" "bytes" "[B") (by decide +kernel)
  have fl15 := hts (.fieldLink RX5 15 "KinCutlery$Tape" "after" "I") (by decide +kernel)
  have fl22 := hts (.fieldLink RX5 22 "KinCutlery$Tape" "sort" "I") (by decide +kernel)
  have fl52 := hts (.fieldLink RX5 52 "KinCutlery$Tape" "number" "I") (by decide +kernel)
  have fl90 := hts (.fieldLink RX5 90 "KinCutlery$Tape" "place" "I") (by decide +kernel)
  have hL37 : ∀ (n0 : Nat) (A_bytes : (Nat → Int32)) (A_length : Int32) (A_place : Int32) (A_after : Int32) (A_sort : Int32) (A_number : Int32) (y2 : Int32), lpF (fX5_readNumber_F37 n x1 ) n0 ((A_bytes, A_length, A_place, A_after, A_sort, A_number), y2) = some z → ∀ (H : Heap) (locs : List Loc), va_P D vwCl [(aa0, .inr (5, [.ref aa1, .int A_length, .int A_place, .int A_after, .int A_sort, .int A_number])), (aa1, .inl (cy 1, 200, .inl A_bytes))] H → va_D A [(aa0, .inr (5, [.ref aa1, .int A_length, .int A_place, .int A_after, .int A_sort, .int A_number])), (aa1, .inl (cy 1, 200, .inl A_bytes))] → va_S A s.heap H locs → ∀ (ls : Array Slot), lv_has ls 3 [(0, .ref aa0), (1, .int x1), (2, .int y2)] → W p l e (headSpec wsX5_readNumber ({ frames := 2, cells := 0, slots := 0, locals := 41 })).room s m ([.ref aa0, .int x1] : List Value).toArray below meth c H locs 0 0 (MQ below (Qw (some (.int z.1)) D [(aa0, .inr (5, [.ref aa1, .int z.2.2.1, .int z.2.2.2.1, .int z.2.2.2.2.1, .int z.2.2.2.2.2.1, .int z.2.2.2.2.2.2])), (aa1, .inl (cy 1, 200, .inl z.2.1))] A) ([.ref aa0, .int x1] : List Value).toArray s 0 0 A) (F0 m 37 ls []) := by
    have key : ∀ (n0 : Nat) (v37 : TP × Int32), lpF (fX5_readNumber_F37 n x1 ) n0 v37 = some z → ∀ (H : Heap) (locs : List Loc), va_P D vwCl [(aa0, .inr (5, [.ref aa1, .int v37.1.2.1, .int v37.1.2.2.1, .int v37.1.2.2.2.1, .int v37.1.2.2.2.2.1, .int v37.1.2.2.2.2.2])), (aa1, .inl (cy 1, 200, .inl v37.1.1))] H → va_D A [(aa0, .inr (5, [.ref aa1, .int v37.1.2.1, .int v37.1.2.2.1, .int v37.1.2.2.2.1, .int v37.1.2.2.2.2.1, .int v37.1.2.2.2.2.2])), (aa1, .inl (cy 1, 200, .inl v37.1.1))] → va_S A s.heap H locs → ∀ (ls : Array Slot), lv_has ls 3 [(0, .ref aa0), (1, .int x1), (2, .int v37.2)] → W p l e (headSpec wsX5_readNumber ({ frames := 2, cells := 0, slots := 0, locals := 41 })).room s m ([.ref aa0, .int x1] : List Value).toArray below meth c H locs 0 0 (MQ below (Qw (some (.int z.1)) D [(aa0, .inr (5, [.ref aa1, .int z.2.2.1, .int z.2.2.2.1, .int z.2.2.2.2.1, .int z.2.2.2.2.2.1, .int z.2.2.2.2.2.2])), (aa1, .inl (cy 1, 200, .inl z.2.1))] A) ([.ref aa0, .int x1] : List Value).toArray s 0 0 A) (F0 m 37 ls []) := by
      refine lpW ?_
      intro k37 hk370
      have hk37 : ∀ (A_bytes : (Nat → Int32)) (A_length : Int32) (A_place : Int32) (A_after : Int32) (A_sort : Int32) (A_number : Int32) (y2 : Int32), k37 ((A_bytes, A_length, A_place, A_after, A_sort, A_number), y2) = some z → ∀ (H : Heap) (locs : List Loc), va_P D vwCl [(aa0, .inr (5, [.ref aa1, .int A_length, .int A_place, .int A_after, .int A_sort, .int A_number])), (aa1, .inl (cy 1, 200, .inl A_bytes))] H → va_D A [(aa0, .inr (5, [.ref aa1, .int A_length, .int A_place, .int A_after, .int A_sort, .int A_number])), (aa1, .inl (cy 1, 200, .inl A_bytes))] → va_S A s.heap H locs → ∀ (ls : Array Slot), lv_has ls 3 [(0, .ref aa0), (1, .int x1), (2, .int y2)] → W p l e (headSpec wsX5_readNumber ({ frames := 2, cells := 0, slots := 0, locals := 41 })).room s m ([.ref aa0, .int x1] : List Value).toArray below meth c H locs 0 0 (MQ below (Qw (some (.int z.1)) D [(aa0, .inr (5, [.ref aa1, .int z.2.2.1, .int z.2.2.2.1, .int z.2.2.2.2.1, .int z.2.2.2.2.2.1, .int z.2.2.2.2.2.2])), (aa1, .inl (cy 1, 200, .inl z.2.1))] A) ([.ref aa0, .int x1] : List Value).toArray s 0 0 A) (F0 m 37 ls []) := fun A_bytes A_length A_place A_after A_sort A_number y2 h9 => hk370 ((A_bytes, A_length, A_place, A_after, A_sort, A_number), y2) h9
      have hstep : ∀ (A_bytes : (Nat → Int32)) (A_length : Int32) (A_place : Int32) (A_after : Int32) (A_sort : Int32) (A_number : Int32) (y2 : Int32), fX5_readNumber_F37 n x1  k37 ((A_bytes, A_length, A_place, A_after, A_sort, A_number), y2) = some z → ∀ (H : Heap) (locs : List Loc), va_P D vwCl [(aa0, .inr (5, [.ref aa1, .int A_length, .int A_place, .int A_after, .int A_sort, .int A_number])), (aa1, .inl (cy 1, 200, .inl A_bytes))] H → va_D A [(aa0, .inr (5, [.ref aa1, .int A_length, .int A_place, .int A_after, .int A_sort, .int A_number])), (aa1, .inl (cy 1, 200, .inl A_bytes))] → va_S A s.heap H locs → ∀ (ls : Array Slot), lv_has ls 3 [(0, .ref aa0), (1, .int x1), (2, .int y2)] → W p l e (headSpec wsX5_readNumber ({ frames := 2, cells := 0, slots := 0, locals := 41 })).room s m ([.ref aa0, .int x1] : List Value).toArray below meth c H locs 0 0 (MQ below (Qw (some (.int z.1)) D [(aa0, .inr (5, [.ref aa1, .int z.2.2.1, .int z.2.2.2.1, .int z.2.2.2.2.1, .int z.2.2.2.2.2.1, .int z.2.2.2.2.2.2])), (aa1, .inl (cy 1, 200, .inl z.2.1))] A) ([.ref aa0, .int x1] : List Value).toArray s 0 0 A) (F0 m 37 ls []) := by
        intro A_bytes A_length A_place A_after A_sort A_number y2 hf H locs hP hD hS ls hl
        have hf : (if A_after ≤ y2 then (if x1 < A_number then (some ((0 : Int32), (A_bytes, A_length, A_place, A_after, A_sort, A_number))) else (some ((1 : Int32), (A_bytes, A_length, A_place, A_after, A_sort, A_number)))) else (if y2 < 0 ∨ 200 ≤ y2.toNatClampNeg then none else k37 ((A_bytes, A_length, A_place, A_after, A_sort, ((A_number * (10 : Int32)) + ((A_bytes y2.toNatClampNeg) - (48 : Int32)))), (y2 + (1 : Int32))))) = some z := hf
        refine lv_iload_n hx hb dX5_readNumber_37 rfl (lv_at hl 2 rfl) ?_
        refine lv_aload_n hx hb dX5_readNumber_38 rfl (lv_at hl 0 rfl) ?_
        refine va_get (D := D) (ci := 5) (v := .int A_after) (C := RX5) (T := TX5) (N := 6) hx hb hts hin5 hown hK hP 0 rfl rfl 3 (by decide) fl15 (fun _ h9 => h9) rfl dX5_readNumber_39 ?_
        refine lv_icmp_ge (tgt := 72) hx hb dX5_readNumber_42 (by decide) (fun c_42 => ?_) (fun c_42 => ?_)
        · have hf := zp hf c_42
          refine lv_aload_n hx hb dX5_readNumber_72 rfl (lv_at hl 0 rfl) ?_
          refine va_get (D := D) (ci := 5) (v := .int A_number) (C := RX5) (T := TX5) (N := 6) hx hb hts hin5 hown hK hP 0 rfl rfl 5 (by decide) fl52 (fun _ h9 => h9) rfl dX5_readNumber_73 ?_
          refine lv_iload_n hx hb dX5_readNumber_76 rfl (lv_at hl 1 rfl) ?_
          refine lv_icmp_gt (tgt := 84) hx hb dX5_readNumber_77 (by decide) (fun c_77 => ?_) (fun c_77 => ?_)
          · have hf := zp hf c_77
            refine lv_iconst (v := (0 : Int32)) hx hb dX5_readNumber_84 (by decide) ?_
            exact W.zret hx hb hr rfl (fun t ht hW => hfin (0 : Int32) A_bytes A_length A_place A_after A_sort A_number hf _ t ht hP (hS.F ht)) hS.2.2 dX5_readNumber_85
          · have hf := zn hf c_77
            refine lv_iconst (v := (1 : Int32)) hx hb dX5_readNumber_80 (by decide) ?_
            refine lv_goto (tgt := 85) hx hb dX5_readNumber_81 (by decide) ?_
            exact W.zret hx hb hr rfl (fun t ht hW => hfin (1 : Int32) A_bytes A_length A_place A_after A_sort A_number hf _ t ht hP (hS.F ht)) hS.2.2 dX5_readNumber_85
        · have hf := zn hf c_42
          refine lv_aload_n hx hb dX5_readNumber_45 rfl (lv_at hl 0 rfl) ?_
          refine lv_aload_n hx hb dX5_readNumber_46 rfl (lv_at hl 0 rfl) ?_
          refine va_get (D := D) (ci := 5) (v := .int A_number) (C := RX5) (T := TX5) (N := 6) hx hb hts hin5 hown hK hP 0 rfl rfl 5 (by decide) fl52 (fun _ h9 => h9) rfl dX5_readNumber_47 ?_
          refine lv_bipush (v := (10 : Int32)) hx hb dX5_readNumber_50 (by decide) ?_
          refine lv_imul hx hb dX5_readNumber_52 ?_
          refine lv_aload_n hx hb dX5_readNumber_53 rfl (lv_at hl 0 rfl) ?_
          refine va_get (D := D) (ci := 5) (v := .ref aa1) (C := RX5) (T := TX5) (N := 6) hx hb hts hin5 hown hK hP 0 rfl rfl 0 (by decide) fl9 (fun _ h9 => h9) rfl dX5_readNumber_54 ?_
          refine lv_iload_n hx hb dX5_readNumber_57 rfl (lv_at hl 2 rfl) ?_
          obtain ⟨h_58, hf⟩ := zg hf
          refine va_bald hx hb hK hP 1 1 rfl rfl h_58 dX5_readNumber_58 ?_
          refine lv_bipush (v := (48 : Int32)) hx hb dX5_readNumber_59 (by decide) ?_
          refine lv_isub hx hb dX5_readNumber_61 ?_
          refine lv_iadd hx hb dX5_readNumber_62 ?_
          refine va_put (D := D) (ci := 5) (v := .int ((A_number * (10 : Int32)) + ((A_bytes y2.toNatClampNeg) - (48 : Int32)))) (ty := .int) (C := RX5) (T := TX5) (N := 6) hx hb hts hin5 tyX5 tyX5_ok nmX5 hown hK hP hD hS 0 rfl rfl 5 (by decide) fl52 (fun _ h9 => h9) rfl (by decide +kernel) rfl rfl (Nat.le_of_ble_eq_true rfl) dX5_readNumber_63 (fun H locs hP hD hS => ?_)
          have hP : va_P D vwCl [(aa0, .inr (5, [.ref aa1, .int A_length, .int A_place, .int A_after, .int A_sort, .int ((A_number * (10 : Int32)) + ((A_bytes y2.toNatClampNeg) - (48 : Int32)))])), (aa1, .inl (cy 1, 200, .inl A_bytes))] H := hP
          have hD : va_D A [(aa0, .inr (5, [.ref aa1, .int A_length, .int A_place, .int A_after, .int A_sort, .int ((A_number * (10 : Int32)) + ((A_bytes y2.toNatClampNeg) - (48 : Int32)))])), (aa1, .inl (cy 1, 200, .inl A_bytes))] := hD
          refine lv_iinc (v := (y2 + (1 : Int32))) (lv' := [(2, .int (y2 + (1 : Int32))), (0, .ref aa0), (1, .int x1)]) hx hb dX5_readNumber_66 hl (k := 2) rfl rfl (by decide) rfl (fun ls hl => ?_)
          refine lv_goto (tgt := 37) hx hb dX5_readNumber_69 (by decide) ?_
          exact hk37 A_bytes A_length A_place A_after A_sort ((A_number * (10 : Int32)) + ((A_bytes y2.toNatClampNeg) - (48 : Int32))) (y2 + (1 : Int32)) hf _ _ hP hD hS _ (lv_sub hl [1, 2, 0] rfl)
      exact fun v37 h9 => hstep v37.1.1 v37.1.2.1 v37.1.2.2.1 v37.1.2.2.2.1 v37.1.2.2.2.2.1 v37.1.2.2.2.2.2 v37.2 h9
    exact fun n0 A_bytes A_length A_place A_after A_sort A_number y2 h9 => key n0 ((A_bytes, A_length, A_place, A_after, A_sort, A_number), y2) h9
  have hl := lv_entry ([.ref aa0, .int x1]) (n := 3) (Nat.le_of_ble_eq_true rfl)
  rw [lg_entry_eq]
  generalize (lg_sl ([.ref aa0, .int x1]) ++ List.replicate (3 - (lg_sl ([.ref aa0, .int x1])).length) Slot.unset).toArray = ls at hl ⊢
  have hl : lv_has ls 3 [(0, .ref aa0), (1, .int x1)] := hl
  have hf : ((fX5_step n (A_bytes, A_length, A_place, A_after, A_sort, A_number)).bind fun r1 => if r1.2.2.2.2.1 = (2 : Int32) then (if (r1.2.2.2.1 - r1.2.2.1) ≤ (3 : Int32) then (lpF (fX5_readNumber_F37 n x1 ) n ((r1.1, r1.2.1, r1.2.2.1, r1.2.2.2.1, r1.2.2.2.2.1, (0 : Int32)), r1.2.2.1)) else (some ((0 : Int32), r1))) else (some ((0 : Int32), r1))) = some z := hf
  refine lv_aload_n hx hb dX5_readNumber_0 rfl (lv_at hl 0 rfl) ?_
  obtain ⟨r1, hc1, hf⟩ := zb hf
  refine zvw (o := none) (As := []) (rest := []) (stk := []) ⟨hx, hb, hml, hown, hts⟩ (mX5_step l D cy st sk sv B aa0 aa1 _ n A_bytes A_length A_place A_after A_sort A_number r1 hc1) (cwV 0 hts gX5_readNumber_X5_step rfl rfl rfl (by decide +kernel) ⟨Nat.le_of_ble_eq_true rfl, Nat.le_of_ble_eq_true rfl⟩) hG hS hAB hA hP hD [0, 1] (by decide) rfl rfl rfl rfl 0 5 rfl rfl rfl rfl hl.1 rfl (Nat.le_of_ble_eq_true rfl) dX5_readNumber_1 rfl (fun H locs hP hD hS => ?_)
  have hP : va_P D vwCl [(aa0, .inr (5, [.ref aa1, .int r1.2.1, .int r1.2.2.1, .int r1.2.2.2.1, .int r1.2.2.2.2.1, .int r1.2.2.2.2.2])), (aa1, .inl (cy 1, 200, .inl r1.1))] H := hP
  have hD : va_D A [(aa0, .inr (5, [.ref aa1, .int r1.2.1, .int r1.2.2.1, .int r1.2.2.2.1, .int r1.2.2.2.2.1, .int r1.2.2.2.2.2])), (aa1, .inl (cy 1, 200, .inl r1.1))] := hD
  refine lv_aload_n hx hb dX5_readNumber_4 rfl (lv_at hl 0 rfl) ?_
  refine va_get (D := D) (ci := 5) (v := .int r1.2.2.2.2.1) (C := RX5) (T := TX5) (N := 6) hx hb hts hin5 hown hK hP 0 rfl rfl 4 (by decide) fl22 (fun _ h9 => h9) rfl dX5_readNumber_5 ?_
  refine lv_iconst (v := (2 : Int32)) hx hb dX5_readNumber_8 (by decide) ?_
  refine lv_icmp_ne (tgt := 25) hx hb dX5_readNumber_9 (by decide) (fun c_9 => ?_) (fun c_9 => ?_)
  · have hf := zn hf c_9
    refine lv_iconst (v := (0 : Int32)) hx hb dX5_readNumber_25 (by decide) ?_
    exact W.zret hx hb hr rfl (fun t ht hW => hfin (0 : Int32) r1.1 r1.2.1 r1.2.2.1 r1.2.2.2.1 r1.2.2.2.2.1 r1.2.2.2.2.2 hf _ t ht hP (hS.F ht)) hS.2.2 dX5_readNumber_26
  · have hf := zp hf c_9
    refine lv_aload_n hx hb dX5_readNumber_12 rfl (lv_at hl 0 rfl) ?_
    refine va_get (D := D) (ci := 5) (v := .int r1.2.2.2.1) (C := RX5) (T := TX5) (N := 6) hx hb hts hin5 hown hK hP 0 rfl rfl 3 (by decide) fl15 (fun _ h9 => h9) rfl dX5_readNumber_13 ?_
    refine lv_aload_n hx hb dX5_readNumber_16 rfl (lv_at hl 0 rfl) ?_
    refine va_get (D := D) (ci := 5) (v := .int r1.2.2.1) (C := RX5) (T := TX5) (N := 6) hx hb hts hin5 hown hK hP 0 rfl rfl 2 (by decide) fl90 (fun _ h9 => h9) rfl dX5_readNumber_17 ?_
    refine lv_isub hx hb dX5_readNumber_20 ?_
    refine lv_iconst (v := (3 : Int32)) hx hb dX5_readNumber_21 (by decide) ?_
    refine lv_icmp_le (tgt := 27) hx hb dX5_readNumber_22 (by decide) (fun c_22 => ?_) (fun c_22 => ?_)
    · have hf := zp hf c_22
      refine lv_aload_n hx hb dX5_readNumber_27 rfl (lv_at hl 0 rfl) ?_
      refine lv_iconst (v := (0 : Int32)) hx hb dX5_readNumber_28 (by decide) ?_
      refine va_put (D := D) (ci := 5) (v := .int (0 : Int32)) (ty := .int) (C := RX5) (T := TX5) (N := 6) hx hb hts hin5 tyX5 tyX5_ok nmX5 hown hK hP hD hS 0 rfl rfl 5 (by decide) fl52 (fun _ h9 => h9) rfl (by decide +kernel) rfl rfl (Nat.le_of_ble_eq_true rfl) dX5_readNumber_29 (fun H locs hP hD hS => ?_)
      have hP : va_P D vwCl [(aa0, .inr (5, [.ref aa1, .int r1.2.1, .int r1.2.2.1, .int r1.2.2.2.1, .int r1.2.2.2.2.1, .int (0 : Int32)])), (aa1, .inl (cy 1, 200, .inl r1.1))] H := hP
      have hD : va_D A [(aa0, .inr (5, [.ref aa1, .int r1.2.1, .int r1.2.2.1, .int r1.2.2.2.1, .int r1.2.2.2.2.1, .int (0 : Int32)])), (aa1, .inl (cy 1, 200, .inl r1.1))] := hD
      refine lv_aload_n hx hb dX5_readNumber_32 rfl (lv_at hl 0 rfl) ?_
      refine va_get (D := D) (ci := 5) (v := .int r1.2.2.1) (C := RX5) (T := TX5) (N := 6) hx hb hts hin5 hown hK hP 0 rfl rfl 2 (by decide) fl90 (fun _ h9 => h9) rfl dX5_readNumber_33 ?_
      refine lv_istore_n (lv' := [(2, .int r1.2.2.1), (0, .ref aa0), (1, .int x1)]) hx hb dX5_readNumber_36 rfl hl (by decide) rfl (fun ls hl => ?_)
      exact hL37 n r1.1 r1.2.1 r1.2.2.1 r1.2.2.2.1 r1.2.2.2.2.1 (0 : Int32) r1.2.2.1 hf _ _ hP hD hS _ (lv_sub hl [1, 2, 0] rfl)
    · have hf := zn hf c_22
      refine lv_iconst (v := (0 : Int32)) hx hb dX5_readNumber_25 (by decide) ?_
      exact W.zret hx hb hr rfl (fun t ht hW => hfin (0 : Int32) r1.1 r1.2.1 r1.2.2.1 r1.2.2.2.1 r1.2.2.2.2.1 r1.2.2.2.2.2 hf _ t ht hP (hS.F ht)) hS.2.2 dX5_readNumber_26
set_option maxRecDepth 100000 in
set_option maxHeartbeats 100000000 in
theorem mX5_isStop (l : Launch) (D : va_G) (cy : Nat → ClassId) (st sk sv : Nat → Nat) (B : Nat) (aa0 : Nat) (aa1 : Nat) (n : Nat) (A_bytes : (Nat → Int32)) (A_length : Int32) (A_place : Int32) (A_after : Int32) (A_sort : Int32) (A_number : Int32)  (z : Int32) (hf : fX5_isStop n (A_bytes, A_length, A_place, A_after, A_sort, A_number) = some z) : Met l yX5_isStop wsX5_isStop ({ frames := 0, cells := 0, slots := 0, locals := 0 }) (PcR [.ref aa0] D cy st sk sv B [(aa0, .inr (5, [.ref aa1, .int A_length, .int A_place, .int A_after, .int A_sort, .int A_number])), (aa1, .inl (cy 1, 200, .inl A_bytes))]) (Qr (some (.int z))) 0 0 (fun _ => False) := by
  refine Met.ofW (cc := cX5_isStop) (maxL := 1) (ret := (some .boolean)) (by decide) rfl ?_
  intro p e s m args below meth c s₁ Bd hml hv
  obtain ⟨rfl, hP, hG⟩ := hv
  have hx := Bd.exec
  have hb := Bd.bytes
  have hr := Bd.returns
  have hts := atoms_spec (ws := wsX5_isStop) Bd.pre
  have hown : s.vm.findClass RX5 = some m.cls := findClass_of_methodNamed Bd.named
  have hlocks := Bd.notSynchronized
  have hK := hG.1
  have hS : va_S (fun q => B ≤ q) s.heap s.heap [] := va_S.rf
  have hAB : ∀ q, (fun q => B ≤ q) q → B ≤ q := fun _ h => h
  have hin5 : ∀ w ∈ u_ws RX5 TX5 6, w ∈ wsX5_isStop := by decide +kernel
  have fl9 := hts (.fieldLink RX5 9 "KinCutlery$Tape" "bytes" "[B") (by decide +kernel)
  have fl22 := hts (.fieldLink RX5 22 "KinCutlery$Tape" "sort" "I") (by decide +kernel)
  have fl90 := hts (.fieldLink RX5 90 "KinCutlery$Tape" "place" "I") (by decide +kernel)
  have hl := lv_entry ([.ref aa0]) (n := 1) (Nat.le_of_ble_eq_true rfl)
  rw [lg_entry_eq]
  generalize (lg_sl ([.ref aa0]) ++ List.replicate (1 - (lg_sl ([.ref aa0])).length) Slot.unset).toArray = ls at hl ⊢
  have hl : lv_has ls 1 [(0, .ref aa0)] := hl
  have hf : (if A_sort = (3 : Int32) then (if A_place < 0 ∨ 200 ≤ A_place.toNatClampNeg then none else if (A_bytes A_place.toNatClampNeg) = (59 : Int32) then (some (1 : Int32)) else (some (0 : Int32))) else (some (0 : Int32))) = some z := hf
  refine lv_aload_n hx hb dX5_isStop_0 rfl (lv_at hl 0 rfl) ?_
  refine va_get (D := D) (ci := 5) (v := .int A_sort) (C := RX5) (T := TX5) (N := 6) hx hb hts hin5 hown hK hP 0 rfl rfl 4 (by decide) fl22 (fun _ h9 => h9) rfl dX5_isStop_1 ?_
  refine lv_iconst (v := (3 : Int32)) hx hb dX5_isStop_4 (by decide) ?_
  refine lv_icmp_ne (tgt := 26) hx hb dX5_isStop_5 (by decide) (fun c_5 => ?_) (fun c_5 => ?_)
  · have hf := zn hf c_5
    refine lv_iconst (v := (0 : Int32)) hx hb dX5_isStop_26 (by decide) ?_
    cases hf
    exact W.zret hx hb hr rfl (fun t ht hW => ⟨rfl, ht⟩) (fun q h => absurd h List.not_mem_nil) dX5_isStop_27
  · have hf := zp hf c_5
    refine lv_aload_n hx hb dX5_isStop_8 rfl (lv_at hl 0 rfl) ?_
    refine va_get (D := D) (ci := 5) (v := .ref aa1) (C := RX5) (T := TX5) (N := 6) hx hb hts hin5 hown hK hP 0 rfl rfl 0 (by decide) fl9 (fun _ h9 => h9) rfl dX5_isStop_9 ?_
    refine lv_aload_n hx hb dX5_isStop_12 rfl (lv_at hl 0 rfl) ?_
    refine va_get (D := D) (ci := 5) (v := .int A_place) (C := RX5) (T := TX5) (N := 6) hx hb hts hin5 hown hK hP 0 rfl rfl 2 (by decide) fl90 (fun _ h9 => h9) rfl dX5_isStop_13 ?_
    obtain ⟨h_16, hf⟩ := zg hf
    refine va_bald hx hb hK hP 1 1 rfl rfl h_16 dX5_isStop_16 ?_
    refine lv_bipush (v := (59 : Int32)) hx hb dX5_isStop_17 (by decide) ?_
    refine lv_icmp_ne (tgt := 26) hx hb dX5_isStop_19 (by decide) (fun c_19 => ?_) (fun c_19 => ?_)
    · have hf := zn hf c_19
      refine lv_iconst (v := (0 : Int32)) hx hb dX5_isStop_26 (by decide) ?_
      cases hf
      exact W.zret hx hb hr rfl (fun t ht hW => ⟨rfl, ht⟩) (fun q h => absurd h List.not_mem_nil) dX5_isStop_27
    · have hf := zp hf c_19
      refine lv_iconst (v := (1 : Int32)) hx hb dX5_isStop_22 (by decide) ?_
      refine lv_goto (tgt := 27) hx hb dX5_isStop_23 (by decide) ?_
      cases hf
      exact W.zret hx hb hr rfl (fun t ht hW => ⟨rfl, ht⟩) (fun q h => absurd h List.not_mem_nil) dX5_isStop_27
set_option maxRecDepth 100000 in
set_option maxHeartbeats 100000000 in
theorem mX5_readGuest (l : Launch) (D : va_G) (cy : Nat → ClassId) (st sk sv : Nat → Nat) (B : Nat) (at0 : Nat) (at1 : Nat) (at2 : Nat) (at3 : Nat) (at4 : Nat) (at5 : Nat) (aa0 : Nat) (aa1 : Nat) (sz : Nat) (n : Nat) (T_laws : (Nat → Int32)) (T_kind : (Nat → Int32)) (T_holds : (Nat → Int32)) (T_gone : (Nat → Int32)) (T_tells : (Nat → Int32)) (T_drowned : Int32) (T_count : Int32) (T_course : Int32) (T_told : Int32) (T_z : Int32) (A_bytes : (Nat → Int32)) (A_length : Int32) (A_place : Int32) (A_after : Int32) (A_sort : Int32) (A_number : Int32) (x2 : Int32) (z : Int32 × TB × TP) (hf : fX5_readGuest n (T_laws, T_kind, T_holds, T_gone, T_tells, T_drowned, T_count, T_course, T_told, T_z) (A_bytes, A_length, A_place, A_after, A_sort, A_number) x2 = some z) : Met l yX5_readGuest wsX5_readGuest ({ frames := 7, cells := 0, slots := 0, locals := 203 }) (PcW [.ref aa0, .ref at0, .int x2] D cy st sk sv B sz [(at0, .inr (4, [.ref at1, .ref at2, .ref at3, .ref at4, .ref at5, .int T_drowned, .int T_count, .int T_course, .int T_told, .int T_z])), (at1, .inl (cy 0, 4, .inl T_laws)), (at2, .inl (cy 0, 8, .inl T_kind)), (at3, .inl (cy 0, 8, .inl T_holds)), (at4, .inl (cy 0, 8, .inl T_gone)), (at5, .inl (cy 0, 8, .inl T_tells)), (aa0, .inr (5, [.ref aa1, .int A_length, .int A_place, .int A_after, .int A_sort, .int A_number])), (aa1, .inl (cy 1, 200, .inl A_bytes))]) (Qw (some (.int z.1)) D [(at0, .inr (4, [.ref at1, .ref at2, .ref at3, .ref at4, .ref at5, .int z.2.1.2.2.2.2.2.1, .int z.2.1.2.2.2.2.2.2.1, .int z.2.1.2.2.2.2.2.2.2.1, .int z.2.1.2.2.2.2.2.2.2.2.1, .int z.2.1.2.2.2.2.2.2.2.2.2])), (at1, .inl (cy 0, 4, .inl z.2.1.1)), (at2, .inl (cy 0, 8, .inl z.2.1.2.1)), (at3, .inl (cy 0, 8, .inl z.2.1.2.2.1)), (at4, .inl (cy 0, 8, .inl z.2.1.2.2.2.1)), (at5, .inl (cy 0, 8, .inl z.2.1.2.2.2.2.1)), (aa0, .inr (5, [.ref aa1, .int z.2.2.2.1, .int z.2.2.2.2.1, .int z.2.2.2.2.2.1, .int z.2.2.2.2.2.2.1, .int z.2.2.2.2.2.2.2])), (aa1, .inl (cy 1, 200, .inl z.2.2.1))] (va_A [(at0, .inr (4, [.ref at1, .ref at2, .ref at3, .ref at4, .ref at5, .int T_drowned, .int T_count, .int T_course, .int T_told, .int T_z])), (at1, .inl (cy 0, 4, .inl T_laws)), (at2, .inl (cy 0, 8, .inl T_kind)), (at3, .inl (cy 0, 8, .inl T_holds)), (at4, .inl (cy 0, 8, .inl T_gone)), (at5, .inl (cy 0, 8, .inl T_tells)), (aa0, .inr (5, [.ref aa1, .int A_length, .int A_place, .int A_after, .int A_sort, .int A_number])), (aa1, .inl (cy 1, 200, .inl A_bytes))] sz)) 0 0 (va_A [(at0, .inr (4, [.ref at1, .ref at2, .ref at3, .ref at4, .ref at5, .int T_drowned, .int T_count, .int T_course, .int T_told, .int T_z])), (at1, .inl (cy 0, 4, .inl T_laws)), (at2, .inl (cy 0, 8, .inl T_kind)), (at3, .inl (cy 0, 8, .inl T_holds)), (at4, .inl (cy 0, 8, .inl T_gone)), (at5, .inl (cy 0, 8, .inl T_tells)), (aa0, .inr (5, [.ref aa1, .int A_length, .int A_place, .int A_after, .int A_sort, .int A_number])), (aa1, .inl (cy 1, 200, .inl A_bytes))] sz) := by
  refine Met.ofW (cc := cX5_readGuest) (maxL := 4) (ret := (some .boolean)) (by decide) rfl ?_
  intro p e s m args below meth c s₁ Bd hml hv
  obtain ⟨rfl, hsz, hP, hD0, hBs, hG⟩ := hv
  have hx := Bd.exec
  have hb := Bd.bytes
  have hr := Bd.returns
  have hts := atoms_spec (ws := wsX5_readGuest) Bd.pre
  have hown : s.vm.findClass RX5 = some m.cls := findClass_of_methodNamed Bd.named
  have hlocks := Bd.notSynchronized
  have hK := hG.1
  subst hsz
  have hD := hD0.self (sz := s.heap.size)
  have hAB0 := zA hD0 hBs
  generalize hAe : va_A [(at0, .inr (4, [.ref at1, .ref at2, .ref at3, .ref at4, .ref at5, .int T_drowned, .int T_count, .int T_course, .int T_told, .int T_z])), (at1, .inl (cy 0, 4, .inl T_laws)), (at2, .inl (cy 0, 8, .inl T_kind)), (at3, .inl (cy 0, 8, .inl T_holds)), (at4, .inl (cy 0, 8, .inl T_gone)), (at5, .inl (cy 0, 8, .inl T_tells)), (aa0, .inr (5, [.ref aa1, .int A_length, .int A_place, .int A_after, .int A_sort, .int A_number])), (aa1, .inl (cy 1, 200, .inl A_bytes))] s.heap.size = A at hD hAB0 ⊢
  have hA : ∀ q : Nat, s.heap.size ≤ q → A q := fun q h => by rw [← hAe]; exact Or.inr h
  have hAB : ∀ q, A q → B ≤ q := hAB0
  have hS : va_S A s.heap s.heap [] := va_S.rf
  have hfin : ∀ (z0 : Int32) (T_laws : (Nat → Int32)) (T_kind : (Nat → Int32)) (T_holds : (Nat → Int32)) (T_gone : (Nat → Int32)) (T_tells : (Nat → Int32)) (T_drowned : Int32) (T_count : Int32) (T_course : Int32) (T_told : Int32) (T_z : Int32) (A_bytes : (Nat → Int32)) (A_length : Int32) (A_place : Int32) (A_after : Int32) (A_sort : Int32) (A_number : Int32), some (z0, (T_laws, T_kind, T_holds, T_gone, T_tells, T_drowned, T_count, T_course, T_told, T_z), (A_bytes, A_length, A_place, A_after, A_sort, A_number)) = some z → ∀ (H : Heap) (t : State), t.heap = H → va_P D vwCl [(at0, .inr (4, [.ref at1, .ref at2, .ref at3, .ref at4, .ref at5, .int T_drowned, .int T_count, .int T_course, .int T_told, .int T_z])), (at1, .inl (cy 0, 4, .inl T_laws)), (at2, .inl (cy 0, 8, .inl T_kind)), (at3, .inl (cy 0, 8, .inl T_holds)), (at4, .inl (cy 0, 8, .inl T_gone)), (at5, .inl (cy 0, 8, .inl T_tells)), (aa0, .inr (5, [.ref aa1, .int A_length, .int A_place, .int A_after, .int A_sort, .int A_number])), (aa1, .inl (cy 1, 200, .inl A_bytes))] H → va_F A s t → Qw (some (.int z.1)) D [(at0, .inr (4, [.ref at1, .ref at2, .ref at3, .ref at4, .ref at5, .int z.2.1.2.2.2.2.2.1, .int z.2.1.2.2.2.2.2.2.1, .int z.2.1.2.2.2.2.2.2.2.1, .int z.2.1.2.2.2.2.2.2.2.2.1, .int z.2.1.2.2.2.2.2.2.2.2.2])), (at1, .inl (cy 0, 4, .inl z.2.1.1)), (at2, .inl (cy 0, 8, .inl z.2.1.2.1)), (at3, .inl (cy 0, 8, .inl z.2.1.2.2.1)), (at4, .inl (cy 0, 8, .inl z.2.1.2.2.2.1)), (at5, .inl (cy 0, 8, .inl z.2.1.2.2.2.2.1)), (aa0, .inr (5, [.ref aa1, .int z.2.2.2.1, .int z.2.2.2.2.1, .int z.2.2.2.2.2.1, .int z.2.2.2.2.2.2.1, .int z.2.2.2.2.2.2.2])), (aa1, .inl (cy 1, 200, .inl z.2.2.1))] A ([.ref aa0, .ref at0, .int x2] : List Value).toArray s (.returned (some (.int z0))) t := by
    intro z0 T_laws T_kind T_holds T_gone T_tells T_drowned T_count T_course T_told T_z A_bytes A_length A_place A_after A_sort A_number h9 H t ht hP hF
    cases h9
    exact ⟨rfl, by rw [ht]; exact hP, hF⟩
  have hin4 : ∀ w ∈ u_ws RX4 TX4 10, w ∈ wsX5_readGuest := by decide +kernel
  have hin5 : ∀ w ∈ u_ws RX5 TX5 6, w ∈ wsX5_readGuest := by decide +kernel
  have fl52 := hts (.fieldLink RX5 52 "KinCutlery$Tape" "number" "I") (by decide +kernel)
  have fl79 := hts (.fieldLink RX5 79 "KinCutlery$Table" "gone" "[I") (by decide +kernel)
  have hB91 : ∀ (T_laws : (Nat → Int32)) (T_kind : (Nat → Int32)) (T_holds : (Nat → Int32)) (T_gone : (Nat → Int32)) (T_tells : (Nat → Int32)) (T_drowned : Int32) (T_count : Int32) (T_course : Int32) (T_told : Int32) (T_z : Int32) (A_bytes : (Nat → Int32)) (A_length : Int32) (A_place : Int32) (A_after : Int32) (A_sort : Int32) (A_number : Int32), fX5_readGuest_b91 n x2  (T_laws, T_kind, T_holds, T_gone, T_tells, T_drowned, T_count, T_course, T_told, T_z) (A_bytes, A_length, A_place, A_after, A_sort, A_number) = some z → ∀ (H : Heap) (locs : List Loc), va_P D vwCl [(at0, .inr (4, [.ref at1, .ref at2, .ref at3, .ref at4, .ref at5, .int T_drowned, .int T_count, .int T_course, .int T_told, .int T_z])), (at1, .inl (cy 0, 4, .inl T_laws)), (at2, .inl (cy 0, 8, .inl T_kind)), (at3, .inl (cy 0, 8, .inl T_holds)), (at4, .inl (cy 0, 8, .inl T_gone)), (at5, .inl (cy 0, 8, .inl T_tells)), (aa0, .inr (5, [.ref aa1, .int A_length, .int A_place, .int A_after, .int A_sort, .int A_number])), (aa1, .inl (cy 1, 200, .inl A_bytes))] H → va_D A [(at0, .inr (4, [.ref at1, .ref at2, .ref at3, .ref at4, .ref at5, .int T_drowned, .int T_count, .int T_course, .int T_told, .int T_z])), (at1, .inl (cy 0, 4, .inl T_laws)), (at2, .inl (cy 0, 8, .inl T_kind)), (at3, .inl (cy 0, 8, .inl T_holds)), (at4, .inl (cy 0, 8, .inl T_gone)), (at5, .inl (cy 0, 8, .inl T_tells)), (aa0, .inr (5, [.ref aa1, .int A_length, .int A_place, .int A_after, .int A_sort, .int A_number])), (aa1, .inl (cy 1, 200, .inl A_bytes))] → va_S A s.heap H locs → ∀ (ls : Array Slot), lv_has ls 4 [(0, .ref aa0), (1, .ref at0), (2, .int x2)] → W p l e (headSpec wsX5_readGuest ({ frames := 7, cells := 0, slots := 0, locals := 203 })).room s m ([.ref aa0, .ref at0, .int x2] : List Value).toArray below meth c H locs 0 0 (MQ below (Qw (some (.int z.1)) D [(at0, .inr (4, [.ref at1, .ref at2, .ref at3, .ref at4, .ref at5, .int z.2.1.2.2.2.2.2.1, .int z.2.1.2.2.2.2.2.2.1, .int z.2.1.2.2.2.2.2.2.2.1, .int z.2.1.2.2.2.2.2.2.2.2.1, .int z.2.1.2.2.2.2.2.2.2.2.2])), (at1, .inl (cy 0, 4, .inl z.2.1.1)), (at2, .inl (cy 0, 8, .inl z.2.1.2.1)), (at3, .inl (cy 0, 8, .inl z.2.1.2.2.1)), (at4, .inl (cy 0, 8, .inl z.2.1.2.2.2.1)), (at5, .inl (cy 0, 8, .inl z.2.1.2.2.2.2.1)), (aa0, .inr (5, [.ref aa1, .int z.2.2.2.1, .int z.2.2.2.2.1, .int z.2.2.2.2.2.1, .int z.2.2.2.2.2.2.1, .int z.2.2.2.2.2.2.2])), (aa1, .inl (cy 1, 200, .inl z.2.2.1))] A) ([.ref aa0, .ref at0, .int x2] : List Value).toArray s 0 0 A) (F0 m 91 ls []) := by
    intro T_laws T_kind T_holds T_gone T_tells T_drowned T_count T_course T_told T_z A_bytes A_length A_place A_after A_sort A_number hf H locs hP hD hS ls hl
    have hf : ((fX5_isStop n (A_bytes, A_length, A_place, A_after, A_sort, A_number)).bind fun r92 => if ¬ (r92 = 0 ∨ r92 = 1) then none else some (r92, (T_laws, T_kind, T_holds, T_gone, T_tells, T_drowned, T_count, T_course, T_told, T_z), (A_bytes, A_length, A_place, A_after, A_sort, A_number))) = some z := hf
    refine lv_aload_n hx hb dX5_readGuest_91 rfl (lv_at hl 0 rfl) ?_
    obtain ⟨r92, hc92, hf⟩ := zb hf
    refine zvr (o := some (.int r92)) (As := []) (rest := []) (stk := [.int r92]) ⟨hx, hb, hml, hown, hts⟩ (mX5_isStop l D cy st sk sv B aa0 aa1 n A_bytes A_length A_place A_after A_sort A_number r92 hc92) (cwV 0 hts gX5_readGuest_X5_isStop rfl rfl rfl (by decide +kernel) ⟨Nat.le_of_ble_eq_true rfl, Nat.le_of_ble_eq_true rfl⟩) hG hS hAB hP [6, 7] rfl 0 5 rfl rfl rfl rfl hl.1 rfl (Nat.le_of_ble_eq_true rfl) dX5_readGuest_92 rfl ?_
    obtain ⟨h_95, hf⟩ := zg hf
    exact W.zret hx hb hr (nz_b h_95).1 (fun t ht hW => hfin r92 T_laws T_kind T_holds T_gone T_tells T_drowned T_count T_course T_told T_z A_bytes A_length A_place A_after A_sort A_number hf _ t ht hP (hS.F ht)) hS.2.2 dX5_readGuest_95
  have hB72 : ∀ (T_laws : (Nat → Int32)) (T_kind : (Nat → Int32)) (T_holds : (Nat → Int32)) (T_gone : (Nat → Int32)) (T_tells : (Nat → Int32)) (T_drowned : Int32) (T_count : Int32) (T_course : Int32) (T_told : Int32) (T_z : Int32) (A_bytes : (Nat → Int32)) (A_length : Int32) (A_place : Int32) (A_after : Int32) (A_sort : Int32) (A_number : Int32) (y3 : Int32), fX5_readGuest_b72 n x2  (T_laws, T_kind, T_holds, T_gone, T_tells, T_drowned, T_count, T_course, T_told, T_z) (A_bytes, A_length, A_place, A_after, A_sort, A_number) y3 = some z → ∀ (H : Heap) (locs : List Loc), va_P D vwCl [(at0, .inr (4, [.ref at1, .ref at2, .ref at3, .ref at4, .ref at5, .int T_drowned, .int T_count, .int T_course, .int T_told, .int T_z])), (at1, .inl (cy 0, 4, .inl T_laws)), (at2, .inl (cy 0, 8, .inl T_kind)), (at3, .inl (cy 0, 8, .inl T_holds)), (at4, .inl (cy 0, 8, .inl T_gone)), (at5, .inl (cy 0, 8, .inl T_tells)), (aa0, .inr (5, [.ref aa1, .int A_length, .int A_place, .int A_after, .int A_sort, .int A_number])), (aa1, .inl (cy 1, 200, .inl A_bytes))] H → va_D A [(at0, .inr (4, [.ref at1, .ref at2, .ref at3, .ref at4, .ref at5, .int T_drowned, .int T_count, .int T_course, .int T_told, .int T_z])), (at1, .inl (cy 0, 4, .inl T_laws)), (at2, .inl (cy 0, 8, .inl T_kind)), (at3, .inl (cy 0, 8, .inl T_holds)), (at4, .inl (cy 0, 8, .inl T_gone)), (at5, .inl (cy 0, 8, .inl T_tells)), (aa0, .inr (5, [.ref aa1, .int A_length, .int A_place, .int A_after, .int A_sort, .int A_number])), (aa1, .inl (cy 1, 200, .inl A_bytes))] → va_S A s.heap H locs → ∀ (ls : Array Slot), lv_has ls 4 [(0, .ref aa0), (1, .ref at0), (2, .int x2), (3, .int y3)] → W p l e (headSpec wsX5_readGuest ({ frames := 7, cells := 0, slots := 0, locals := 203 })).room s m ([.ref aa0, .ref at0, .int x2] : List Value).toArray below meth c H locs 0 0 (MQ below (Qw (some (.int z.1)) D [(at0, .inr (4, [.ref at1, .ref at2, .ref at3, .ref at4, .ref at5, .int z.2.1.2.2.2.2.2.1, .int z.2.1.2.2.2.2.2.2.1, .int z.2.1.2.2.2.2.2.2.2.1, .int z.2.1.2.2.2.2.2.2.2.2.1, .int z.2.1.2.2.2.2.2.2.2.2.2])), (at1, .inl (cy 0, 4, .inl z.2.1.1)), (at2, .inl (cy 0, 8, .inl z.2.1.2.1)), (at3, .inl (cy 0, 8, .inl z.2.1.2.2.1)), (at4, .inl (cy 0, 8, .inl z.2.1.2.2.2.1)), (at5, .inl (cy 0, 8, .inl z.2.1.2.2.2.2.1)), (aa0, .inr (5, [.ref aa1, .int z.2.2.2.1, .int z.2.2.2.2.1, .int z.2.2.2.2.2.1, .int z.2.2.2.2.2.2.1, .int z.2.2.2.2.2.2.2])), (aa1, .inl (cy 1, 200, .inl z.2.2.1))] A) ([.ref aa0, .ref at0, .int x2] : List Value).toArray s 0 0 A) (F0 m 72 ls []) := by
    intro T_laws T_kind T_holds T_gone T_tells T_drowned T_count T_course T_told T_z A_bytes A_length A_place A_after A_sort A_number y3 hf H locs hP hD hS ls hl
    have hf : ((fX5_isName n (A_bytes, A_length, A_place, A_after, A_sort, A_number) 8).bind fun r75 => if r75 = 0 then (fX5_readGuest_b91 n x2  (T_laws, T_kind, T_holds, T_gone, T_tells, T_drowned, T_count, T_course, T_told, T_z) (A_bytes, A_length, A_place, A_after, A_sort, A_number)) else ((fX4_drown n (T_laws, T_kind, T_holds, T_gone, T_tells, T_drowned, T_count, T_course, T_told, T_z) y3 (1 : Int32)).bind fun r84 => (fX5_step n (A_bytes, A_length, A_place, A_after, A_sort, A_number)).bind fun r88 => fX5_readGuest_b91 n x2  r84 r88)) = some z := hf
    refine lv_aload_n hx hb dX5_readGuest_72 rfl (lv_at hl 0 rfl) ?_
    refine va_ldcS (q := sk 8) hx hb hown (hG.2.2.2.2.2.2 8 (by decide)) dX5_readGuest_73 ?_
    obtain ⟨r75, hc75, hf⟩ := zb hf
    refine zvr (o := some (.int r75)) (As := [.ref (sk 8)]) (rest := []) (stk := [.int r75]) ⟨hx, hb, hml, hown, hts⟩ (mX5_isName l D cy st sk sv B aa0 aa1 n A_bytes A_length A_place A_after A_sort A_number 8 (by decide) r75 hc75) (cwV 1 hts gX5_readGuest_X5_isName rfl rfl rfl (by decide +kernel) ⟨Nat.le_of_ble_eq_true rfl, Nat.le_of_ble_eq_true rfl⟩) hG hS hAB hP [6, 7] rfl 0 5 rfl rfl rfl rfl hl.1 rfl (Nat.le_of_ble_eq_true rfl) dX5_readGuest_75 rfl ?_
    refine lv_if_eq (tgt := 91) hx hb dX5_readGuest_78 (by decide) (fun c_78 => ?_) (fun c_78 => ?_)
    · have hf := zp hf c_78
      exact hB91 T_laws T_kind T_holds T_gone T_tells T_drowned T_count T_course T_told T_z A_bytes A_length A_place A_after A_sort A_number hf _ _ hP hD hS _ (lv_sub hl [0, 1, 2] rfl)
    · have hf := zn hf c_78
      refine lv_aload_n hx hb dX5_readGuest_81 rfl (lv_at hl 1 rfl) ?_
      refine lv_iload_n hx hb dX5_readGuest_82 rfl (lv_at hl 3 rfl) ?_
      refine lv_iconst (v := (1 : Int32)) hx hb dX5_readGuest_83 (by decide) ?_
      obtain ⟨r84, hc84, hf⟩ := zb hf
      refine zvw (o := none) (As := [.int y3, .int (1 : Int32)]) (rest := []) (stk := []) ⟨hx, hb, hml, hown, hts⟩ (mX4_drown l D cy st sk sv B at0 at1 at2 at3 at4 at5 _ n T_laws T_kind T_holds T_gone T_tells T_drowned T_count T_course T_told T_z y3 (1 : Int32) r84 hc84) (cwV 2 hts gX5_readGuest_X4_drown rfl rfl rfl (by decide +kernel) ⟨Nat.le_of_ble_eq_true rfl, Nat.le_of_ble_eq_true rfl⟩) hG hS hAB hA hP hD [0, 1, 2, 3, 4, 5] (by decide) rfl rfl rfl rfl 0 4 rfl rfl rfl rfl hl.1 rfl (Nat.le_of_ble_eq_true rfl) dX5_readGuest_84 rfl (fun H locs hP hD hS => ?_)
      have hP : va_P D vwCl [(at0, .inr (4, [.ref at1, .ref at2, .ref at3, .ref at4, .ref at5, .int r84.2.2.2.2.2.1, .int r84.2.2.2.2.2.2.1, .int r84.2.2.2.2.2.2.2.1, .int r84.2.2.2.2.2.2.2.2.1, .int r84.2.2.2.2.2.2.2.2.2])), (at1, .inl (cy 0, 4, .inl r84.1)), (at2, .inl (cy 0, 8, .inl r84.2.1)), (at3, .inl (cy 0, 8, .inl r84.2.2.1)), (at4, .inl (cy 0, 8, .inl r84.2.2.2.1)), (at5, .inl (cy 0, 8, .inl r84.2.2.2.2.1)), (aa0, .inr (5, [.ref aa1, .int A_length, .int A_place, .int A_after, .int A_sort, .int A_number])), (aa1, .inl (cy 1, 200, .inl A_bytes))] H := hP
      have hD : va_D A [(at0, .inr (4, [.ref at1, .ref at2, .ref at3, .ref at4, .ref at5, .int r84.2.2.2.2.2.1, .int r84.2.2.2.2.2.2.1, .int r84.2.2.2.2.2.2.2.1, .int r84.2.2.2.2.2.2.2.2.1, .int r84.2.2.2.2.2.2.2.2.2])), (at1, .inl (cy 0, 4, .inl r84.1)), (at2, .inl (cy 0, 8, .inl r84.2.1)), (at3, .inl (cy 0, 8, .inl r84.2.2.1)), (at4, .inl (cy 0, 8, .inl r84.2.2.2.1)), (at5, .inl (cy 0, 8, .inl r84.2.2.2.2.1)), (aa0, .inr (5, [.ref aa1, .int A_length, .int A_place, .int A_after, .int A_sort, .int A_number])), (aa1, .inl (cy 1, 200, .inl A_bytes))] := hD
      refine lv_aload_n hx hb dX5_readGuest_87 rfl (lv_at hl 0 rfl) ?_
      obtain ⟨r88, hc88, hf⟩ := zb hf
      refine zvw (o := none) (As := []) (rest := []) (stk := []) ⟨hx, hb, hml, hown, hts⟩ (mX5_step l D cy st sk sv B aa0 aa1 _ n A_bytes A_length A_place A_after A_sort A_number r88 hc88) (cwV 0 hts gX5_readGuest_X5_step rfl rfl rfl (by decide +kernel) ⟨Nat.le_of_ble_eq_true rfl, Nat.le_of_ble_eq_true rfl⟩) hG hS hAB hA hP hD [6, 7] (by decide) rfl rfl rfl rfl 0 5 rfl rfl rfl rfl hl.1 rfl (Nat.le_of_ble_eq_true rfl) dX5_readGuest_88 rfl (fun H locs hP hD hS => ?_)
      have hP : va_P D vwCl [(at0, .inr (4, [.ref at1, .ref at2, .ref at3, .ref at4, .ref at5, .int r84.2.2.2.2.2.1, .int r84.2.2.2.2.2.2.1, .int r84.2.2.2.2.2.2.2.1, .int r84.2.2.2.2.2.2.2.2.1, .int r84.2.2.2.2.2.2.2.2.2])), (at1, .inl (cy 0, 4, .inl r84.1)), (at2, .inl (cy 0, 8, .inl r84.2.1)), (at3, .inl (cy 0, 8, .inl r84.2.2.1)), (at4, .inl (cy 0, 8, .inl r84.2.2.2.1)), (at5, .inl (cy 0, 8, .inl r84.2.2.2.2.1)), (aa0, .inr (5, [.ref aa1, .int r88.2.1, .int r88.2.2.1, .int r88.2.2.2.1, .int r88.2.2.2.2.1, .int r88.2.2.2.2.2])), (aa1, .inl (cy 1, 200, .inl r88.1))] H := hP
      have hD : va_D A [(at0, .inr (4, [.ref at1, .ref at2, .ref at3, .ref at4, .ref at5, .int r84.2.2.2.2.2.1, .int r84.2.2.2.2.2.2.1, .int r84.2.2.2.2.2.2.2.1, .int r84.2.2.2.2.2.2.2.2.1, .int r84.2.2.2.2.2.2.2.2.2])), (at1, .inl (cy 0, 4, .inl r84.1)), (at2, .inl (cy 0, 8, .inl r84.2.1)), (at3, .inl (cy 0, 8, .inl r84.2.2.1)), (at4, .inl (cy 0, 8, .inl r84.2.2.2.1)), (at5, .inl (cy 0, 8, .inl r84.2.2.2.2.1)), (aa0, .inr (5, [.ref aa1, .int r88.2.1, .int r88.2.2.1, .int r88.2.2.2.1, .int r88.2.2.2.2.1, .int r88.2.2.2.2.2])), (aa1, .inl (cy 1, 200, .inl r88.1))] := hD
      exact hB91 r84.1 r84.2.1 r84.2.2.1 r84.2.2.2.1 r84.2.2.2.2.1 r84.2.2.2.2.2.1 r84.2.2.2.2.2.2.1 r84.2.2.2.2.2.2.2.1 r84.2.2.2.2.2.2.2.2.1 r84.2.2.2.2.2.2.2.2.2 r88.1 r88.2.1 r88.2.2.1 r88.2.2.2.1 r88.2.2.2.2.1 r88.2.2.2.2.2 hf _ _ hP hD hS _ (lv_sub hl [0, 1, 2] rfl)
  have hl := lv_entry ([.ref aa0, .ref at0, .int x2]) (n := 4) (Nat.le_of_ble_eq_true rfl)
  rw [lg_entry_eq]
  generalize (lg_sl ([.ref aa0, .ref at0, .int x2]) ++ List.replicate (4 - (lg_sl ([.ref aa0, .ref at0, .int x2])).length) Slot.unset).toArray = ls at hl ⊢
  have hl : lv_has ls 4 [(0, .ref aa0), (1, .ref at0), (2, .int x2)] := hl
  have hf : ((fX5_step n (A_bytes, A_length, A_place, A_after, A_sort, A_number)).bind fun r1 => (fX5_isName n r1 6).bind fun r7 => if r7 = 0 then (some ((0 : Int32), (T_laws, T_kind, T_holds, T_gone, T_tells, T_drowned, T_count, T_course, T_told, T_z), r1)) else ((fX5_readNumber n r1 (7 : Int32)).bind fun r16 => if r16.1 = 0 then (some ((0 : Int32), (T_laws, T_kind, T_holds, T_gone, T_tells, T_drowned, T_count, T_course, T_told, T_z), r16.2)) else ((fX4_seat n (T_laws, T_kind, T_holds, T_gone, T_tells, T_drowned, T_count, T_course, T_told, T_z) x2 r16.2.2.2.2.2.2).bind fun r30 => (fX5_step n r16.2).bind fun r35 => (fX5_isName n r35 7).bind fun r41 => if r41 = 0 then (fX5_readGuest_b72 n x2  r30.2 r35 r30.1) else ((fX5_readNumber n r35 (99 : Int32)).bind fun r50 => if r50.1 = 0 then (some ((0 : Int32), r30.2, r50.2)) else (if r30.1 < 0 ∨ 8 ≤ r30.1.toNatClampNeg then none else (fX5_step n r50.2).bind fun r69 => fX5_readGuest_b72 n x2  (r30.2.1, r30.2.2.1, r30.2.2.2.1, (upd r30.2.2.2.2.1 r30.1.toNatClampNeg r50.2.2.2.2.2.2), r30.2.2.2.2.2.1, r30.2.2.2.2.2.2.1, r30.2.2.2.2.2.2.2.1, r30.2.2.2.2.2.2.2.2.1, r30.2.2.2.2.2.2.2.2.2.1, r30.2.2.2.2.2.2.2.2.2.2) r69 r30.1))))) = some z := hf
  refine lv_aload_n hx hb dX5_readGuest_0 rfl (lv_at hl 0 rfl) ?_
  obtain ⟨r1, hc1, hf⟩ := zb hf
  refine zvw (o := none) (As := []) (rest := []) (stk := []) ⟨hx, hb, hml, hown, hts⟩ (mX5_step l D cy st sk sv B aa0 aa1 _ n A_bytes A_length A_place A_after A_sort A_number r1 hc1) (cwV 0 hts gX5_readGuest_X5_step rfl rfl rfl (by decide +kernel) ⟨Nat.le_of_ble_eq_true rfl, Nat.le_of_ble_eq_true rfl⟩) hG hS hAB hA hP hD [6, 7] (by decide) rfl rfl rfl rfl 0 5 rfl rfl rfl rfl hl.1 rfl (Nat.le_of_ble_eq_true rfl) dX5_readGuest_1 rfl (fun H locs hP hD hS => ?_)
  have hP : va_P D vwCl [(at0, .inr (4, [.ref at1, .ref at2, .ref at3, .ref at4, .ref at5, .int T_drowned, .int T_count, .int T_course, .int T_told, .int T_z])), (at1, .inl (cy 0, 4, .inl T_laws)), (at2, .inl (cy 0, 8, .inl T_kind)), (at3, .inl (cy 0, 8, .inl T_holds)), (at4, .inl (cy 0, 8, .inl T_gone)), (at5, .inl (cy 0, 8, .inl T_tells)), (aa0, .inr (5, [.ref aa1, .int r1.2.1, .int r1.2.2.1, .int r1.2.2.2.1, .int r1.2.2.2.2.1, .int r1.2.2.2.2.2])), (aa1, .inl (cy 1, 200, .inl r1.1))] H := hP
  have hD : va_D A [(at0, .inr (4, [.ref at1, .ref at2, .ref at3, .ref at4, .ref at5, .int T_drowned, .int T_count, .int T_course, .int T_told, .int T_z])), (at1, .inl (cy 0, 4, .inl T_laws)), (at2, .inl (cy 0, 8, .inl T_kind)), (at3, .inl (cy 0, 8, .inl T_holds)), (at4, .inl (cy 0, 8, .inl T_gone)), (at5, .inl (cy 0, 8, .inl T_tells)), (aa0, .inr (5, [.ref aa1, .int r1.2.1, .int r1.2.2.1, .int r1.2.2.2.1, .int r1.2.2.2.2.1, .int r1.2.2.2.2.2])), (aa1, .inl (cy 1, 200, .inl r1.1))] := hD
  refine lv_aload_n hx hb dX5_readGuest_4 rfl (lv_at hl 0 rfl) ?_
  refine va_ldcS (q := sk 6) hx hb hown (hG.2.2.2.2.2.2 6 (by decide)) dX5_readGuest_5 ?_
  obtain ⟨r7, hc7, hf⟩ := zb hf
  refine zvr (o := some (.int r7)) (As := [.ref (sk 6)]) (rest := []) (stk := [.int r7]) ⟨hx, hb, hml, hown, hts⟩ (mX5_isName l D cy st sk sv B aa0 aa1 n r1.1 r1.2.1 r1.2.2.1 r1.2.2.2.1 r1.2.2.2.2.1 r1.2.2.2.2.2 6 (by decide) r7 hc7) (cwV 1 hts gX5_readGuest_X5_isName rfl rfl rfl (by decide +kernel) ⟨Nat.le_of_ble_eq_true rfl, Nat.le_of_ble_eq_true rfl⟩) hG hS hAB hP [6, 7] rfl 0 5 rfl rfl rfl rfl hl.1 rfl (Nat.le_of_ble_eq_true rfl) dX5_readGuest_7 rfl ?_
  refine lv_if_eq (tgt := 22) hx hb dX5_readGuest_10 (by decide) (fun c_10 => ?_) (fun c_10 => ?_)
  · have hf := zp hf c_10
    refine lv_iconst (v := (0 : Int32)) hx hb dX5_readGuest_22 (by decide) ?_
    exact W.zret hx hb hr rfl (fun t ht hW => hfin (0 : Int32) T_laws T_kind T_holds T_gone T_tells T_drowned T_count T_course T_told T_z r1.1 r1.2.1 r1.2.2.1 r1.2.2.2.1 r1.2.2.2.2.1 r1.2.2.2.2.2 hf _ t ht hP (hS.F ht)) hS.2.2 dX5_readGuest_23
  · have hf := zn hf c_10
    refine lv_aload_n hx hb dX5_readGuest_13 rfl (lv_at hl 0 rfl) ?_
    refine lv_bipush (v := (7 : Int32)) hx hb dX5_readGuest_14 (by decide) ?_
    obtain ⟨r16, hc16, hf⟩ := zb hf
    refine zvw (o := some (.int r16.1)) (As := [.int (7 : Int32)]) (rest := []) (stk := [.int r16.1]) ⟨hx, hb, hml, hown, hts⟩ (mX5_readNumber l D cy st sk sv B aa0 aa1 _ n r1.1 r1.2.1 r1.2.2.1 r1.2.2.2.1 r1.2.2.2.2.1 r1.2.2.2.2.2 (7 : Int32) r16 hc16) (cwV 1 hts gX5_readGuest_X5_readNumber rfl rfl rfl (by decide +kernel) ⟨Nat.le_of_ble_eq_true rfl, Nat.le_of_ble_eq_true rfl⟩) hG hS hAB hA hP hD [6, 7] (by decide) rfl rfl rfl rfl 0 5 rfl rfl rfl rfl hl.1 rfl (Nat.le_of_ble_eq_true rfl) dX5_readGuest_16 rfl (fun H locs hP hD hS => ?_)
    have hP : va_P D vwCl [(at0, .inr (4, [.ref at1, .ref at2, .ref at3, .ref at4, .ref at5, .int T_drowned, .int T_count, .int T_course, .int T_told, .int T_z])), (at1, .inl (cy 0, 4, .inl T_laws)), (at2, .inl (cy 0, 8, .inl T_kind)), (at3, .inl (cy 0, 8, .inl T_holds)), (at4, .inl (cy 0, 8, .inl T_gone)), (at5, .inl (cy 0, 8, .inl T_tells)), (aa0, .inr (5, [.ref aa1, .int r16.2.2.1, .int r16.2.2.2.1, .int r16.2.2.2.2.1, .int r16.2.2.2.2.2.1, .int r16.2.2.2.2.2.2])), (aa1, .inl (cy 1, 200, .inl r16.2.1))] H := hP
    have hD : va_D A [(at0, .inr (4, [.ref at1, .ref at2, .ref at3, .ref at4, .ref at5, .int T_drowned, .int T_count, .int T_course, .int T_told, .int T_z])), (at1, .inl (cy 0, 4, .inl T_laws)), (at2, .inl (cy 0, 8, .inl T_kind)), (at3, .inl (cy 0, 8, .inl T_holds)), (at4, .inl (cy 0, 8, .inl T_gone)), (at5, .inl (cy 0, 8, .inl T_tells)), (aa0, .inr (5, [.ref aa1, .int r16.2.2.1, .int r16.2.2.2.1, .int r16.2.2.2.2.1, .int r16.2.2.2.2.2.1, .int r16.2.2.2.2.2.2])), (aa1, .inl (cy 1, 200, .inl r16.2.1))] := hD
    refine lv_if_ne (tgt := 24) hx hb dX5_readGuest_19 (by decide) (fun c_19 => ?_) (fun c_19 => ?_)
    · have hf := zn hf c_19
      refine lv_aload_n hx hb dX5_readGuest_24 rfl (lv_at hl 1 rfl) ?_
      refine lv_iload_n hx hb dX5_readGuest_25 rfl (lv_at hl 2 rfl) ?_
      refine lv_aload_n hx hb dX5_readGuest_26 rfl (lv_at hl 0 rfl) ?_
      refine va_get (D := D) (ci := 5) (v := .int r16.2.2.2.2.2.2) (C := RX5) (T := TX5) (N := 6) hx hb hts hin5 hown hK hP 6 rfl rfl 5 (by decide) fl52 (fun _ h9 => h9) rfl dX5_readGuest_27 ?_
      obtain ⟨r30, hc30, hf⟩ := zb hf
      refine zvw (o := some (.int r30.1)) (As := [.int x2, .int r16.2.2.2.2.2.2]) (rest := []) (stk := [.int r30.1]) ⟨hx, hb, hml, hown, hts⟩ (mX4_seat l D cy st sk sv B at0 at1 at2 at3 at4 at5 _ n T_laws T_kind T_holds T_gone T_tells T_drowned T_count T_course T_told T_z x2 r16.2.2.2.2.2.2 r30 hc30) (cwV 2 hts gX5_readGuest_X4_seat rfl rfl rfl (by decide +kernel) ⟨Nat.le_of_ble_eq_true rfl, Nat.le_of_ble_eq_true rfl⟩) hG hS hAB hA hP hD [0, 1, 2, 3, 4, 5] (by decide) rfl rfl rfl rfl 0 4 rfl rfl rfl rfl hl.1 rfl (Nat.le_of_ble_eq_true rfl) dX5_readGuest_30 rfl (fun H locs hP hD hS => ?_)
      have hP : va_P D vwCl [(at0, .inr (4, [.ref at1, .ref at2, .ref at3, .ref at4, .ref at5, .int r30.2.2.2.2.2.2.1, .int r30.2.2.2.2.2.2.2.1, .int r30.2.2.2.2.2.2.2.2.1, .int r30.2.2.2.2.2.2.2.2.2.1, .int r30.2.2.2.2.2.2.2.2.2.2])), (at1, .inl (cy 0, 4, .inl r30.2.1)), (at2, .inl (cy 0, 8, .inl r30.2.2.1)), (at3, .inl (cy 0, 8, .inl r30.2.2.2.1)), (at4, .inl (cy 0, 8, .inl r30.2.2.2.2.1)), (at5, .inl (cy 0, 8, .inl r30.2.2.2.2.2.1)), (aa0, .inr (5, [.ref aa1, .int r16.2.2.1, .int r16.2.2.2.1, .int r16.2.2.2.2.1, .int r16.2.2.2.2.2.1, .int r16.2.2.2.2.2.2])), (aa1, .inl (cy 1, 200, .inl r16.2.1))] H := hP
      have hD : va_D A [(at0, .inr (4, [.ref at1, .ref at2, .ref at3, .ref at4, .ref at5, .int r30.2.2.2.2.2.2.1, .int r30.2.2.2.2.2.2.2.1, .int r30.2.2.2.2.2.2.2.2.1, .int r30.2.2.2.2.2.2.2.2.2.1, .int r30.2.2.2.2.2.2.2.2.2.2])), (at1, .inl (cy 0, 4, .inl r30.2.1)), (at2, .inl (cy 0, 8, .inl r30.2.2.1)), (at3, .inl (cy 0, 8, .inl r30.2.2.2.1)), (at4, .inl (cy 0, 8, .inl r30.2.2.2.2.1)), (at5, .inl (cy 0, 8, .inl r30.2.2.2.2.2.1)), (aa0, .inr (5, [.ref aa1, .int r16.2.2.1, .int r16.2.2.2.1, .int r16.2.2.2.2.1, .int r16.2.2.2.2.2.1, .int r16.2.2.2.2.2.2])), (aa1, .inl (cy 1, 200, .inl r16.2.1))] := hD
      refine lv_istore_n (lv' := [(3, .int r30.1), (0, .ref aa0), (1, .ref at0), (2, .int x2)]) hx hb dX5_readGuest_33 rfl hl (by decide) rfl (fun ls hl => ?_)
      refine lv_aload_n hx hb dX5_readGuest_34 rfl (lv_at hl 1 rfl) ?_
      obtain ⟨r35, hc35, hf⟩ := zb hf
      refine zvw (o := none) (As := []) (rest := []) (stk := []) ⟨hx, hb, hml, hown, hts⟩ (mX5_step l D cy st sk sv B aa0 aa1 _ n r16.2.1 r16.2.2.1 r16.2.2.2.1 r16.2.2.2.2.1 r16.2.2.2.2.2.1 r16.2.2.2.2.2.2 r35 hc35) (cwV 0 hts gX5_readGuest_X5_step rfl rfl rfl (by decide +kernel) ⟨Nat.le_of_ble_eq_true rfl, Nat.le_of_ble_eq_true rfl⟩) hG hS hAB hA hP hD [6, 7] (by decide) rfl rfl rfl rfl 0 5 rfl rfl rfl rfl hl.1 rfl (Nat.le_of_ble_eq_true rfl) dX5_readGuest_35 rfl (fun H locs hP hD hS => ?_)
      have hP : va_P D vwCl [(at0, .inr (4, [.ref at1, .ref at2, .ref at3, .ref at4, .ref at5, .int r30.2.2.2.2.2.2.1, .int r30.2.2.2.2.2.2.2.1, .int r30.2.2.2.2.2.2.2.2.1, .int r30.2.2.2.2.2.2.2.2.2.1, .int r30.2.2.2.2.2.2.2.2.2.2])), (at1, .inl (cy 0, 4, .inl r30.2.1)), (at2, .inl (cy 0, 8, .inl r30.2.2.1)), (at3, .inl (cy 0, 8, .inl r30.2.2.2.1)), (at4, .inl (cy 0, 8, .inl r30.2.2.2.2.1)), (at5, .inl (cy 0, 8, .inl r30.2.2.2.2.2.1)), (aa0, .inr (5, [.ref aa1, .int r35.2.1, .int r35.2.2.1, .int r35.2.2.2.1, .int r35.2.2.2.2.1, .int r35.2.2.2.2.2])), (aa1, .inl (cy 1, 200, .inl r35.1))] H := hP
      have hD : va_D A [(at0, .inr (4, [.ref at1, .ref at2, .ref at3, .ref at4, .ref at5, .int r30.2.2.2.2.2.2.1, .int r30.2.2.2.2.2.2.2.1, .int r30.2.2.2.2.2.2.2.2.1, .int r30.2.2.2.2.2.2.2.2.2.1, .int r30.2.2.2.2.2.2.2.2.2.2])), (at1, .inl (cy 0, 4, .inl r30.2.1)), (at2, .inl (cy 0, 8, .inl r30.2.2.1)), (at3, .inl (cy 0, 8, .inl r30.2.2.2.1)), (at4, .inl (cy 0, 8, .inl r30.2.2.2.2.1)), (at5, .inl (cy 0, 8, .inl r30.2.2.2.2.2.1)), (aa0, .inr (5, [.ref aa1, .int r35.2.1, .int r35.2.2.1, .int r35.2.2.2.1, .int r35.2.2.2.2.1, .int r35.2.2.2.2.2])), (aa1, .inl (cy 1, 200, .inl r35.1))] := hD
      refine lv_aload_n hx hb dX5_readGuest_38 rfl (lv_at hl 1 rfl) ?_
      refine va_ldcS (q := sk 7) hx hb hown (hG.2.2.2.2.2.2 7 (by decide)) dX5_readGuest_39 ?_
      obtain ⟨r41, hc41, hf⟩ := zb hf
      refine zvr (o := some (.int r41)) (As := [.ref (sk 7)]) (rest := []) (stk := [.int r41]) ⟨hx, hb, hml, hown, hts⟩ (mX5_isName l D cy st sk sv B aa0 aa1 n r35.1 r35.2.1 r35.2.2.1 r35.2.2.2.1 r35.2.2.2.2.1 r35.2.2.2.2.2 7 (by decide) r41 hc41) (cwV 1 hts gX5_readGuest_X5_isName rfl rfl rfl (by decide +kernel) ⟨Nat.le_of_ble_eq_true rfl, Nat.le_of_ble_eq_true rfl⟩) hG hS hAB hP [6, 7] rfl 0 5 rfl rfl rfl rfl hl.1 rfl (Nat.le_of_ble_eq_true rfl) dX5_readGuest_41 rfl ?_
      refine lv_if_eq (tgt := 72) hx hb dX5_readGuest_44 (by decide) (fun c_44 => ?_) (fun c_44 => ?_)
      · have hf := zp hf c_44
        exact hB72 r30.2.1 r30.2.2.1 r30.2.2.2.1 r30.2.2.2.2.1 r30.2.2.2.2.2.1 r30.2.2.2.2.2.2.1 r30.2.2.2.2.2.2.2.1 r30.2.2.2.2.2.2.2.2.1 r30.2.2.2.2.2.2.2.2.2.1 r30.2.2.2.2.2.2.2.2.2.2 r35.1 r35.2.1 r35.2.2.1 r35.2.2.2.1 r35.2.2.2.2.1 r35.2.2.2.2.2 r30.1 hf _ _ hP hD hS _ (lv_sub hl [1, 2, 3, 0] rfl)
      · have hf := zn hf c_44
        refine lv_aload_n hx hb dX5_readGuest_47 rfl (lv_at hl 1 rfl) ?_
        refine lv_bipush (v := (99 : Int32)) hx hb dX5_readGuest_48 (by decide) ?_
        obtain ⟨r50, hc50, hf⟩ := zb hf
        refine zvw (o := some (.int r50.1)) (As := [.int (99 : Int32)]) (rest := []) (stk := [.int r50.1]) ⟨hx, hb, hml, hown, hts⟩ (mX5_readNumber l D cy st sk sv B aa0 aa1 _ n r35.1 r35.2.1 r35.2.2.1 r35.2.2.2.1 r35.2.2.2.2.1 r35.2.2.2.2.2 (99 : Int32) r50 hc50) (cwV 1 hts gX5_readGuest_X5_readNumber rfl rfl rfl (by decide +kernel) ⟨Nat.le_of_ble_eq_true rfl, Nat.le_of_ble_eq_true rfl⟩) hG hS hAB hA hP hD [6, 7] (by decide) rfl rfl rfl rfl 0 5 rfl rfl rfl rfl hl.1 rfl (Nat.le_of_ble_eq_true rfl) dX5_readGuest_50 rfl (fun H locs hP hD hS => ?_)
        have hP : va_P D vwCl [(at0, .inr (4, [.ref at1, .ref at2, .ref at3, .ref at4, .ref at5, .int r30.2.2.2.2.2.2.1, .int r30.2.2.2.2.2.2.2.1, .int r30.2.2.2.2.2.2.2.2.1, .int r30.2.2.2.2.2.2.2.2.2.1, .int r30.2.2.2.2.2.2.2.2.2.2])), (at1, .inl (cy 0, 4, .inl r30.2.1)), (at2, .inl (cy 0, 8, .inl r30.2.2.1)), (at3, .inl (cy 0, 8, .inl r30.2.2.2.1)), (at4, .inl (cy 0, 8, .inl r30.2.2.2.2.1)), (at5, .inl (cy 0, 8, .inl r30.2.2.2.2.2.1)), (aa0, .inr (5, [.ref aa1, .int r50.2.2.1, .int r50.2.2.2.1, .int r50.2.2.2.2.1, .int r50.2.2.2.2.2.1, .int r50.2.2.2.2.2.2])), (aa1, .inl (cy 1, 200, .inl r50.2.1))] H := hP
        have hD : va_D A [(at0, .inr (4, [.ref at1, .ref at2, .ref at3, .ref at4, .ref at5, .int r30.2.2.2.2.2.2.1, .int r30.2.2.2.2.2.2.2.1, .int r30.2.2.2.2.2.2.2.2.1, .int r30.2.2.2.2.2.2.2.2.2.1, .int r30.2.2.2.2.2.2.2.2.2.2])), (at1, .inl (cy 0, 4, .inl r30.2.1)), (at2, .inl (cy 0, 8, .inl r30.2.2.1)), (at3, .inl (cy 0, 8, .inl r30.2.2.2.1)), (at4, .inl (cy 0, 8, .inl r30.2.2.2.2.1)), (at5, .inl (cy 0, 8, .inl r30.2.2.2.2.2.1)), (aa0, .inr (5, [.ref aa1, .int r50.2.2.1, .int r50.2.2.2.1, .int r50.2.2.2.2.1, .int r50.2.2.2.2.2.1, .int r50.2.2.2.2.2.2])), (aa1, .inl (cy 1, 200, .inl r50.2.1))] := hD
        refine lv_if_ne (tgt := 58) hx hb dX5_readGuest_53 (by decide) (fun c_53 => ?_) (fun c_53 => ?_)
        · have hf := zn hf c_53
          refine lv_aload_n hx hb dX5_readGuest_58 rfl (lv_at hl 2 rfl) ?_
          refine va_get (D := D) (ci := 4) (v := .ref at4) (C := RX4) (T := TX4) (N := 10) hx hb hts hin4 hown hK hP 0 rfl rfl 3 (by decide) fl79 (fun _ h9 => h9) rfl dX5_readGuest_59 ?_
          refine lv_iload_n hx hb dX5_readGuest_62 rfl (lv_at hl 0 rfl) ?_
          refine lv_aload_n hx hb dX5_readGuest_63 rfl (lv_at hl 1 rfl) ?_
          refine va_get (D := D) (ci := 5) (v := .int r50.2.2.2.2.2.2) (C := RX5) (T := TX5) (N := 6) hx hb hts hin5 hown hK hP 6 rfl rfl 5 (by decide) fl52 (fun _ h9 => h9) rfl dX5_readGuest_64 ?_
          obtain ⟨h_67, hf⟩ := zg hf
          refine va_iast hx hb hK hP hD hS 4 0 rfl rfl h_67 dX5_readGuest_67 (fun H locs hP hD hS => ?_)
          have hP : va_P D vwCl [(at0, .inr (4, [.ref at1, .ref at2, .ref at3, .ref at4, .ref at5, .int r30.2.2.2.2.2.2.1, .int r30.2.2.2.2.2.2.2.1, .int r30.2.2.2.2.2.2.2.2.1, .int r30.2.2.2.2.2.2.2.2.2.1, .int r30.2.2.2.2.2.2.2.2.2.2])), (at1, .inl (cy 0, 4, .inl r30.2.1)), (at2, .inl (cy 0, 8, .inl r30.2.2.1)), (at3, .inl (cy 0, 8, .inl r30.2.2.2.1)), (at4, .inl (cy 0, 8, .inl (upd r30.2.2.2.2.1 r30.1.toNatClampNeg r50.2.2.2.2.2.2))), (at5, .inl (cy 0, 8, .inl r30.2.2.2.2.2.1)), (aa0, .inr (5, [.ref aa1, .int r50.2.2.1, .int r50.2.2.2.1, .int r50.2.2.2.2.1, .int r50.2.2.2.2.2.1, .int r50.2.2.2.2.2.2])), (aa1, .inl (cy 1, 200, .inl r50.2.1))] H := hP
          have hD : va_D A [(at0, .inr (4, [.ref at1, .ref at2, .ref at3, .ref at4, .ref at5, .int r30.2.2.2.2.2.2.1, .int r30.2.2.2.2.2.2.2.1, .int r30.2.2.2.2.2.2.2.2.1, .int r30.2.2.2.2.2.2.2.2.2.1, .int r30.2.2.2.2.2.2.2.2.2.2])), (at1, .inl (cy 0, 4, .inl r30.2.1)), (at2, .inl (cy 0, 8, .inl r30.2.2.1)), (at3, .inl (cy 0, 8, .inl r30.2.2.2.1)), (at4, .inl (cy 0, 8, .inl (upd r30.2.2.2.2.1 r30.1.toNatClampNeg r50.2.2.2.2.2.2))), (at5, .inl (cy 0, 8, .inl r30.2.2.2.2.2.1)), (aa0, .inr (5, [.ref aa1, .int r50.2.2.1, .int r50.2.2.2.1, .int r50.2.2.2.2.1, .int r50.2.2.2.2.2.1, .int r50.2.2.2.2.2.2])), (aa1, .inl (cy 1, 200, .inl r50.2.1))] := hD
          refine lv_aload_n hx hb dX5_readGuest_68 rfl (lv_at hl 1 rfl) ?_
          obtain ⟨r69, hc69, hf⟩ := zb hf
          refine zvw (o := none) (As := []) (rest := []) (stk := []) ⟨hx, hb, hml, hown, hts⟩ (mX5_step l D cy st sk sv B aa0 aa1 _ n r50.2.1 r50.2.2.1 r50.2.2.2.1 r50.2.2.2.2.1 r50.2.2.2.2.2.1 r50.2.2.2.2.2.2 r69 hc69) (cwV 0 hts gX5_readGuest_X5_step rfl rfl rfl (by decide +kernel) ⟨Nat.le_of_ble_eq_true rfl, Nat.le_of_ble_eq_true rfl⟩) hG hS hAB hA hP hD [6, 7] (by decide) rfl rfl rfl rfl 0 5 rfl rfl rfl rfl hl.1 rfl (Nat.le_of_ble_eq_true rfl) dX5_readGuest_69 rfl (fun H locs hP hD hS => ?_)
          have hP : va_P D vwCl [(at0, .inr (4, [.ref at1, .ref at2, .ref at3, .ref at4, .ref at5, .int r30.2.2.2.2.2.2.1, .int r30.2.2.2.2.2.2.2.1, .int r30.2.2.2.2.2.2.2.2.1, .int r30.2.2.2.2.2.2.2.2.2.1, .int r30.2.2.2.2.2.2.2.2.2.2])), (at1, .inl (cy 0, 4, .inl r30.2.1)), (at2, .inl (cy 0, 8, .inl r30.2.2.1)), (at3, .inl (cy 0, 8, .inl r30.2.2.2.1)), (at4, .inl (cy 0, 8, .inl (upd r30.2.2.2.2.1 r30.1.toNatClampNeg r50.2.2.2.2.2.2))), (at5, .inl (cy 0, 8, .inl r30.2.2.2.2.2.1)), (aa0, .inr (5, [.ref aa1, .int r69.2.1, .int r69.2.2.1, .int r69.2.2.2.1, .int r69.2.2.2.2.1, .int r69.2.2.2.2.2])), (aa1, .inl (cy 1, 200, .inl r69.1))] H := hP
          have hD : va_D A [(at0, .inr (4, [.ref at1, .ref at2, .ref at3, .ref at4, .ref at5, .int r30.2.2.2.2.2.2.1, .int r30.2.2.2.2.2.2.2.1, .int r30.2.2.2.2.2.2.2.2.1, .int r30.2.2.2.2.2.2.2.2.2.1, .int r30.2.2.2.2.2.2.2.2.2.2])), (at1, .inl (cy 0, 4, .inl r30.2.1)), (at2, .inl (cy 0, 8, .inl r30.2.2.1)), (at3, .inl (cy 0, 8, .inl r30.2.2.2.1)), (at4, .inl (cy 0, 8, .inl (upd r30.2.2.2.2.1 r30.1.toNatClampNeg r50.2.2.2.2.2.2))), (at5, .inl (cy 0, 8, .inl r30.2.2.2.2.2.1)), (aa0, .inr (5, [.ref aa1, .int r69.2.1, .int r69.2.2.1, .int r69.2.2.2.1, .int r69.2.2.2.2.1, .int r69.2.2.2.2.2])), (aa1, .inl (cy 1, 200, .inl r69.1))] := hD
          exact hB72 r30.2.1 r30.2.2.1 r30.2.2.2.1 (upd r30.2.2.2.2.1 r30.1.toNatClampNeg r50.2.2.2.2.2.2) r30.2.2.2.2.2.1 r30.2.2.2.2.2.2.1 r30.2.2.2.2.2.2.2.1 r30.2.2.2.2.2.2.2.2.1 r30.2.2.2.2.2.2.2.2.2.1 r30.2.2.2.2.2.2.2.2.2.2 r69.1 r69.2.1 r69.2.2.1 r69.2.2.2.1 r69.2.2.2.2.1 r69.2.2.2.2.2 r30.1 hf _ _ hP hD hS _ (lv_sub hl [1, 2, 3, 0] rfl)
        · have hf := zp hf c_53
          refine lv_iconst (v := (0 : Int32)) hx hb dX5_readGuest_56 (by decide) ?_
          exact W.zret hx hb hr rfl (fun t ht hW => hfin (0 : Int32) r30.2.1 r30.2.2.1 r30.2.2.2.1 r30.2.2.2.2.1 r30.2.2.2.2.2.1 r30.2.2.2.2.2.2.1 r30.2.2.2.2.2.2.2.1 r30.2.2.2.2.2.2.2.2.1 r30.2.2.2.2.2.2.2.2.2.1 r30.2.2.2.2.2.2.2.2.2.2 r50.2.1 r50.2.2.1 r50.2.2.2.1 r50.2.2.2.2.1 r50.2.2.2.2.2.1 r50.2.2.2.2.2.2 hf _ t ht hP (hS.F ht)) hS.2.2 dX5_readGuest_57
    · have hf := zp hf c_19
      refine lv_iconst (v := (0 : Int32)) hx hb dX5_readGuest_22 (by decide) ?_
      exact W.zret hx hb hr rfl (fun t ht hW => hfin (0 : Int32) T_laws T_kind T_holds T_gone T_tells T_drowned T_count T_course T_told T_z r16.2.1 r16.2.2.1 r16.2.2.2.1 r16.2.2.2.2.1 r16.2.2.2.2.2.1 r16.2.2.2.2.2.2 hf _ t ht hP (hS.F ht)) hS.2.2 dX5_readGuest_23
set_option maxRecDepth 100000 in
set_option maxHeartbeats 100000000 in
theorem mX5_readStop (l : Launch) (D : va_G) (cy : Nat → ClassId) (st sk sv : Nat → Nat) (B : Nat) (aa0 : Nat) (aa1 : Nat) (sz : Nat) (n : Nat) (A_bytes : (Nat → Int32)) (A_length : Int32) (A_place : Int32) (A_after : Int32) (A_sort : Int32) (A_number : Int32)  (z : Int32 × TP) (hf : fX5_readStop n (A_bytes, A_length, A_place, A_after, A_sort, A_number) = some z) : Met l yX5_readStop wsX5_readStop ({ frames := 2, cells := 0, slots := 0, locals := 41 }) (PcW [.ref aa0] D cy st sk sv B sz [(aa0, .inr (5, [.ref aa1, .int A_length, .int A_place, .int A_after, .int A_sort, .int A_number])), (aa1, .inl (cy 1, 200, .inl A_bytes))]) (Qw (some (.int z.1)) D [(aa0, .inr (5, [.ref aa1, .int z.2.2.1, .int z.2.2.2.1, .int z.2.2.2.2.1, .int z.2.2.2.2.2.1, .int z.2.2.2.2.2.2])), (aa1, .inl (cy 1, 200, .inl z.2.1))] (va_A [(aa0, .inr (5, [.ref aa1, .int A_length, .int A_place, .int A_after, .int A_sort, .int A_number])), (aa1, .inl (cy 1, 200, .inl A_bytes))] sz)) 0 0 (va_A [(aa0, .inr (5, [.ref aa1, .int A_length, .int A_place, .int A_after, .int A_sort, .int A_number])), (aa1, .inl (cy 1, 200, .inl A_bytes))] sz) := by
  refine Met.ofW (cc := cX5_readStop) (maxL := 1) (ret := (some .boolean)) (by decide) rfl ?_
  intro p e s m args below meth c s₁ Bd hml hv
  obtain ⟨rfl, hsz, hP, hD0, hBs, hG⟩ := hv
  have hx := Bd.exec
  have hb := Bd.bytes
  have hr := Bd.returns
  have hts := atoms_spec (ws := wsX5_readStop) Bd.pre
  have hown : s.vm.findClass RX5 = some m.cls := findClass_of_methodNamed Bd.named
  have hlocks := Bd.notSynchronized
  have hK := hG.1
  subst hsz
  have hD := hD0.self (sz := s.heap.size)
  have hAB0 := zA hD0 hBs
  generalize hAe : va_A [(aa0, .inr (5, [.ref aa1, .int A_length, .int A_place, .int A_after, .int A_sort, .int A_number])), (aa1, .inl (cy 1, 200, .inl A_bytes))] s.heap.size = A at hD hAB0 ⊢
  have hA : ∀ q : Nat, s.heap.size ≤ q → A q := fun q h => by rw [← hAe]; exact Or.inr h
  have hAB : ∀ q, A q → B ≤ q := hAB0
  have hS : va_S A s.heap s.heap [] := va_S.rf
  have hfin : ∀ (z0 : Int32) (A_bytes : (Nat → Int32)) (A_length : Int32) (A_place : Int32) (A_after : Int32) (A_sort : Int32) (A_number : Int32), some (z0, (A_bytes, A_length, A_place, A_after, A_sort, A_number)) = some z → ∀ (H : Heap) (t : State), t.heap = H → va_P D vwCl [(aa0, .inr (5, [.ref aa1, .int A_length, .int A_place, .int A_after, .int A_sort, .int A_number])), (aa1, .inl (cy 1, 200, .inl A_bytes))] H → va_F A s t → Qw (some (.int z.1)) D [(aa0, .inr (5, [.ref aa1, .int z.2.2.1, .int z.2.2.2.1, .int z.2.2.2.2.1, .int z.2.2.2.2.2.1, .int z.2.2.2.2.2.2])), (aa1, .inl (cy 1, 200, .inl z.2.1))] A ([.ref aa0] : List Value).toArray s (.returned (some (.int z0))) t := by
    intro z0 A_bytes A_length A_place A_after A_sort A_number h9 H t ht hP hF
    cases h9
    exact ⟨rfl, by rw [ht]; exact hP, hF⟩
  have hl := lv_entry ([.ref aa0]) (n := 1) (Nat.le_of_ble_eq_true rfl)
  rw [lg_entry_eq]
  generalize (lg_sl ([.ref aa0]) ++ List.replicate (1 - (lg_sl ([.ref aa0])).length) Slot.unset).toArray = ls at hl ⊢
  have hl : lv_has ls 1 [(0, .ref aa0)] := hl
  have hf : ((fX5_step n (A_bytes, A_length, A_place, A_after, A_sort, A_number)).bind fun r1 => (fX5_isStop n r1).bind fun r5 => if ¬ (r5 = 0 ∨ r5 = 1) then none else some (r5, r1)) = some z := hf
  refine lv_aload_n hx hb dX5_readStop_0 rfl (lv_at hl 0 rfl) ?_
  obtain ⟨r1, hc1, hf⟩ := zb hf
  refine zvw (o := none) (As := []) (rest := []) (stk := []) ⟨hx, hb, hml, hown, hts⟩ (mX5_step l D cy st sk sv B aa0 aa1 _ n A_bytes A_length A_place A_after A_sort A_number r1 hc1) (cwV 0 hts gX5_readStop_X5_step rfl rfl rfl (by decide +kernel) ⟨Nat.le_of_ble_eq_true rfl, Nat.le_of_ble_eq_true rfl⟩) hG hS hAB hA hP hD [0, 1] (by decide) rfl rfl rfl rfl 0 5 rfl rfl rfl rfl hl.1 rfl (Nat.le_of_ble_eq_true rfl) dX5_readStop_1 rfl (fun H locs hP hD hS => ?_)
  have hP : va_P D vwCl [(aa0, .inr (5, [.ref aa1, .int r1.2.1, .int r1.2.2.1, .int r1.2.2.2.1, .int r1.2.2.2.2.1, .int r1.2.2.2.2.2])), (aa1, .inl (cy 1, 200, .inl r1.1))] H := hP
  have hD : va_D A [(aa0, .inr (5, [.ref aa1, .int r1.2.1, .int r1.2.2.1, .int r1.2.2.2.1, .int r1.2.2.2.2.1, .int r1.2.2.2.2.2])), (aa1, .inl (cy 1, 200, .inl r1.1))] := hD
  refine lv_aload_n hx hb dX5_readStop_4 rfl (lv_at hl 0 rfl) ?_
  obtain ⟨r5, hc5, hf⟩ := zb hf
  refine zvr (o := some (.int r5)) (As := []) (rest := []) (stk := [.int r5]) ⟨hx, hb, hml, hown, hts⟩ (mX5_isStop l D cy st sk sv B aa0 aa1 n r1.1 r1.2.1 r1.2.2.1 r1.2.2.2.1 r1.2.2.2.2.1 r1.2.2.2.2.2 r5 hc5) (cwV 0 hts gX5_readStop_X5_isStop rfl rfl rfl (by decide +kernel) ⟨Nat.le_of_ble_eq_true rfl, Nat.le_of_ble_eq_true rfl⟩) hG hS hAB hP [0, 1] rfl 0 5 rfl rfl rfl rfl hl.1 rfl (Nat.le_of_ble_eq_true rfl) dX5_readStop_5 rfl ?_
  obtain ⟨h_8, hf⟩ := zg hf
  exact W.zret hx hb hr (nz_b h_8).1 (fun t ht hW => hfin r5 r1.1 r1.2.1 r1.2.2.1 r1.2.2.2.1 r1.2.2.2.2.1 r1.2.2.2.2.2 hf _ t ht hP (hS.F ht)) hS.2.2 dX5_readStop_8
set_option maxRecDepth 100000 in
set_option maxHeartbeats 100000000 in
theorem mX5_lawNamed (l : Launch) (D : va_G) (cy : Nat → ClassId) (st sk sv : Nat → Nat) (B : Nat) (aa0 : Nat) (aa1 : Nat) (n : Nat) (A_bytes : (Nat → Int32)) (A_length : Int32) (A_place : Int32) (A_after : Int32) (A_sort : Int32) (A_number : Int32)  (z : Int32) (hf : fX5_lawNamed n (A_bytes, A_length, A_place, A_after, A_sort, A_number) = some z) : Met l yX5_lawNamed wsX5_lawNamed ({ frames := 7, cells := 0, slots := 0, locals := 203 }) (PcR [.ref aa0] D cy st sk sv B [(aa0, .inr (5, [.ref aa1, .int A_length, .int A_place, .int A_after, .int A_sort, .int A_number])), (aa1, .inl (cy 1, 200, .inl A_bytes))]) (Qr (some (.int z))) 0 0 (fun _ => False) := by
  refine Met.ofW (cc := cX5_lawNamed) (maxL := 1) (ret := (some .int)) (by decide) rfl ?_
  intro p e s m args below meth c s₁ Bd hml hv
  obtain ⟨rfl, hP, hG⟩ := hv
  have hx := Bd.exec
  have hb := Bd.bytes
  have hr := Bd.returns
  have hts := atoms_spec (ws := wsX5_lawNamed) Bd.pre
  have hown : s.vm.findClass RX5 = some m.cls := findClass_of_methodNamed Bd.named
  have hlocks := Bd.notSynchronized
  have hK := hG.1
  have hS : va_S (fun q => B ≤ q) s.heap s.heap [] := va_S.rf
  have hAB : ∀ q, (fun q => B ≤ q) q → B ≤ q := fun _ h => h
  have hl := lv_entry ([.ref aa0]) (n := 1) (Nat.le_of_ble_eq_true rfl)
  rw [lg_entry_eq]
  generalize (lg_sl ([.ref aa0]) ++ List.replicate (1 - (lg_sl ([.ref aa0])).length) Slot.unset).toArray = ls at hl ⊢
  have hl : lv_has ls 1 [(0, .ref aa0)] := hl
  have hf : ((fX5_isName n (A_bytes, A_length, A_place, A_after, A_sort, A_number) 10).bind fun r3 => if r3 = 0 then ((fX5_isName n (A_bytes, A_length, A_place, A_after, A_sort, A_number) 11).bind fun r14 => if r14 = 0 then ((fX5_isName n (A_bytes, A_length, A_place, A_after, A_sort, A_number) 12).bind fun r25 => if r25 = 0 then ((fX5_isName n (A_bytes, A_length, A_place, A_after, A_sort, A_number) 13).bind fun r36 => if r36 = 0 then (some (-3 : Int32)) else (some (3 : Int32))) else (some (2 : Int32))) else (some (1 : Int32))) else (some (0 : Int32))) = some z := hf
  refine lv_aload_n hx hb dX5_lawNamed_0 rfl (lv_at hl 0 rfl) ?_
  refine va_ldcS (q := sk 10) hx hb hown (hG.2.2.2.2.2.2 10 (by decide)) dX5_lawNamed_1 ?_
  obtain ⟨r3, hc3, hf⟩ := zb hf
  refine zvr (o := some (.int r3)) (As := [.ref (sk 10)]) (rest := []) (stk := [.int r3]) ⟨hx, hb, hml, hown, hts⟩ (mX5_isName l D cy st sk sv B aa0 aa1 n A_bytes A_length A_place A_after A_sort A_number 10 (by decide) r3 hc3) (cwV 1 hts gX5_lawNamed_X5_isName rfl rfl rfl (by decide +kernel) ⟨Nat.le_of_ble_eq_true rfl, Nat.le_of_ble_eq_true rfl⟩) hG hS hAB hP [0, 1] rfl 0 5 rfl rfl rfl rfl hl.1 rfl (Nat.le_of_ble_eq_true rfl) dX5_lawNamed_3 rfl ?_
  refine lv_if_eq (tgt := 11) hx hb dX5_lawNamed_6 (by decide) (fun c_6 => ?_) (fun c_6 => ?_)
  · have hf := zp hf c_6
    refine lv_aload_n hx hb dX5_lawNamed_11 rfl (lv_at hl 0 rfl) ?_
    refine va_ldcS (q := sk 11) hx hb hown (hG.2.2.2.2.2.2 11 (by decide)) dX5_lawNamed_12 ?_
    obtain ⟨r14, hc14, hf⟩ := zb hf
    refine zvr (o := some (.int r14)) (As := [.ref (sk 11)]) (rest := []) (stk := [.int r14]) ⟨hx, hb, hml, hown, hts⟩ (mX5_isName l D cy st sk sv B aa0 aa1 n A_bytes A_length A_place A_after A_sort A_number 11 (by decide) r14 hc14) (cwV 1 hts gX5_lawNamed_X5_isName rfl rfl rfl (by decide +kernel) ⟨Nat.le_of_ble_eq_true rfl, Nat.le_of_ble_eq_true rfl⟩) hG hS hAB hP [0, 1] rfl 0 5 rfl rfl rfl rfl hl.1 rfl (Nat.le_of_ble_eq_true rfl) dX5_lawNamed_14 rfl ?_
    refine lv_if_eq (tgt := 22) hx hb dX5_lawNamed_17 (by decide) (fun c_17 => ?_) (fun c_17 => ?_)
    · have hf := zp hf c_17
      refine lv_aload_n hx hb dX5_lawNamed_22 rfl (lv_at hl 0 rfl) ?_
      refine va_ldcS (q := sk 12) hx hb hown (hG.2.2.2.2.2.2 12 (by decide)) dX5_lawNamed_23 ?_
      obtain ⟨r25, hc25, hf⟩ := zb hf
      refine zvr (o := some (.int r25)) (As := [.ref (sk 12)]) (rest := []) (stk := [.int r25]) ⟨hx, hb, hml, hown, hts⟩ (mX5_isName l D cy st sk sv B aa0 aa1 n A_bytes A_length A_place A_after A_sort A_number 12 (by decide) r25 hc25) (cwV 1 hts gX5_lawNamed_X5_isName rfl rfl rfl (by decide +kernel) ⟨Nat.le_of_ble_eq_true rfl, Nat.le_of_ble_eq_true rfl⟩) hG hS hAB hP [0, 1] rfl 0 5 rfl rfl rfl rfl hl.1 rfl (Nat.le_of_ble_eq_true rfl) dX5_lawNamed_25 rfl ?_
      refine lv_if_eq (tgt := 33) hx hb dX5_lawNamed_28 (by decide) (fun c_28 => ?_) (fun c_28 => ?_)
      · have hf := zp hf c_28
        refine lv_aload_n hx hb dX5_lawNamed_33 rfl (lv_at hl 0 rfl) ?_
        refine va_ldcS (q := sk 13) hx hb hown (hG.2.2.2.2.2.2 13 (by decide)) dX5_lawNamed_34 ?_
        obtain ⟨r36, hc36, hf⟩ := zb hf
        refine zvr (o := some (.int r36)) (As := [.ref (sk 13)]) (rest := []) (stk := [.int r36]) ⟨hx, hb, hml, hown, hts⟩ (mX5_isName l D cy st sk sv B aa0 aa1 n A_bytes A_length A_place A_after A_sort A_number 13 (by decide) r36 hc36) (cwV 1 hts gX5_lawNamed_X5_isName rfl rfl rfl (by decide +kernel) ⟨Nat.le_of_ble_eq_true rfl, Nat.le_of_ble_eq_true rfl⟩) hG hS hAB hP [0, 1] rfl 0 5 rfl rfl rfl rfl hl.1 rfl (Nat.le_of_ble_eq_true rfl) dX5_lawNamed_36 rfl ?_
        refine lv_if_eq (tgt := 46) hx hb dX5_lawNamed_39 (by decide) (fun c_39 => ?_) (fun c_39 => ?_)
        · have hf := zp hf c_39
          refine lv_bipush (v := (-3 : Int32)) hx hb dX5_lawNamed_46 (by decide) ?_
          cases hf
          exact W.iret hx hb hr (fun t ht hW => ⟨rfl, ht⟩) (fun q h => absurd h List.not_mem_nil) dX5_lawNamed_48
        · have hf := zn hf c_39
          refine lv_iconst (v := (3 : Int32)) hx hb dX5_lawNamed_42 (by decide) ?_
          refine lv_goto (tgt := 48) hx hb dX5_lawNamed_43 (by decide) ?_
          cases hf
          exact W.iret hx hb hr (fun t ht hW => ⟨rfl, ht⟩) (fun q h => absurd h List.not_mem_nil) dX5_lawNamed_48
      · have hf := zn hf c_28
        refine lv_iconst (v := (2 : Int32)) hx hb dX5_lawNamed_31 (by decide) ?_
        cases hf
        exact W.iret hx hb hr (fun t ht hW => ⟨rfl, ht⟩) (fun q h => absurd h List.not_mem_nil) dX5_lawNamed_32
    · have hf := zn hf c_17
      refine lv_iconst (v := (1 : Int32)) hx hb dX5_lawNamed_20 (by decide) ?_
      cases hf
      exact W.iret hx hb hr (fun t ht hW => ⟨rfl, ht⟩) (fun q h => absurd h List.not_mem_nil) dX5_lawNamed_21
  · have hf := zn hf c_6
    refine lv_iconst (v := (0 : Int32)) hx hb dX5_lawNamed_9 (by decide) ?_
    cases hf
    exact W.iret hx hb hr (fun t ht hW => ⟨rfl, ht⟩) (fun q h => absurd h List.not_mem_nil) dX5_lawNamed_10
set_option maxRecDepth 100000 in
set_option maxHeartbeats 100000000 in
theorem mX5_readSentence (l : Launch) (D : va_G) (cy : Nat → ClassId) (st sk sv : Nat → Nat) (B : Nat) (at0 : Nat) (at1 : Nat) (at2 : Nat) (at3 : Nat) (at4 : Nat) (at5 : Nat) (aa0 : Nat) (aa1 : Nat) (sz : Nat) (n : Nat) (T_laws : (Nat → Int32)) (T_kind : (Nat → Int32)) (T_holds : (Nat → Int32)) (T_gone : (Nat → Int32)) (T_tells : (Nat → Int32)) (T_drowned : Int32) (T_count : Int32) (T_course : Int32) (T_told : Int32) (T_z : Int32) (A_bytes : (Nat → Int32)) (A_length : Int32) (A_place : Int32) (A_after : Int32) (A_sort : Int32) (A_number : Int32)  (z : Int32 × TB × TP) (hf : fX5_readSentence n (T_laws, T_kind, T_holds, T_gone, T_tells, T_drowned, T_count, T_course, T_told, T_z) (A_bytes, A_length, A_place, A_after, A_sort, A_number) = some z) : Met l yX5_readSentence wsX5_readSentence ({ frames := 8, cells := 0, slots := 0, locals := 226 }) (PcW [.ref aa0, .ref at0] D cy st sk sv B sz [(at0, .inr (4, [.ref at1, .ref at2, .ref at3, .ref at4, .ref at5, .int T_drowned, .int T_count, .int T_course, .int T_told, .int T_z])), (at1, .inl (cy 0, 4, .inl T_laws)), (at2, .inl (cy 0, 8, .inl T_kind)), (at3, .inl (cy 0, 8, .inl T_holds)), (at4, .inl (cy 0, 8, .inl T_gone)), (at5, .inl (cy 0, 8, .inl T_tells)), (aa0, .inr (5, [.ref aa1, .int A_length, .int A_place, .int A_after, .int A_sort, .int A_number])), (aa1, .inl (cy 1, 200, .inl A_bytes))]) (Qw (some (.int z.1)) D [(at0, .inr (4, [.ref at1, .ref at2, .ref at3, .ref at4, .ref at5, .int z.2.1.2.2.2.2.2.1, .int z.2.1.2.2.2.2.2.2.1, .int z.2.1.2.2.2.2.2.2.2.1, .int z.2.1.2.2.2.2.2.2.2.2.1, .int z.2.1.2.2.2.2.2.2.2.2.2])), (at1, .inl (cy 0, 4, .inl z.2.1.1)), (at2, .inl (cy 0, 8, .inl z.2.1.2.1)), (at3, .inl (cy 0, 8, .inl z.2.1.2.2.1)), (at4, .inl (cy 0, 8, .inl z.2.1.2.2.2.1)), (at5, .inl (cy 0, 8, .inl z.2.1.2.2.2.2.1)), (aa0, .inr (5, [.ref aa1, .int z.2.2.2.1, .int z.2.2.2.2.1, .int z.2.2.2.2.2.1, .int z.2.2.2.2.2.2.1, .int z.2.2.2.2.2.2.2])), (aa1, .inl (cy 1, 200, .inl z.2.2.1))] (va_A [(at0, .inr (4, [.ref at1, .ref at2, .ref at3, .ref at4, .ref at5, .int T_drowned, .int T_count, .int T_course, .int T_told, .int T_z])), (at1, .inl (cy 0, 4, .inl T_laws)), (at2, .inl (cy 0, 8, .inl T_kind)), (at3, .inl (cy 0, 8, .inl T_holds)), (at4, .inl (cy 0, 8, .inl T_gone)), (at5, .inl (cy 0, 8, .inl T_tells)), (aa0, .inr (5, [.ref aa1, .int A_length, .int A_place, .int A_after, .int A_sort, .int A_number])), (aa1, .inl (cy 1, 200, .inl A_bytes))] sz)) 0 0 (va_A [(at0, .inr (4, [.ref at1, .ref at2, .ref at3, .ref at4, .ref at5, .int T_drowned, .int T_count, .int T_course, .int T_told, .int T_z])), (at1, .inl (cy 0, 4, .inl T_laws)), (at2, .inl (cy 0, 8, .inl T_kind)), (at3, .inl (cy 0, 8, .inl T_holds)), (at4, .inl (cy 0, 8, .inl T_gone)), (at5, .inl (cy 0, 8, .inl T_tells)), (aa0, .inr (5, [.ref aa1, .int A_length, .int A_place, .int A_after, .int A_sort, .int A_number])), (aa1, .inl (cy 1, 200, .inl A_bytes))] sz) := by
  refine Met.ofW (cc := cX5_readSentence) (maxL := 4) (ret := (some .boolean)) (by decide) rfl ?_
  intro p e s m args below meth c s₁ Bd hml hv
  obtain ⟨rfl, hsz, hP, hD0, hBs, hG⟩ := hv
  have hx := Bd.exec
  have hb := Bd.bytes
  have hr := Bd.returns
  have hts := atoms_spec (ws := wsX5_readSentence) Bd.pre
  have hown : s.vm.findClass RX5 = some m.cls := findClass_of_methodNamed Bd.named
  have hlocks := Bd.notSynchronized
  have hK := hG.1
  subst hsz
  have hD := hD0.self (sz := s.heap.size)
  have hAB0 := zA hD0 hBs
  generalize hAe : va_A [(at0, .inr (4, [.ref at1, .ref at2, .ref at3, .ref at4, .ref at5, .int T_drowned, .int T_count, .int T_course, .int T_told, .int T_z])), (at1, .inl (cy 0, 4, .inl T_laws)), (at2, .inl (cy 0, 8, .inl T_kind)), (at3, .inl (cy 0, 8, .inl T_holds)), (at4, .inl (cy 0, 8, .inl T_gone)), (at5, .inl (cy 0, 8, .inl T_tells)), (aa0, .inr (5, [.ref aa1, .int A_length, .int A_place, .int A_after, .int A_sort, .int A_number])), (aa1, .inl (cy 1, 200, .inl A_bytes))] s.heap.size = A at hD hAB0 ⊢
  have hA : ∀ q : Nat, s.heap.size ≤ q → A q := fun q h => by rw [← hAe]; exact Or.inr h
  have hAB : ∀ q, A q → B ≤ q := hAB0
  have hS : va_S A s.heap s.heap [] := va_S.rf
  have hfin : ∀ (z0 : Int32) (T_laws : (Nat → Int32)) (T_kind : (Nat → Int32)) (T_holds : (Nat → Int32)) (T_gone : (Nat → Int32)) (T_tells : (Nat → Int32)) (T_drowned : Int32) (T_count : Int32) (T_course : Int32) (T_told : Int32) (T_z : Int32) (A_bytes : (Nat → Int32)) (A_length : Int32) (A_place : Int32) (A_after : Int32) (A_sort : Int32) (A_number : Int32), some (z0, (T_laws, T_kind, T_holds, T_gone, T_tells, T_drowned, T_count, T_course, T_told, T_z), (A_bytes, A_length, A_place, A_after, A_sort, A_number)) = some z → ∀ (H : Heap) (t : State), t.heap = H → va_P D vwCl [(at0, .inr (4, [.ref at1, .ref at2, .ref at3, .ref at4, .ref at5, .int T_drowned, .int T_count, .int T_course, .int T_told, .int T_z])), (at1, .inl (cy 0, 4, .inl T_laws)), (at2, .inl (cy 0, 8, .inl T_kind)), (at3, .inl (cy 0, 8, .inl T_holds)), (at4, .inl (cy 0, 8, .inl T_gone)), (at5, .inl (cy 0, 8, .inl T_tells)), (aa0, .inr (5, [.ref aa1, .int A_length, .int A_place, .int A_after, .int A_sort, .int A_number])), (aa1, .inl (cy 1, 200, .inl A_bytes))] H → va_F A s t → Qw (some (.int z.1)) D [(at0, .inr (4, [.ref at1, .ref at2, .ref at3, .ref at4, .ref at5, .int z.2.1.2.2.2.2.2.1, .int z.2.1.2.2.2.2.2.2.1, .int z.2.1.2.2.2.2.2.2.2.1, .int z.2.1.2.2.2.2.2.2.2.2.1, .int z.2.1.2.2.2.2.2.2.2.2.2])), (at1, .inl (cy 0, 4, .inl z.2.1.1)), (at2, .inl (cy 0, 8, .inl z.2.1.2.1)), (at3, .inl (cy 0, 8, .inl z.2.1.2.2.1)), (at4, .inl (cy 0, 8, .inl z.2.1.2.2.2.1)), (at5, .inl (cy 0, 8, .inl z.2.1.2.2.2.2.1)), (aa0, .inr (5, [.ref aa1, .int z.2.2.2.1, .int z.2.2.2.2.1, .int z.2.2.2.2.2.1, .int z.2.2.2.2.2.2.1, .int z.2.2.2.2.2.2.2])), (aa1, .inl (cy 1, 200, .inl z.2.2.1))] A ([.ref aa0, .ref at0] : List Value).toArray s (.returned (some (.int z0))) t := by
    intro z0 T_laws T_kind T_holds T_gone T_tells T_drowned T_count T_course T_told T_z A_bytes A_length A_place A_after A_sort A_number h9 H t ht hP hF
    cases h9
    exact ⟨rfl, by rw [ht]; exact hP, hF⟩
  have hin4 : ∀ w ∈ u_ws RX4 TX4 10, w ∈ wsX5_readSentence := by decide +kernel
  have hin5 : ∀ w ∈ u_ws RX5 TX5 6, w ∈ wsX5_readSentence := by decide +kernel
  have fl33 := hts (.fieldLink RX5 33 "KinCutlery$Table" "count" "I") (by decide +kernel)
  have fl52 := hts (.fieldLink RX5 52 "KinCutlery$Tape" "number" "I") (by decide +kernel)
  have fl55 := hts (.fieldLink RX5 55 "KinCutlery$Table" "told" "I") (by decide +kernel)
  have fl68 := hts (.fieldLink RX5 68 "KinCutlery$Table" "laws" "[I") (by decide +kernel)
  have hl := lv_entry ([.ref aa0, .ref at0]) (n := 4) (Nat.le_of_ble_eq_true rfl)
  rw [lg_entry_eq]
  generalize (lg_sl ([.ref aa0, .ref at0]) ++ List.replicate (4 - (lg_sl ([.ref aa0, .ref at0])).length) Slot.unset).toArray = ls at hl ⊢
  have hl : lv_has ls 4 [(0, .ref aa0), (1, .ref at0)] := hl
  have hf : ((fX5_kindNamed n (A_bytes, A_length, A_place, A_after, A_sort, A_number)).bind fun r1 => if r1 = (-3 : Int32) then ((fX5_isName n (A_bytes, A_length, A_place, A_after, A_sort, A_number) 9).bind fun r38 => if r38 = 0 then ((fX5_lawNamed n (A_bytes, A_length, A_place, A_after, A_sort, A_number)).bind fun r70 => if r70 = (-3 : Int32) then (some ((0 : Int32), (T_laws, T_kind, T_holds, T_gone, T_tells, T_drowned, T_count, T_course, T_told, T_z), (A_bytes, A_length, A_place, A_after, A_sort, A_number))) else (if r70 < 0 ∨ 4 ≤ r70.toNatClampNeg then none else (fX5_readNumber n (A_bytes, A_length, A_place, A_after, A_sort, A_number) (gsF 1 r70.toNatClampNeg)).bind fun r86 => if r86.1 = 0 then (some ((0 : Int32), (T_laws, T_kind, T_holds, T_gone, T_tells, T_drowned, T_count, T_course, T_told, T_z), r86.2)) else (if r70 < 0 ∨ 4 ≤ r70.toNatClampNeg then none else (fX5_readStop n r86.2).bind fun r105 => if ¬ (r105.1 = 0 ∨ r105.1 = 1) then none else some (r105.1, ((upd T_laws r70.toNatClampNeg r86.2.2.2.2.2.2), T_kind, T_holds, T_gone, T_tells, T_drowned, T_count, T_course, T_told, T_z), r105.2)))) else ((fX5_readNumber n (A_bytes, A_length, A_place, A_after, A_sort, A_number) (999 : Int32)).bind fun r48 => if r48.1 = 0 then (some ((0 : Int32), (T_laws, T_kind, T_holds, T_gone, T_tells, T_drowned, T_count, T_course, T_told, T_z), r48.2)) else ((fX5_readStop n r48.2).bind fun r65 => if ¬ (r65.1 = 0 ∨ r65.1 = 1) then none else some (r65.1, (T_laws, T_kind, T_holds, T_gone, T_tells, T_drowned, T_count, T_course, r48.2.2.2.2.2.2, T_z), r65.2)))) else (if (8 : Int32) ≤ T_count then (some ((0 : Int32), (T_laws, T_kind, T_holds, T_gone, T_tells, T_drowned, T_count, T_course, T_told, T_z), (A_bytes, A_length, A_place, A_after, A_sort, A_number))) else ((fX5_readGuest n (T_laws, T_kind, T_holds, T_gone, T_tells, T_drowned, T_count, T_course, T_told, T_z) (A_bytes, A_length, A_place, A_after, A_sort, A_number) r1).bind fun r23 => if r23.1 = 0 then (some ((0 : Int32), r23.2.1, r23.2.2)) else (some ((1 : Int32), r23.2.1, r23.2.2))))) = some z := hf
  refine lv_aload_n hx hb dX5_readSentence_0 rfl (lv_at hl 0 rfl) ?_
  obtain ⟨r1, hc1, hf⟩ := zb hf
  refine zvr (o := some (.int r1)) (As := []) (rest := []) (stk := [.int r1]) ⟨hx, hb, hml, hown, hts⟩ (mX5_kindNamed l D cy st sk sv B aa0 aa1 n A_bytes A_length A_place A_after A_sort A_number r1 hc1) (cwV 0 hts gX5_readSentence_X5_kindNamed rfl rfl rfl (by decide +kernel) ⟨Nat.le_of_ble_eq_true rfl, Nat.le_of_ble_eq_true rfl⟩) hG hS hAB hP [6, 7] rfl 0 5 rfl rfl rfl rfl hl.1 rfl (Nat.le_of_ble_eq_true rfl) dX5_readSentence_1 rfl ?_
  refine lv_istore_n (lv' := [(2, .int r1), (0, .ref aa0), (1, .ref at0)]) hx hb dX5_readSentence_4 rfl hl (by decide) rfl (fun ls hl => ?_)
  refine lv_iload_n hx hb dX5_readSentence_5 rfl (lv_at hl 0 rfl) ?_
  refine lv_bipush (v := (-3 : Int32)) hx hb dX5_readSentence_6 (by decide) ?_
  refine lv_icmp_eq (tgt := 35) hx hb dX5_readSentence_8 (by decide) (fun c_8 => ?_) (fun c_8 => ?_)
  · have hf := zp hf c_8
    refine lv_aload_n hx hb dX5_readSentence_35 rfl (lv_at hl 1 rfl) ?_
    refine va_ldcS (q := sk 9) hx hb hown (hG.2.2.2.2.2.2 9 (by decide)) dX5_readSentence_36 ?_
    obtain ⟨r38, hc38, hf⟩ := zb hf
    refine zvr (o := some (.int r38)) (As := [.ref (sk 9)]) (rest := []) (stk := [.int r38]) ⟨hx, hb, hml, hown, hts⟩ (mX5_isName l D cy st sk sv B aa0 aa1 n A_bytes A_length A_place A_after A_sort A_number 9 (by decide) r38 hc38) (cwV 1 hts gX5_readSentence_X5_isName rfl rfl rfl (by decide +kernel) ⟨Nat.le_of_ble_eq_true rfl, Nat.le_of_ble_eq_true rfl⟩) hG hS hAB hP [6, 7] rfl 0 5 rfl rfl rfl rfl hl.1 rfl (Nat.le_of_ble_eq_true rfl) dX5_readSentence_38 rfl ?_
    refine lv_if_eq (tgt := 69) hx hb dX5_readSentence_41 (by decide) (fun c_41 => ?_) (fun c_41 => ?_)
    · have hf := zp hf c_41
      refine lv_aload_n hx hb dX5_readSentence_69 rfl (lv_at hl 1 rfl) ?_
      obtain ⟨r70, hc70, hf⟩ := zb hf
      refine zvr (o := some (.int r70)) (As := []) (rest := []) (stk := [.int r70]) ⟨hx, hb, hml, hown, hts⟩ (mX5_lawNamed l D cy st sk sv B aa0 aa1 n A_bytes A_length A_place A_after A_sort A_number r70 hc70) (cwV 0 hts gX5_readSentence_X5_lawNamed rfl rfl rfl (by decide +kernel) ⟨Nat.le_of_ble_eq_true rfl, Nat.le_of_ble_eq_true rfl⟩) hG hS hAB hP [6, 7] rfl 0 5 rfl rfl rfl rfl hl.1 rfl (Nat.le_of_ble_eq_true rfl) dX5_readSentence_70 rfl ?_
      refine lv_istore_n (lv' := [(3, .int r70), (2, .int r1), (0, .ref aa0), (1, .ref at0)]) hx hb dX5_readSentence_73 rfl hl (by decide) rfl (fun ls hl => ?_)
      refine lv_iload_n hx hb dX5_readSentence_74 rfl (lv_at hl 0 rfl) ?_
      refine lv_bipush (v := (-3 : Int32)) hx hb dX5_readSentence_75 (by decide) ?_
      refine lv_icmp_eq (tgt := 92) hx hb dX5_readSentence_77 (by decide) (fun c_77 => ?_) (fun c_77 => ?_)
      · have hf := zp hf c_77
        refine lv_iconst (v := (0 : Int32)) hx hb dX5_readSentence_92 (by decide) ?_
        exact W.zret hx hb hr rfl (fun t ht hW => hfin (0 : Int32) T_laws T_kind T_holds T_gone T_tells T_drowned T_count T_course T_told T_z A_bytes A_length A_place A_after A_sort A_number hf _ t ht hP (hS.F ht)) hS.2.2 dX5_readSentence_93
      · have hf := zn hf c_77
        refine lv_aload_n hx hb dX5_readSentence_80 rfl (lv_at hl 2 rfl) ?_
        refine va_getsN (C := RX6) (n := "LAW_AT_MOST") (d := "[I") (v := .ref (st 1)) hx hb (va_Z.narrow (hG.2.2.1 1 (by decide)).1 hAB) hS hown (va_Nw.use rfl hG.2.1.2.2.2.2.1) (fun _ h9 => h9) dX5_readSentence_81 ?_
        refine lv_iload_n hx hb dX5_readSentence_84 rfl (lv_at hl 0 rfl) ?_
        obtain ⟨h_85, hf⟩ := zg hf
        refine va_ti (v := .int (gsF 1 r70.toNatClampNeg)) hx hb (va_T.narrow (hG.2.2.1 1 (by decide)).2 hAB) hS h_85 rfl dX5_readSentence_85 ?_
        obtain ⟨r86, hc86, hf⟩ := zb hf
        refine zvw (o := some (.int r86.1)) (As := [.int (gsF 1 r70.toNatClampNeg)]) (rest := []) (stk := [.int r86.1]) ⟨hx, hb, hml, hown, hts⟩ (mX5_readNumber l D cy st sk sv B aa0 aa1 _ n A_bytes A_length A_place A_after A_sort A_number (gsF 1 r70.toNatClampNeg) r86 hc86) (cwV 1 hts gX5_readSentence_X5_readNumber rfl rfl rfl (by decide +kernel) ⟨Nat.le_of_ble_eq_true rfl, Nat.le_of_ble_eq_true rfl⟩) hG hS hAB hA hP hD [6, 7] (by decide) rfl rfl rfl rfl 0 5 rfl rfl rfl rfl hl.1 rfl (Nat.le_of_ble_eq_true rfl) dX5_readSentence_86 rfl (fun H locs hP hD hS => ?_)
        have hP : va_P D vwCl [(at0, .inr (4, [.ref at1, .ref at2, .ref at3, .ref at4, .ref at5, .int T_drowned, .int T_count, .int T_course, .int T_told, .int T_z])), (at1, .inl (cy 0, 4, .inl T_laws)), (at2, .inl (cy 0, 8, .inl T_kind)), (at3, .inl (cy 0, 8, .inl T_holds)), (at4, .inl (cy 0, 8, .inl T_gone)), (at5, .inl (cy 0, 8, .inl T_tells)), (aa0, .inr (5, [.ref aa1, .int r86.2.2.1, .int r86.2.2.2.1, .int r86.2.2.2.2.1, .int r86.2.2.2.2.2.1, .int r86.2.2.2.2.2.2])), (aa1, .inl (cy 1, 200, .inl r86.2.1))] H := hP
        have hD : va_D A [(at0, .inr (4, [.ref at1, .ref at2, .ref at3, .ref at4, .ref at5, .int T_drowned, .int T_count, .int T_course, .int T_told, .int T_z])), (at1, .inl (cy 0, 4, .inl T_laws)), (at2, .inl (cy 0, 8, .inl T_kind)), (at3, .inl (cy 0, 8, .inl T_holds)), (at4, .inl (cy 0, 8, .inl T_gone)), (at5, .inl (cy 0, 8, .inl T_tells)), (aa0, .inr (5, [.ref aa1, .int r86.2.2.1, .int r86.2.2.2.1, .int r86.2.2.2.2.1, .int r86.2.2.2.2.2.1, .int r86.2.2.2.2.2.2])), (aa1, .inl (cy 1, 200, .inl r86.2.1))] := hD
        refine lv_if_ne (tgt := 94) hx hb dX5_readSentence_89 (by decide) (fun c_89 => ?_) (fun c_89 => ?_)
        · have hf := zn hf c_89
          refine lv_aload_n hx hb dX5_readSentence_94 rfl (lv_at hl 3 rfl) ?_
          refine va_get (D := D) (ci := 4) (v := .ref at1) (C := RX4) (T := TX4) (N := 10) hx hb hts hin4 hown hK hP 0 rfl rfl 0 (by decide) fl68 (fun _ h9 => h9) rfl dX5_readSentence_95 ?_
          refine lv_iload_n hx hb dX5_readSentence_98 rfl (lv_at hl 0 rfl) ?_
          refine lv_aload_n hx hb dX5_readSentence_99 rfl (lv_at hl 2 rfl) ?_
          refine va_get (D := D) (ci := 5) (v := .int r86.2.2.2.2.2.2) (C := RX5) (T := TX5) (N := 6) hx hb hts hin5 hown hK hP 6 rfl rfl 5 (by decide) fl52 (fun _ h9 => h9) rfl dX5_readSentence_100 ?_
          obtain ⟨h_103, hf⟩ := zg hf
          refine va_iast hx hb hK hP hD hS 1 0 rfl rfl h_103 dX5_readSentence_103 (fun H locs hP hD hS => ?_)
          have hP : va_P D vwCl [(at0, .inr (4, [.ref at1, .ref at2, .ref at3, .ref at4, .ref at5, .int T_drowned, .int T_count, .int T_course, .int T_told, .int T_z])), (at1, .inl (cy 0, 4, .inl (upd T_laws r70.toNatClampNeg r86.2.2.2.2.2.2))), (at2, .inl (cy 0, 8, .inl T_kind)), (at3, .inl (cy 0, 8, .inl T_holds)), (at4, .inl (cy 0, 8, .inl T_gone)), (at5, .inl (cy 0, 8, .inl T_tells)), (aa0, .inr (5, [.ref aa1, .int r86.2.2.1, .int r86.2.2.2.1, .int r86.2.2.2.2.1, .int r86.2.2.2.2.2.1, .int r86.2.2.2.2.2.2])), (aa1, .inl (cy 1, 200, .inl r86.2.1))] H := hP
          have hD : va_D A [(at0, .inr (4, [.ref at1, .ref at2, .ref at3, .ref at4, .ref at5, .int T_drowned, .int T_count, .int T_course, .int T_told, .int T_z])), (at1, .inl (cy 0, 4, .inl (upd T_laws r70.toNatClampNeg r86.2.2.2.2.2.2))), (at2, .inl (cy 0, 8, .inl T_kind)), (at3, .inl (cy 0, 8, .inl T_holds)), (at4, .inl (cy 0, 8, .inl T_gone)), (at5, .inl (cy 0, 8, .inl T_tells)), (aa0, .inr (5, [.ref aa1, .int r86.2.2.1, .int r86.2.2.2.1, .int r86.2.2.2.2.1, .int r86.2.2.2.2.2.1, .int r86.2.2.2.2.2.2])), (aa1, .inl (cy 1, 200, .inl r86.2.1))] := hD
          refine lv_aload_n hx hb dX5_readSentence_104 rfl (lv_at hl 2 rfl) ?_
          obtain ⟨r105, hc105, hf⟩ := zb hf
          refine zvw (o := some (.int r105.1)) (As := []) (rest := []) (stk := [.int r105.1]) ⟨hx, hb, hml, hown, hts⟩ (mX5_readStop l D cy st sk sv B aa0 aa1 _ n r86.2.1 r86.2.2.1 r86.2.2.2.1 r86.2.2.2.2.1 r86.2.2.2.2.2.1 r86.2.2.2.2.2.2 r105 hc105) (cwV 0 hts gX5_readSentence_X5_readStop rfl rfl rfl (by decide +kernel) ⟨Nat.le_of_ble_eq_true rfl, Nat.le_of_ble_eq_true rfl⟩) hG hS hAB hA hP hD [6, 7] (by decide) rfl rfl rfl rfl 0 5 rfl rfl rfl rfl hl.1 rfl (Nat.le_of_ble_eq_true rfl) dX5_readSentence_105 rfl (fun H locs hP hD hS => ?_)
          have hP : va_P D vwCl [(at0, .inr (4, [.ref at1, .ref at2, .ref at3, .ref at4, .ref at5, .int T_drowned, .int T_count, .int T_course, .int T_told, .int T_z])), (at1, .inl (cy 0, 4, .inl (upd T_laws r70.toNatClampNeg r86.2.2.2.2.2.2))), (at2, .inl (cy 0, 8, .inl T_kind)), (at3, .inl (cy 0, 8, .inl T_holds)), (at4, .inl (cy 0, 8, .inl T_gone)), (at5, .inl (cy 0, 8, .inl T_tells)), (aa0, .inr (5, [.ref aa1, .int r105.2.2.1, .int r105.2.2.2.1, .int r105.2.2.2.2.1, .int r105.2.2.2.2.2.1, .int r105.2.2.2.2.2.2])), (aa1, .inl (cy 1, 200, .inl r105.2.1))] H := hP
          have hD : va_D A [(at0, .inr (4, [.ref at1, .ref at2, .ref at3, .ref at4, .ref at5, .int T_drowned, .int T_count, .int T_course, .int T_told, .int T_z])), (at1, .inl (cy 0, 4, .inl (upd T_laws r70.toNatClampNeg r86.2.2.2.2.2.2))), (at2, .inl (cy 0, 8, .inl T_kind)), (at3, .inl (cy 0, 8, .inl T_holds)), (at4, .inl (cy 0, 8, .inl T_gone)), (at5, .inl (cy 0, 8, .inl T_tells)), (aa0, .inr (5, [.ref aa1, .int r105.2.2.1, .int r105.2.2.2.1, .int r105.2.2.2.2.1, .int r105.2.2.2.2.2.1, .int r105.2.2.2.2.2.2])), (aa1, .inl (cy 1, 200, .inl r105.2.1))] := hD
          obtain ⟨h_108, hf⟩ := zg hf
          exact W.zret hx hb hr (nz_b h_108).1 (fun t ht hW => hfin r105.1 (upd T_laws r70.toNatClampNeg r86.2.2.2.2.2.2) T_kind T_holds T_gone T_tells T_drowned T_count T_course T_told T_z r105.2.1 r105.2.2.1 r105.2.2.2.1 r105.2.2.2.2.1 r105.2.2.2.2.2.1 r105.2.2.2.2.2.2 hf _ t ht hP (hS.F ht)) hS.2.2 dX5_readSentence_108
        · have hf := zp hf c_89
          refine lv_iconst (v := (0 : Int32)) hx hb dX5_readSentence_92 (by decide) ?_
          exact W.zret hx hb hr rfl (fun t ht hW => hfin (0 : Int32) T_laws T_kind T_holds T_gone T_tells T_drowned T_count T_course T_told T_z r86.2.1 r86.2.2.1 r86.2.2.2.1 r86.2.2.2.2.1 r86.2.2.2.2.2.1 r86.2.2.2.2.2.2 hf _ t ht hP (hS.F ht)) hS.2.2 dX5_readSentence_93
    · have hf := zn hf c_41
      refine lv_aload_n hx hb dX5_readSentence_44 rfl (lv_at hl 1 rfl) ?_
      refine lv_sipush (v := (999 : Int32)) hx hb dX5_readSentence_45 (by decide) ?_
      obtain ⟨r48, hc48, hf⟩ := zb hf
      refine zvw (o := some (.int r48.1)) (As := [.int (999 : Int32)]) (rest := []) (stk := [.int r48.1]) ⟨hx, hb, hml, hown, hts⟩ (mX5_readNumber l D cy st sk sv B aa0 aa1 _ n A_bytes A_length A_place A_after A_sort A_number (999 : Int32) r48 hc48) (cwV 1 hts gX5_readSentence_X5_readNumber rfl rfl rfl (by decide +kernel) ⟨Nat.le_of_ble_eq_true rfl, Nat.le_of_ble_eq_true rfl⟩) hG hS hAB hA hP hD [6, 7] (by decide) rfl rfl rfl rfl 0 5 rfl rfl rfl rfl hl.1 rfl (Nat.le_of_ble_eq_true rfl) dX5_readSentence_48 rfl (fun H locs hP hD hS => ?_)
      have hP : va_P D vwCl [(at0, .inr (4, [.ref at1, .ref at2, .ref at3, .ref at4, .ref at5, .int T_drowned, .int T_count, .int T_course, .int T_told, .int T_z])), (at1, .inl (cy 0, 4, .inl T_laws)), (at2, .inl (cy 0, 8, .inl T_kind)), (at3, .inl (cy 0, 8, .inl T_holds)), (at4, .inl (cy 0, 8, .inl T_gone)), (at5, .inl (cy 0, 8, .inl T_tells)), (aa0, .inr (5, [.ref aa1, .int r48.2.2.1, .int r48.2.2.2.1, .int r48.2.2.2.2.1, .int r48.2.2.2.2.2.1, .int r48.2.2.2.2.2.2])), (aa1, .inl (cy 1, 200, .inl r48.2.1))] H := hP
      have hD : va_D A [(at0, .inr (4, [.ref at1, .ref at2, .ref at3, .ref at4, .ref at5, .int T_drowned, .int T_count, .int T_course, .int T_told, .int T_z])), (at1, .inl (cy 0, 4, .inl T_laws)), (at2, .inl (cy 0, 8, .inl T_kind)), (at3, .inl (cy 0, 8, .inl T_holds)), (at4, .inl (cy 0, 8, .inl T_gone)), (at5, .inl (cy 0, 8, .inl T_tells)), (aa0, .inr (5, [.ref aa1, .int r48.2.2.1, .int r48.2.2.2.1, .int r48.2.2.2.2.1, .int r48.2.2.2.2.2.1, .int r48.2.2.2.2.2.2])), (aa1, .inl (cy 1, 200, .inl r48.2.1))] := hD
      refine lv_if_ne (tgt := 56) hx hb dX5_readSentence_51 (by decide) (fun c_51 => ?_) (fun c_51 => ?_)
      · have hf := zn hf c_51
        refine lv_aload_n hx hb dX5_readSentence_56 rfl (lv_at hl 2 rfl) ?_
        refine lv_aload_n hx hb dX5_readSentence_57 rfl (lv_at hl 1 rfl) ?_
        refine va_get (D := D) (ci := 5) (v := .int r48.2.2.2.2.2.2) (C := RX5) (T := TX5) (N := 6) hx hb hts hin5 hown hK hP 6 rfl rfl 5 (by decide) fl52 (fun _ h9 => h9) rfl dX5_readSentence_58 ?_
        refine va_put (D := D) (ci := 4) (v := .int r48.2.2.2.2.2.2) (ty := .int) (C := RX4) (T := TX4) (N := 10) hx hb hts hin4 tyX4 tyX4_ok nmX4 hown hK hP hD hS 0 rfl rfl 8 (by decide) fl55 (fun _ h9 => h9) rfl (by decide +kernel) rfl rfl (Nat.le_of_ble_eq_true rfl) dX5_readSentence_61 (fun H locs hP hD hS => ?_)
        have hP : va_P D vwCl [(at0, .inr (4, [.ref at1, .ref at2, .ref at3, .ref at4, .ref at5, .int T_drowned, .int T_count, .int T_course, .int r48.2.2.2.2.2.2, .int T_z])), (at1, .inl (cy 0, 4, .inl T_laws)), (at2, .inl (cy 0, 8, .inl T_kind)), (at3, .inl (cy 0, 8, .inl T_holds)), (at4, .inl (cy 0, 8, .inl T_gone)), (at5, .inl (cy 0, 8, .inl T_tells)), (aa0, .inr (5, [.ref aa1, .int r48.2.2.1, .int r48.2.2.2.1, .int r48.2.2.2.2.1, .int r48.2.2.2.2.2.1, .int r48.2.2.2.2.2.2])), (aa1, .inl (cy 1, 200, .inl r48.2.1))] H := hP
        have hD : va_D A [(at0, .inr (4, [.ref at1, .ref at2, .ref at3, .ref at4, .ref at5, .int T_drowned, .int T_count, .int T_course, .int r48.2.2.2.2.2.2, .int T_z])), (at1, .inl (cy 0, 4, .inl T_laws)), (at2, .inl (cy 0, 8, .inl T_kind)), (at3, .inl (cy 0, 8, .inl T_holds)), (at4, .inl (cy 0, 8, .inl T_gone)), (at5, .inl (cy 0, 8, .inl T_tells)), (aa0, .inr (5, [.ref aa1, .int r48.2.2.1, .int r48.2.2.2.1, .int r48.2.2.2.2.1, .int r48.2.2.2.2.2.1, .int r48.2.2.2.2.2.2])), (aa1, .inl (cy 1, 200, .inl r48.2.1))] := hD
        refine lv_aload_n hx hb dX5_readSentence_64 rfl (lv_at hl 1 rfl) ?_
        obtain ⟨r65, hc65, hf⟩ := zb hf
        refine zvw (o := some (.int r65.1)) (As := []) (rest := []) (stk := [.int r65.1]) ⟨hx, hb, hml, hown, hts⟩ (mX5_readStop l D cy st sk sv B aa0 aa1 _ n r48.2.1 r48.2.2.1 r48.2.2.2.1 r48.2.2.2.2.1 r48.2.2.2.2.2.1 r48.2.2.2.2.2.2 r65 hc65) (cwV 0 hts gX5_readSentence_X5_readStop rfl rfl rfl (by decide +kernel) ⟨Nat.le_of_ble_eq_true rfl, Nat.le_of_ble_eq_true rfl⟩) hG hS hAB hA hP hD [6, 7] (by decide) rfl rfl rfl rfl 0 5 rfl rfl rfl rfl hl.1 rfl (Nat.le_of_ble_eq_true rfl) dX5_readSentence_65 rfl (fun H locs hP hD hS => ?_)
        have hP : va_P D vwCl [(at0, .inr (4, [.ref at1, .ref at2, .ref at3, .ref at4, .ref at5, .int T_drowned, .int T_count, .int T_course, .int r48.2.2.2.2.2.2, .int T_z])), (at1, .inl (cy 0, 4, .inl T_laws)), (at2, .inl (cy 0, 8, .inl T_kind)), (at3, .inl (cy 0, 8, .inl T_holds)), (at4, .inl (cy 0, 8, .inl T_gone)), (at5, .inl (cy 0, 8, .inl T_tells)), (aa0, .inr (5, [.ref aa1, .int r65.2.2.1, .int r65.2.2.2.1, .int r65.2.2.2.2.1, .int r65.2.2.2.2.2.1, .int r65.2.2.2.2.2.2])), (aa1, .inl (cy 1, 200, .inl r65.2.1))] H := hP
        have hD : va_D A [(at0, .inr (4, [.ref at1, .ref at2, .ref at3, .ref at4, .ref at5, .int T_drowned, .int T_count, .int T_course, .int r48.2.2.2.2.2.2, .int T_z])), (at1, .inl (cy 0, 4, .inl T_laws)), (at2, .inl (cy 0, 8, .inl T_kind)), (at3, .inl (cy 0, 8, .inl T_holds)), (at4, .inl (cy 0, 8, .inl T_gone)), (at5, .inl (cy 0, 8, .inl T_tells)), (aa0, .inr (5, [.ref aa1, .int r65.2.2.1, .int r65.2.2.2.1, .int r65.2.2.2.2.1, .int r65.2.2.2.2.2.1, .int r65.2.2.2.2.2.2])), (aa1, .inl (cy 1, 200, .inl r65.2.1))] := hD
        obtain ⟨h_68, hf⟩ := zg hf
        exact W.zret hx hb hr (nz_b h_68).1 (fun t ht hW => hfin r65.1 T_laws T_kind T_holds T_gone T_tells T_drowned T_count T_course r48.2.2.2.2.2.2 T_z r65.2.1 r65.2.2.1 r65.2.2.2.1 r65.2.2.2.2.1 r65.2.2.2.2.2.1 r65.2.2.2.2.2.2 hf _ t ht hP (hS.F ht)) hS.2.2 dX5_readSentence_68
      · have hf := zp hf c_51
        refine lv_iconst (v := (0 : Int32)) hx hb dX5_readSentence_54 (by decide) ?_
        exact W.zret hx hb hr rfl (fun t ht hW => hfin (0 : Int32) T_laws T_kind T_holds T_gone T_tells T_drowned T_count T_course T_told T_z r48.2.1 r48.2.2.1 r48.2.2.2.1 r48.2.2.2.2.1 r48.2.2.2.2.2.1 r48.2.2.2.2.2.2 hf _ t ht hP (hS.F ht)) hS.2.2 dX5_readSentence_55
  · have hf := zn hf c_8
    refine lv_aload_n hx hb dX5_readSentence_11 rfl (lv_at hl 2 rfl) ?_
    refine va_get (D := D) (ci := 4) (v := .int T_count) (C := RX4) (T := TX4) (N := 10) hx hb hts hin4 hown hK hP 0 rfl rfl 6 (by decide) fl33 (fun _ h9 => h9) rfl dX5_readSentence_12 ?_
    refine lv_bipush (v := (8 : Int32)) hx hb dX5_readSentence_15 (by decide) ?_
    refine lv_icmp_ge (tgt := 33) hx hb dX5_readSentence_17 (by decide) (fun c_17 => ?_) (fun c_17 => ?_)
    · have hf := zp hf c_17
      refine lv_iconst (v := (0 : Int32)) hx hb dX5_readSentence_33 (by decide) ?_
      exact W.zret hx hb hr rfl (fun t ht hW => hfin (0 : Int32) T_laws T_kind T_holds T_gone T_tells T_drowned T_count T_course T_told T_z A_bytes A_length A_place A_after A_sort A_number hf _ t ht hP (hS.F ht)) hS.2.2 dX5_readSentence_34
    · have hf := zn hf c_17
      refine lv_aload_n hx hb dX5_readSentence_20 rfl (lv_at hl 1 rfl) ?_
      refine lv_aload_n hx hb dX5_readSentence_21 rfl (lv_at hl 2 rfl) ?_
      refine lv_iload_n hx hb dX5_readSentence_22 rfl (lv_at hl 0 rfl) ?_
      obtain ⟨r23, hc23, hf⟩ := zb hf
      refine zvw (o := some (.int r23.1)) (As := [.ref at0, .int r1]) (rest := []) (stk := [.int r23.1]) ⟨hx, hb, hml, hown, hts⟩ (mX5_readGuest l D cy st sk sv B at0 at1 at2 at3 at4 at5 aa0 aa1 _ n T_laws T_kind T_holds T_gone T_tells T_drowned T_count T_course T_told T_z A_bytes A_length A_place A_after A_sort A_number r1 r23 hc23) (cwV 2 hts gX5_readSentence_X5_readGuest rfl rfl rfl (by decide +kernel) ⟨Nat.le_of_ble_eq_true rfl, Nat.le_of_ble_eq_true rfl⟩) hG hS hAB hA hP hD [0, 1, 2, 3, 4, 5, 6, 7] (by decide) rfl rfl rfl rfl 6 5 rfl rfl rfl rfl hl.1 rfl (Nat.le_of_ble_eq_true rfl) dX5_readSentence_23 rfl (fun H locs hP hD hS => ?_)
      have hP : va_P D vwCl [(at0, .inr (4, [.ref at1, .ref at2, .ref at3, .ref at4, .ref at5, .int r23.2.1.2.2.2.2.2.1, .int r23.2.1.2.2.2.2.2.2.1, .int r23.2.1.2.2.2.2.2.2.2.1, .int r23.2.1.2.2.2.2.2.2.2.2.1, .int r23.2.1.2.2.2.2.2.2.2.2.2])), (at1, .inl (cy 0, 4, .inl r23.2.1.1)), (at2, .inl (cy 0, 8, .inl r23.2.1.2.1)), (at3, .inl (cy 0, 8, .inl r23.2.1.2.2.1)), (at4, .inl (cy 0, 8, .inl r23.2.1.2.2.2.1)), (at5, .inl (cy 0, 8, .inl r23.2.1.2.2.2.2.1)), (aa0, .inr (5, [.ref aa1, .int r23.2.2.2.1, .int r23.2.2.2.2.1, .int r23.2.2.2.2.2.1, .int r23.2.2.2.2.2.2.1, .int r23.2.2.2.2.2.2.2])), (aa1, .inl (cy 1, 200, .inl r23.2.2.1))] H := hP
      have hD : va_D A [(at0, .inr (4, [.ref at1, .ref at2, .ref at3, .ref at4, .ref at5, .int r23.2.1.2.2.2.2.2.1, .int r23.2.1.2.2.2.2.2.2.1, .int r23.2.1.2.2.2.2.2.2.2.1, .int r23.2.1.2.2.2.2.2.2.2.2.1, .int r23.2.1.2.2.2.2.2.2.2.2.2])), (at1, .inl (cy 0, 4, .inl r23.2.1.1)), (at2, .inl (cy 0, 8, .inl r23.2.1.2.1)), (at3, .inl (cy 0, 8, .inl r23.2.1.2.2.1)), (at4, .inl (cy 0, 8, .inl r23.2.1.2.2.2.1)), (at5, .inl (cy 0, 8, .inl r23.2.1.2.2.2.2.1)), (aa0, .inr (5, [.ref aa1, .int r23.2.2.2.1, .int r23.2.2.2.2.1, .int r23.2.2.2.2.2.1, .int r23.2.2.2.2.2.2.1, .int r23.2.2.2.2.2.2.2])), (aa1, .inl (cy 1, 200, .inl r23.2.2.1))] := hD
      refine lv_if_eq (tgt := 33) hx hb dX5_readSentence_26 (by decide) (fun c_26 => ?_) (fun c_26 => ?_)
      · have hf := zp hf c_26
        refine lv_iconst (v := (0 : Int32)) hx hb dX5_readSentence_33 (by decide) ?_
        exact W.zret hx hb hr rfl (fun t ht hW => hfin (0 : Int32) r23.2.1.1 r23.2.1.2.1 r23.2.1.2.2.1 r23.2.1.2.2.2.1 r23.2.1.2.2.2.2.1 r23.2.1.2.2.2.2.2.1 r23.2.1.2.2.2.2.2.2.1 r23.2.1.2.2.2.2.2.2.2.1 r23.2.1.2.2.2.2.2.2.2.2.1 r23.2.1.2.2.2.2.2.2.2.2.2 r23.2.2.1 r23.2.2.2.1 r23.2.2.2.2.1 r23.2.2.2.2.2.1 r23.2.2.2.2.2.2.1 r23.2.2.2.2.2.2.2 hf _ t ht hP (hS.F ht)) hS.2.2 dX5_readSentence_34
      · have hf := zn hf c_26
        refine lv_iconst (v := (1 : Int32)) hx hb dX5_readSentence_29 (by decide) ?_
        refine lv_goto (tgt := 34) hx hb dX5_readSentence_30 (by decide) ?_
        exact W.zret hx hb hr rfl (fun t ht hW => hfin (1 : Int32) r23.2.1.1 r23.2.1.2.1 r23.2.1.2.2.1 r23.2.1.2.2.2.1 r23.2.1.2.2.2.2.1 r23.2.1.2.2.2.2.2.1 r23.2.1.2.2.2.2.2.2.1 r23.2.1.2.2.2.2.2.2.2.1 r23.2.1.2.2.2.2.2.2.2.2.1 r23.2.1.2.2.2.2.2.2.2.2.2 r23.2.2.1 r23.2.2.2.1 r23.2.2.2.2.1 r23.2.2.2.2.2.1 r23.2.2.2.2.2.2.1 r23.2.2.2.2.2.2.2 hf _ t ht hP (hS.F ht)) hS.2.2 dX5_readSentence_34
set_option maxRecDepth 100000 in
set_option maxHeartbeats 100000000 in
theorem mX5_readInto (l : Launch) (D : va_G) (cy : Nat → ClassId) (st sk sv : Nat → Nat) (B : Nat) (at0 : Nat) (at1 : Nat) (at2 : Nat) (at3 : Nat) (at4 : Nat) (at5 : Nat) (aa0 : Nat) (aa1 : Nat) (sz : Nat) (n : Nat) (T_laws : (Nat → Int32)) (T_kind : (Nat → Int32)) (T_holds : (Nat → Int32)) (T_gone : (Nat → Int32)) (T_tells : (Nat → Int32)) (T_drowned : Int32) (T_count : Int32) (T_course : Int32) (T_told : Int32) (T_z : Int32) (A_bytes : (Nat → Int32)) (A_length : Int32) (A_place : Int32) (A_after : Int32) (A_sort : Int32) (A_number : Int32)  (z : Int32 × TB × TP) (hf : fX5_readInto n (T_laws, T_kind, T_holds, T_gone, T_tells, T_drowned, T_count, T_course, T_told, T_z) (A_bytes, A_length, A_place, A_after, A_sort, A_number) = some z) : Met l yX5_readInto wsX5_readInto ({ frames := 9, cells := 0, slots := 0, locals := 249 }) (PcW [.ref aa0, .ref at0] D cy st sk sv B sz [(at0, .inr (4, [.ref at1, .ref at2, .ref at3, .ref at4, .ref at5, .int T_drowned, .int T_count, .int T_course, .int T_told, .int T_z])), (at1, .inl (cy 0, 4, .inl T_laws)), (at2, .inl (cy 0, 8, .inl T_kind)), (at3, .inl (cy 0, 8, .inl T_holds)), (at4, .inl (cy 0, 8, .inl T_gone)), (at5, .inl (cy 0, 8, .inl T_tells)), (aa0, .inr (5, [.ref aa1, .int A_length, .int A_place, .int A_after, .int A_sort, .int A_number])), (aa1, .inl (cy 1, 200, .inl A_bytes))]) (Qw (some (.int z.1)) D [(at0, .inr (4, [.ref at1, .ref at2, .ref at3, .ref at4, .ref at5, .int z.2.1.2.2.2.2.2.1, .int z.2.1.2.2.2.2.2.2.1, .int z.2.1.2.2.2.2.2.2.2.1, .int z.2.1.2.2.2.2.2.2.2.2.1, .int z.2.1.2.2.2.2.2.2.2.2.2])), (at1, .inl (cy 0, 4, .inl z.2.1.1)), (at2, .inl (cy 0, 8, .inl z.2.1.2.1)), (at3, .inl (cy 0, 8, .inl z.2.1.2.2.1)), (at4, .inl (cy 0, 8, .inl z.2.1.2.2.2.1)), (at5, .inl (cy 0, 8, .inl z.2.1.2.2.2.2.1)), (aa0, .inr (5, [.ref aa1, .int z.2.2.2.1, .int z.2.2.2.2.1, .int z.2.2.2.2.2.1, .int z.2.2.2.2.2.2.1, .int z.2.2.2.2.2.2.2])), (aa1, .inl (cy 1, 200, .inl z.2.2.1))] (va_A [(at0, .inr (4, [.ref at1, .ref at2, .ref at3, .ref at4, .ref at5, .int T_drowned, .int T_count, .int T_course, .int T_told, .int T_z])), (at1, .inl (cy 0, 4, .inl T_laws)), (at2, .inl (cy 0, 8, .inl T_kind)), (at3, .inl (cy 0, 8, .inl T_holds)), (at4, .inl (cy 0, 8, .inl T_gone)), (at5, .inl (cy 0, 8, .inl T_tells)), (aa0, .inr (5, [.ref aa1, .int A_length, .int A_place, .int A_after, .int A_sort, .int A_number])), (aa1, .inl (cy 1, 200, .inl A_bytes))] sz)) 0 0 (va_A [(at0, .inr (4, [.ref at1, .ref at2, .ref at3, .ref at4, .ref at5, .int T_drowned, .int T_count, .int T_course, .int T_told, .int T_z])), (at1, .inl (cy 0, 4, .inl T_laws)), (at2, .inl (cy 0, 8, .inl T_kind)), (at3, .inl (cy 0, 8, .inl T_holds)), (at4, .inl (cy 0, 8, .inl T_gone)), (at5, .inl (cy 0, 8, .inl T_tells)), (aa0, .inr (5, [.ref aa1, .int A_length, .int A_place, .int A_after, .int A_sort, .int A_number])), (aa1, .inl (cy 1, 200, .inl A_bytes))] sz) := by
  refine Met.ofW (cc := cX5_readInto) (maxL := 3) (ret := (some .boolean)) (by decide) rfl ?_
  intro p e s m args below meth c s₁ Bd hml hv
  obtain ⟨rfl, hsz, hP, hD0, hBs, hG⟩ := hv
  have hx := Bd.exec
  have hb := Bd.bytes
  have hr := Bd.returns
  have hts := atoms_spec (ws := wsX5_readInto) Bd.pre
  have hown : s.vm.findClass RX5 = some m.cls := findClass_of_methodNamed Bd.named
  have hlocks := Bd.notSynchronized
  have hK := hG.1
  subst hsz
  have hD := hD0.self (sz := s.heap.size)
  have hAB0 := zA hD0 hBs
  generalize hAe : va_A [(at0, .inr (4, [.ref at1, .ref at2, .ref at3, .ref at4, .ref at5, .int T_drowned, .int T_count, .int T_course, .int T_told, .int T_z])), (at1, .inl (cy 0, 4, .inl T_laws)), (at2, .inl (cy 0, 8, .inl T_kind)), (at3, .inl (cy 0, 8, .inl T_holds)), (at4, .inl (cy 0, 8, .inl T_gone)), (at5, .inl (cy 0, 8, .inl T_tells)), (aa0, .inr (5, [.ref aa1, .int A_length, .int A_place, .int A_after, .int A_sort, .int A_number])), (aa1, .inl (cy 1, 200, .inl A_bytes))] s.heap.size = A at hD hAB0 ⊢
  have hA : ∀ q : Nat, s.heap.size ≤ q → A q := fun q h => by rw [← hAe]; exact Or.inr h
  have hAB : ∀ q, A q → B ≤ q := hAB0
  have hS : va_S A s.heap s.heap [] := va_S.rf
  have hfin : ∀ (z0 : Int32) (T_laws : (Nat → Int32)) (T_kind : (Nat → Int32)) (T_holds : (Nat → Int32)) (T_gone : (Nat → Int32)) (T_tells : (Nat → Int32)) (T_drowned : Int32) (T_count : Int32) (T_course : Int32) (T_told : Int32) (T_z : Int32) (A_bytes : (Nat → Int32)) (A_length : Int32) (A_place : Int32) (A_after : Int32) (A_sort : Int32) (A_number : Int32), some (z0, (T_laws, T_kind, T_holds, T_gone, T_tells, T_drowned, T_count, T_course, T_told, T_z), (A_bytes, A_length, A_place, A_after, A_sort, A_number)) = some z → ∀ (H : Heap) (t : State), t.heap = H → va_P D vwCl [(at0, .inr (4, [.ref at1, .ref at2, .ref at3, .ref at4, .ref at5, .int T_drowned, .int T_count, .int T_course, .int T_told, .int T_z])), (at1, .inl (cy 0, 4, .inl T_laws)), (at2, .inl (cy 0, 8, .inl T_kind)), (at3, .inl (cy 0, 8, .inl T_holds)), (at4, .inl (cy 0, 8, .inl T_gone)), (at5, .inl (cy 0, 8, .inl T_tells)), (aa0, .inr (5, [.ref aa1, .int A_length, .int A_place, .int A_after, .int A_sort, .int A_number])), (aa1, .inl (cy 1, 200, .inl A_bytes))] H → va_F A s t → Qw (some (.int z.1)) D [(at0, .inr (4, [.ref at1, .ref at2, .ref at3, .ref at4, .ref at5, .int z.2.1.2.2.2.2.2.1, .int z.2.1.2.2.2.2.2.2.1, .int z.2.1.2.2.2.2.2.2.2.1, .int z.2.1.2.2.2.2.2.2.2.2.1, .int z.2.1.2.2.2.2.2.2.2.2.2])), (at1, .inl (cy 0, 4, .inl z.2.1.1)), (at2, .inl (cy 0, 8, .inl z.2.1.2.1)), (at3, .inl (cy 0, 8, .inl z.2.1.2.2.1)), (at4, .inl (cy 0, 8, .inl z.2.1.2.2.2.1)), (at5, .inl (cy 0, 8, .inl z.2.1.2.2.2.2.1)), (aa0, .inr (5, [.ref aa1, .int z.2.2.2.1, .int z.2.2.2.2.1, .int z.2.2.2.2.2.1, .int z.2.2.2.2.2.2.1, .int z.2.2.2.2.2.2.2])), (aa1, .inl (cy 1, 200, .inl z.2.2.1))] A ([.ref aa0, .ref at0] : List Value).toArray s (.returned (some (.int z0))) t := by
    intro z0 T_laws T_kind T_holds T_gone T_tells T_drowned T_count T_course T_told T_z A_bytes A_length A_place A_after A_sort A_number h9 H t ht hP hF
    cases h9
    exact ⟨rfl, by rw [ht]; exact hP, hF⟩
  have hin5 : ∀ w ∈ u_ws RX5 TX5 6, w ∈ wsX5_readInto := by decide +kernel
  have fl15 := hts (.fieldLink RX5 15 "KinCutlery$Tape" "after" "I") (by decide +kernel)
  have fl22 := hts (.fieldLink RX5 22 "KinCutlery$Tape" "sort" "I") (by decide +kernel)
  have hL7 : ∀ (n0 : Nat) (T_laws : (Nat → Int32)) (T_kind : (Nat → Int32)) (T_holds : (Nat → Int32)) (T_gone : (Nat → Int32)) (T_tells : (Nat → Int32)) (T_drowned : Int32) (T_count : Int32) (T_course : Int32) (T_told : Int32) (T_z : Int32) (A_bytes : (Nat → Int32)) (A_length : Int32) (A_place : Int32) (A_after : Int32) (A_sort : Int32) (A_number : Int32) (y2 : Int32), lpF (fX5_readInto_F7 n ) n0 ((T_laws, T_kind, T_holds, T_gone, T_tells, T_drowned, T_count, T_course, T_told, T_z), (A_bytes, A_length, A_place, A_after, A_sort, A_number), y2) = some z → ∀ (H : Heap) (locs : List Loc), va_P D vwCl [(at0, .inr (4, [.ref at1, .ref at2, .ref at3, .ref at4, .ref at5, .int T_drowned, .int T_count, .int T_course, .int T_told, .int T_z])), (at1, .inl (cy 0, 4, .inl T_laws)), (at2, .inl (cy 0, 8, .inl T_kind)), (at3, .inl (cy 0, 8, .inl T_holds)), (at4, .inl (cy 0, 8, .inl T_gone)), (at5, .inl (cy 0, 8, .inl T_tells)), (aa0, .inr (5, [.ref aa1, .int A_length, .int A_place, .int A_after, .int A_sort, .int A_number])), (aa1, .inl (cy 1, 200, .inl A_bytes))] H → va_D A [(at0, .inr (4, [.ref at1, .ref at2, .ref at3, .ref at4, .ref at5, .int T_drowned, .int T_count, .int T_course, .int T_told, .int T_z])), (at1, .inl (cy 0, 4, .inl T_laws)), (at2, .inl (cy 0, 8, .inl T_kind)), (at3, .inl (cy 0, 8, .inl T_holds)), (at4, .inl (cy 0, 8, .inl T_gone)), (at5, .inl (cy 0, 8, .inl T_tells)), (aa0, .inr (5, [.ref aa1, .int A_length, .int A_place, .int A_after, .int A_sort, .int A_number])), (aa1, .inl (cy 1, 200, .inl A_bytes))] → va_S A s.heap H locs → ∀ (ls : Array Slot), lv_has ls 3 [(0, .ref aa0), (1, .ref at0), (2, .int y2)] → W p l e (headSpec wsX5_readInto ({ frames := 9, cells := 0, slots := 0, locals := 249 })).room s m ([.ref aa0, .ref at0] : List Value).toArray below meth c H locs 0 0 (MQ below (Qw (some (.int z.1)) D [(at0, .inr (4, [.ref at1, .ref at2, .ref at3, .ref at4, .ref at5, .int z.2.1.2.2.2.2.2.1, .int z.2.1.2.2.2.2.2.2.1, .int z.2.1.2.2.2.2.2.2.2.1, .int z.2.1.2.2.2.2.2.2.2.2.1, .int z.2.1.2.2.2.2.2.2.2.2.2])), (at1, .inl (cy 0, 4, .inl z.2.1.1)), (at2, .inl (cy 0, 8, .inl z.2.1.2.1)), (at3, .inl (cy 0, 8, .inl z.2.1.2.2.1)), (at4, .inl (cy 0, 8, .inl z.2.1.2.2.2.1)), (at5, .inl (cy 0, 8, .inl z.2.1.2.2.2.2.1)), (aa0, .inr (5, [.ref aa1, .int z.2.2.2.1, .int z.2.2.2.2.1, .int z.2.2.2.2.2.1, .int z.2.2.2.2.2.2.1, .int z.2.2.2.2.2.2.2])), (aa1, .inl (cy 1, 200, .inl z.2.2.1))] A) ([.ref aa0, .ref at0] : List Value).toArray s 0 0 A) (F0 m 7 ls []) := by
    have key : ∀ (n0 : Nat) (v7 : TB × TP × Int32), lpF (fX5_readInto_F7 n ) n0 v7 = some z → ∀ (H : Heap) (locs : List Loc), va_P D vwCl [(at0, .inr (4, [.ref at1, .ref at2, .ref at3, .ref at4, .ref at5, .int v7.1.2.2.2.2.2.1, .int v7.1.2.2.2.2.2.2.1, .int v7.1.2.2.2.2.2.2.2.1, .int v7.1.2.2.2.2.2.2.2.2.1, .int v7.1.2.2.2.2.2.2.2.2.2])), (at1, .inl (cy 0, 4, .inl v7.1.1)), (at2, .inl (cy 0, 8, .inl v7.1.2.1)), (at3, .inl (cy 0, 8, .inl v7.1.2.2.1)), (at4, .inl (cy 0, 8, .inl v7.1.2.2.2.1)), (at5, .inl (cy 0, 8, .inl v7.1.2.2.2.2.1)), (aa0, .inr (5, [.ref aa1, .int v7.2.1.2.1, .int v7.2.1.2.2.1, .int v7.2.1.2.2.2.1, .int v7.2.1.2.2.2.2.1, .int v7.2.1.2.2.2.2.2])), (aa1, .inl (cy 1, 200, .inl v7.2.1.1))] H → va_D A [(at0, .inr (4, [.ref at1, .ref at2, .ref at3, .ref at4, .ref at5, .int v7.1.2.2.2.2.2.1, .int v7.1.2.2.2.2.2.2.1, .int v7.1.2.2.2.2.2.2.2.1, .int v7.1.2.2.2.2.2.2.2.2.1, .int v7.1.2.2.2.2.2.2.2.2.2])), (at1, .inl (cy 0, 4, .inl v7.1.1)), (at2, .inl (cy 0, 8, .inl v7.1.2.1)), (at3, .inl (cy 0, 8, .inl v7.1.2.2.1)), (at4, .inl (cy 0, 8, .inl v7.1.2.2.2.1)), (at5, .inl (cy 0, 8, .inl v7.1.2.2.2.2.1)), (aa0, .inr (5, [.ref aa1, .int v7.2.1.2.1, .int v7.2.1.2.2.1, .int v7.2.1.2.2.2.1, .int v7.2.1.2.2.2.2.1, .int v7.2.1.2.2.2.2.2])), (aa1, .inl (cy 1, 200, .inl v7.2.1.1))] → va_S A s.heap H locs → ∀ (ls : Array Slot), lv_has ls 3 [(0, .ref aa0), (1, .ref at0), (2, .int v7.2.2)] → W p l e (headSpec wsX5_readInto ({ frames := 9, cells := 0, slots := 0, locals := 249 })).room s m ([.ref aa0, .ref at0] : List Value).toArray below meth c H locs 0 0 (MQ below (Qw (some (.int z.1)) D [(at0, .inr (4, [.ref at1, .ref at2, .ref at3, .ref at4, .ref at5, .int z.2.1.2.2.2.2.2.1, .int z.2.1.2.2.2.2.2.2.1, .int z.2.1.2.2.2.2.2.2.2.1, .int z.2.1.2.2.2.2.2.2.2.2.1, .int z.2.1.2.2.2.2.2.2.2.2.2])), (at1, .inl (cy 0, 4, .inl z.2.1.1)), (at2, .inl (cy 0, 8, .inl z.2.1.2.1)), (at3, .inl (cy 0, 8, .inl z.2.1.2.2.1)), (at4, .inl (cy 0, 8, .inl z.2.1.2.2.2.1)), (at5, .inl (cy 0, 8, .inl z.2.1.2.2.2.2.1)), (aa0, .inr (5, [.ref aa1, .int z.2.2.2.1, .int z.2.2.2.2.1, .int z.2.2.2.2.2.1, .int z.2.2.2.2.2.2.1, .int z.2.2.2.2.2.2.2])), (aa1, .inl (cy 1, 200, .inl z.2.2.1))] A) ([.ref aa0, .ref at0] : List Value).toArray s 0 0 A) (F0 m 7 ls []) := by
      refine lpW ?_
      intro k7 hk70
      have hk7 : ∀ (T_laws : (Nat → Int32)) (T_kind : (Nat → Int32)) (T_holds : (Nat → Int32)) (T_gone : (Nat → Int32)) (T_tells : (Nat → Int32)) (T_drowned : Int32) (T_count : Int32) (T_course : Int32) (T_told : Int32) (T_z : Int32) (A_bytes : (Nat → Int32)) (A_length : Int32) (A_place : Int32) (A_after : Int32) (A_sort : Int32) (A_number : Int32) (y2 : Int32), k7 ((T_laws, T_kind, T_holds, T_gone, T_tells, T_drowned, T_count, T_course, T_told, T_z), (A_bytes, A_length, A_place, A_after, A_sort, A_number), y2) = some z → ∀ (H : Heap) (locs : List Loc), va_P D vwCl [(at0, .inr (4, [.ref at1, .ref at2, .ref at3, .ref at4, .ref at5, .int T_drowned, .int T_count, .int T_course, .int T_told, .int T_z])), (at1, .inl (cy 0, 4, .inl T_laws)), (at2, .inl (cy 0, 8, .inl T_kind)), (at3, .inl (cy 0, 8, .inl T_holds)), (at4, .inl (cy 0, 8, .inl T_gone)), (at5, .inl (cy 0, 8, .inl T_tells)), (aa0, .inr (5, [.ref aa1, .int A_length, .int A_place, .int A_after, .int A_sort, .int A_number])), (aa1, .inl (cy 1, 200, .inl A_bytes))] H → va_D A [(at0, .inr (4, [.ref at1, .ref at2, .ref at3, .ref at4, .ref at5, .int T_drowned, .int T_count, .int T_course, .int T_told, .int T_z])), (at1, .inl (cy 0, 4, .inl T_laws)), (at2, .inl (cy 0, 8, .inl T_kind)), (at3, .inl (cy 0, 8, .inl T_holds)), (at4, .inl (cy 0, 8, .inl T_gone)), (at5, .inl (cy 0, 8, .inl T_tells)), (aa0, .inr (5, [.ref aa1, .int A_length, .int A_place, .int A_after, .int A_sort, .int A_number])), (aa1, .inl (cy 1, 200, .inl A_bytes))] → va_S A s.heap H locs → ∀ (ls : Array Slot), lv_has ls 3 [(0, .ref aa0), (1, .ref at0), (2, .int y2)] → W p l e (headSpec wsX5_readInto ({ frames := 9, cells := 0, slots := 0, locals := 249 })).room s m ([.ref aa0, .ref at0] : List Value).toArray below meth c H locs 0 0 (MQ below (Qw (some (.int z.1)) D [(at0, .inr (4, [.ref at1, .ref at2, .ref at3, .ref at4, .ref at5, .int z.2.1.2.2.2.2.2.1, .int z.2.1.2.2.2.2.2.2.1, .int z.2.1.2.2.2.2.2.2.2.1, .int z.2.1.2.2.2.2.2.2.2.2.1, .int z.2.1.2.2.2.2.2.2.2.2.2])), (at1, .inl (cy 0, 4, .inl z.2.1.1)), (at2, .inl (cy 0, 8, .inl z.2.1.2.1)), (at3, .inl (cy 0, 8, .inl z.2.1.2.2.1)), (at4, .inl (cy 0, 8, .inl z.2.1.2.2.2.1)), (at5, .inl (cy 0, 8, .inl z.2.1.2.2.2.2.1)), (aa0, .inr (5, [.ref aa1, .int z.2.2.2.1, .int z.2.2.2.2.1, .int z.2.2.2.2.2.1, .int z.2.2.2.2.2.2.1, .int z.2.2.2.2.2.2.2])), (aa1, .inl (cy 1, 200, .inl z.2.2.1))] A) ([.ref aa0, .ref at0] : List Value).toArray s 0 0 A) (F0 m 7 ls []) := fun T_laws T_kind T_holds T_gone T_tells T_drowned T_count T_course T_told T_z A_bytes A_length A_place A_after A_sort A_number y2 h9 => hk70 ((T_laws, T_kind, T_holds, T_gone, T_tells, T_drowned, T_count, T_course, T_told, T_z), (A_bytes, A_length, A_place, A_after, A_sort, A_number), y2) h9
      have hstep : ∀ (T_laws : (Nat → Int32)) (T_kind : (Nat → Int32)) (T_holds : (Nat → Int32)) (T_gone : (Nat → Int32)) (T_tells : (Nat → Int32)) (T_drowned : Int32) (T_count : Int32) (T_course : Int32) (T_told : Int32) (T_z : Int32) (A_bytes : (Nat → Int32)) (A_length : Int32) (A_place : Int32) (A_after : Int32) (A_sort : Int32) (A_number : Int32) (y2 : Int32), fX5_readInto_F7 n  k7 ((T_laws, T_kind, T_holds, T_gone, T_tells, T_drowned, T_count, T_course, T_told, T_z), (A_bytes, A_length, A_place, A_after, A_sort, A_number), y2) = some z → ∀ (H : Heap) (locs : List Loc), va_P D vwCl [(at0, .inr (4, [.ref at1, .ref at2, .ref at3, .ref at4, .ref at5, .int T_drowned, .int T_count, .int T_course, .int T_told, .int T_z])), (at1, .inl (cy 0, 4, .inl T_laws)), (at2, .inl (cy 0, 8, .inl T_kind)), (at3, .inl (cy 0, 8, .inl T_holds)), (at4, .inl (cy 0, 8, .inl T_gone)), (at5, .inl (cy 0, 8, .inl T_tells)), (aa0, .inr (5, [.ref aa1, .int A_length, .int A_place, .int A_after, .int A_sort, .int A_number])), (aa1, .inl (cy 1, 200, .inl A_bytes))] H → va_D A [(at0, .inr (4, [.ref at1, .ref at2, .ref at3, .ref at4, .ref at5, .int T_drowned, .int T_count, .int T_course, .int T_told, .int T_z])), (at1, .inl (cy 0, 4, .inl T_laws)), (at2, .inl (cy 0, 8, .inl T_kind)), (at3, .inl (cy 0, 8, .inl T_holds)), (at4, .inl (cy 0, 8, .inl T_gone)), (at5, .inl (cy 0, 8, .inl T_tells)), (aa0, .inr (5, [.ref aa1, .int A_length, .int A_place, .int A_after, .int A_sort, .int A_number])), (aa1, .inl (cy 1, 200, .inl A_bytes))] → va_S A s.heap H locs → ∀ (ls : Array Slot), lv_has ls 3 [(0, .ref aa0), (1, .ref at0), (2, .int y2)] → W p l e (headSpec wsX5_readInto ({ frames := 9, cells := 0, slots := 0, locals := 249 })).room s m ([.ref aa0, .ref at0] : List Value).toArray below meth c H locs 0 0 (MQ below (Qw (some (.int z.1)) D [(at0, .inr (4, [.ref at1, .ref at2, .ref at3, .ref at4, .ref at5, .int z.2.1.2.2.2.2.2.1, .int z.2.1.2.2.2.2.2.2.1, .int z.2.1.2.2.2.2.2.2.2.1, .int z.2.1.2.2.2.2.2.2.2.2.1, .int z.2.1.2.2.2.2.2.2.2.2.2])), (at1, .inl (cy 0, 4, .inl z.2.1.1)), (at2, .inl (cy 0, 8, .inl z.2.1.2.1)), (at3, .inl (cy 0, 8, .inl z.2.1.2.2.1)), (at4, .inl (cy 0, 8, .inl z.2.1.2.2.2.1)), (at5, .inl (cy 0, 8, .inl z.2.1.2.2.2.2.1)), (aa0, .inr (5, [.ref aa1, .int z.2.2.2.1, .int z.2.2.2.2.1, .int z.2.2.2.2.2.1, .int z.2.2.2.2.2.2.1, .int z.2.2.2.2.2.2.2])), (aa1, .inl (cy 1, 200, .inl z.2.2.1))] A) ([.ref aa0, .ref at0] : List Value).toArray s 0 0 A) (F0 m 7 ls []) := by
        intro T_laws T_kind T_holds T_gone T_tells T_drowned T_count T_course T_told T_z A_bytes A_length A_place A_after A_sort A_number y2 hf H locs hP hD hS ls hl
        have hf : (if (200 : Int32) < y2 then (some ((0 : Int32), (T_laws, T_kind, T_holds, T_gone, T_tells, T_drowned, T_count, T_course, T_told, T_z), (A_bytes, A_length, A_place, A_after, A_sort, A_number))) else ((fX5_step n (A_bytes, A_length, A_place, A_after, A_sort, A_number)).bind fun r15 => if r15.2.2.2.2.1 = 0 then (some ((1 : Int32), (T_laws, T_kind, T_holds, T_gone, T_tells, T_drowned, T_count, T_course, T_told, T_z), r15)) else ((fX5_readSentence n (T_laws, T_kind, T_holds, T_gone, T_tells, T_drowned, T_count, T_course, T_told, T_z) r15).bind fun r29 => if r29.1 = 0 then (some ((0 : Int32), r29.2.1, r29.2.2)) else (k7 (r29.2.1, r29.2.2, (y2 + (1 : Int32))))))) = some z := hf
        refine lv_iload_n hx hb dX5_readInto_7 rfl (lv_at hl 2 rfl) ?_
        refine lv_sipush (v := (200 : Int32)) hx hb dX5_readInto_8 (by decide) ?_
        refine lv_icmp_gt (tgt := 43) hx hb dX5_readInto_11 (by decide) (fun c_11 => ?_) (fun c_11 => ?_)
        · have hf := zp hf c_11
          refine lv_iconst (v := (0 : Int32)) hx hb dX5_readInto_43 (by decide) ?_
          exact W.zret hx hb hr rfl (fun t ht hW => hfin (0 : Int32) T_laws T_kind T_holds T_gone T_tells T_drowned T_count T_course T_told T_z A_bytes A_length A_place A_after A_sort A_number hf _ t ht hP (hS.F ht)) hS.2.2 dX5_readInto_44
        · have hf := zn hf c_11
          refine lv_aload_n hx hb dX5_readInto_14 rfl (lv_at hl 0 rfl) ?_
          obtain ⟨r15, hc15, hf⟩ := zb hf
          refine zvw (o := none) (As := []) (rest := []) (stk := []) ⟨hx, hb, hml, hown, hts⟩ (mX5_step l D cy st sk sv B aa0 aa1 _ n A_bytes A_length A_place A_after A_sort A_number r15 hc15) (cwV 0 hts gX5_readInto_X5_step rfl rfl rfl (by decide +kernel) ⟨Nat.le_of_ble_eq_true rfl, Nat.le_of_ble_eq_true rfl⟩) hG hS hAB hA hP hD [6, 7] (by decide) rfl rfl rfl rfl 0 5 rfl rfl rfl rfl hl.1 rfl (Nat.le_of_ble_eq_true rfl) dX5_readInto_15 rfl (fun H locs hP hD hS => ?_)
          have hP : va_P D vwCl [(at0, .inr (4, [.ref at1, .ref at2, .ref at3, .ref at4, .ref at5, .int T_drowned, .int T_count, .int T_course, .int T_told, .int T_z])), (at1, .inl (cy 0, 4, .inl T_laws)), (at2, .inl (cy 0, 8, .inl T_kind)), (at3, .inl (cy 0, 8, .inl T_holds)), (at4, .inl (cy 0, 8, .inl T_gone)), (at5, .inl (cy 0, 8, .inl T_tells)), (aa0, .inr (5, [.ref aa1, .int r15.2.1, .int r15.2.2.1, .int r15.2.2.2.1, .int r15.2.2.2.2.1, .int r15.2.2.2.2.2])), (aa1, .inl (cy 1, 200, .inl r15.1))] H := hP
          have hD : va_D A [(at0, .inr (4, [.ref at1, .ref at2, .ref at3, .ref at4, .ref at5, .int T_drowned, .int T_count, .int T_course, .int T_told, .int T_z])), (at1, .inl (cy 0, 4, .inl T_laws)), (at2, .inl (cy 0, 8, .inl T_kind)), (at3, .inl (cy 0, 8, .inl T_holds)), (at4, .inl (cy 0, 8, .inl T_gone)), (at5, .inl (cy 0, 8, .inl T_tells)), (aa0, .inr (5, [.ref aa1, .int r15.2.1, .int r15.2.2.1, .int r15.2.2.2.1, .int r15.2.2.2.2.1, .int r15.2.2.2.2.2])), (aa1, .inl (cy 1, 200, .inl r15.1))] := hD
          refine lv_aload_n hx hb dX5_readInto_18 rfl (lv_at hl 0 rfl) ?_
          refine va_get (D := D) (ci := 5) (v := .int r15.2.2.2.2.1) (C := RX5) (T := TX5) (N := 6) hx hb hts hin5 hown hK hP 6 rfl rfl 4 (by decide) fl22 (fun _ h9 => h9) rfl dX5_readInto_19 ?_
          refine lv_if_ne (tgt := 27) hx hb dX5_readInto_22 (by decide) (fun c_22 => ?_) (fun c_22 => ?_)
          · have hf := zn hf c_22
            refine lv_aload_n hx hb dX5_readInto_27 rfl (lv_at hl 0 rfl) ?_
            refine lv_aload_n hx hb dX5_readInto_28 rfl (lv_at hl 1 rfl) ?_
            obtain ⟨r29, hc29, hf⟩ := zb hf
            refine zvw (o := some (.int r29.1)) (As := [.ref at0]) (rest := []) (stk := [.int r29.1]) ⟨hx, hb, hml, hown, hts⟩ (mX5_readSentence l D cy st sk sv B at0 at1 at2 at3 at4 at5 aa0 aa1 _ n T_laws T_kind T_holds T_gone T_tells T_drowned T_count T_course T_told T_z r15.1 r15.2.1 r15.2.2.1 r15.2.2.2.1 r15.2.2.2.2.1 r15.2.2.2.2.2 r29 hc29) (cwV 1 hts gX5_readInto_X5_readSentence rfl rfl rfl (by decide +kernel) ⟨Nat.le_of_ble_eq_true rfl, Nat.le_of_ble_eq_true rfl⟩) hG hS hAB hA hP hD [0, 1, 2, 3, 4, 5, 6, 7] (by decide) rfl rfl rfl rfl 6 5 rfl rfl rfl rfl hl.1 rfl (Nat.le_of_ble_eq_true rfl) dX5_readInto_29 rfl (fun H locs hP hD hS => ?_)
            have hP : va_P D vwCl [(at0, .inr (4, [.ref at1, .ref at2, .ref at3, .ref at4, .ref at5, .int r29.2.1.2.2.2.2.2.1, .int r29.2.1.2.2.2.2.2.2.1, .int r29.2.1.2.2.2.2.2.2.2.1, .int r29.2.1.2.2.2.2.2.2.2.2.1, .int r29.2.1.2.2.2.2.2.2.2.2.2])), (at1, .inl (cy 0, 4, .inl r29.2.1.1)), (at2, .inl (cy 0, 8, .inl r29.2.1.2.1)), (at3, .inl (cy 0, 8, .inl r29.2.1.2.2.1)), (at4, .inl (cy 0, 8, .inl r29.2.1.2.2.2.1)), (at5, .inl (cy 0, 8, .inl r29.2.1.2.2.2.2.1)), (aa0, .inr (5, [.ref aa1, .int r29.2.2.2.1, .int r29.2.2.2.2.1, .int r29.2.2.2.2.2.1, .int r29.2.2.2.2.2.2.1, .int r29.2.2.2.2.2.2.2])), (aa1, .inl (cy 1, 200, .inl r29.2.2.1))] H := hP
            have hD : va_D A [(at0, .inr (4, [.ref at1, .ref at2, .ref at3, .ref at4, .ref at5, .int r29.2.1.2.2.2.2.2.1, .int r29.2.1.2.2.2.2.2.2.1, .int r29.2.1.2.2.2.2.2.2.2.1, .int r29.2.1.2.2.2.2.2.2.2.2.1, .int r29.2.1.2.2.2.2.2.2.2.2.2])), (at1, .inl (cy 0, 4, .inl r29.2.1.1)), (at2, .inl (cy 0, 8, .inl r29.2.1.2.1)), (at3, .inl (cy 0, 8, .inl r29.2.1.2.2.1)), (at4, .inl (cy 0, 8, .inl r29.2.1.2.2.2.1)), (at5, .inl (cy 0, 8, .inl r29.2.1.2.2.2.2.1)), (aa0, .inr (5, [.ref aa1, .int r29.2.2.2.1, .int r29.2.2.2.2.1, .int r29.2.2.2.2.2.1, .int r29.2.2.2.2.2.2.1, .int r29.2.2.2.2.2.2.2])), (aa1, .inl (cy 1, 200, .inl r29.2.2.1))] := hD
            refine lv_if_ne (tgt := 37) hx hb dX5_readInto_32 (by decide) (fun c_32 => ?_) (fun c_32 => ?_)
            · have hf := zn hf c_32
              refine lv_iinc (v := (y2 + (1 : Int32))) (lv' := [(2, .int (y2 + (1 : Int32))), (0, .ref aa0), (1, .ref at0)]) hx hb dX5_readInto_37 hl (k := 2) rfl rfl (by decide) rfl (fun ls hl => ?_)
              refine lv_goto (tgt := 7) hx hb dX5_readInto_40 (by decide) ?_
              exact hk7 r29.2.1.1 r29.2.1.2.1 r29.2.1.2.2.1 r29.2.1.2.2.2.1 r29.2.1.2.2.2.2.1 r29.2.1.2.2.2.2.2.1 r29.2.1.2.2.2.2.2.2.1 r29.2.1.2.2.2.2.2.2.2.1 r29.2.1.2.2.2.2.2.2.2.2.1 r29.2.1.2.2.2.2.2.2.2.2.2 r29.2.2.1 r29.2.2.2.1 r29.2.2.2.2.1 r29.2.2.2.2.2.1 r29.2.2.2.2.2.2.1 r29.2.2.2.2.2.2.2 (y2 + (1 : Int32)) hf _ _ hP hD hS _ (lv_sub hl [1, 2, 0] rfl)
            · have hf := zp hf c_32
              refine lv_iconst (v := (0 : Int32)) hx hb dX5_readInto_35 (by decide) ?_
              exact W.zret hx hb hr rfl (fun t ht hW => hfin (0 : Int32) r29.2.1.1 r29.2.1.2.1 r29.2.1.2.2.1 r29.2.1.2.2.2.1 r29.2.1.2.2.2.2.1 r29.2.1.2.2.2.2.2.1 r29.2.1.2.2.2.2.2.2.1 r29.2.1.2.2.2.2.2.2.2.1 r29.2.1.2.2.2.2.2.2.2.2.1 r29.2.1.2.2.2.2.2.2.2.2.2 r29.2.2.1 r29.2.2.2.1 r29.2.2.2.2.1 r29.2.2.2.2.2.1 r29.2.2.2.2.2.2.1 r29.2.2.2.2.2.2.2 hf _ t ht hP (hS.F ht)) hS.2.2 dX5_readInto_36
          · have hf := zp hf c_22
            refine lv_iconst (v := (1 : Int32)) hx hb dX5_readInto_25 (by decide) ?_
            exact W.zret hx hb hr rfl (fun t ht hW => hfin (1 : Int32) T_laws T_kind T_holds T_gone T_tells T_drowned T_count T_course T_told T_z r15.1 r15.2.1 r15.2.2.1 r15.2.2.2.1 r15.2.2.2.2.1 r15.2.2.2.2.2 hf _ t ht hP (hS.F ht)) hS.2.2 dX5_readInto_26
      exact fun v7 h9 => hstep v7.1.1 v7.1.2.1 v7.1.2.2.1 v7.1.2.2.2.1 v7.1.2.2.2.2.1 v7.1.2.2.2.2.2.1 v7.1.2.2.2.2.2.2.1 v7.1.2.2.2.2.2.2.2.1 v7.1.2.2.2.2.2.2.2.2.1 v7.1.2.2.2.2.2.2.2.2.2 v7.2.1.1 v7.2.1.2.1 v7.2.1.2.2.1 v7.2.1.2.2.2.1 v7.2.1.2.2.2.2.1 v7.2.1.2.2.2.2.2 v7.2.2 h9
    exact fun n0 T_laws T_kind T_holds T_gone T_tells T_drowned T_count T_course T_told T_z A_bytes A_length A_place A_after A_sort A_number y2 h9 => key n0 ((T_laws, T_kind, T_holds, T_gone, T_tells, T_drowned, T_count, T_course, T_told, T_z), (A_bytes, A_length, A_place, A_after, A_sort, A_number), y2) h9
  have hl := lv_entry ([.ref aa0, .ref at0]) (n := 3) (Nat.le_of_ble_eq_true rfl)
  rw [lg_entry_eq]
  generalize (lg_sl ([.ref aa0, .ref at0]) ++ List.replicate (3 - (lg_sl ([.ref aa0, .ref at0])).length) Slot.unset).toArray = ls at hl ⊢
  have hl : lv_has ls 3 [(0, .ref aa0), (1, .ref at0)] := hl
  have hf : (lpF (fX5_readInto_F7 n ) n ((T_laws, T_kind, T_holds, T_gone, T_tells, T_drowned, T_count, T_course, T_told, T_z), (A_bytes, A_length, A_place, (0 : Int32), A_sort, A_number), (0 : Int32))) = some z := hf
  refine lv_aload_n hx hb dX5_readInto_0 rfl (lv_at hl 0 rfl) ?_
  refine lv_iconst (v := (0 : Int32)) hx hb dX5_readInto_1 (by decide) ?_
  refine va_put (D := D) (ci := 5) (v := .int (0 : Int32)) (ty := .int) (C := RX5) (T := TX5) (N := 6) hx hb hts hin5 tyX5 tyX5_ok nmX5 hown hK hP hD hS 6 rfl rfl 3 (by decide) fl15 (fun _ h9 => h9) rfl (by decide +kernel) rfl rfl (Nat.le_of_ble_eq_true rfl) dX5_readInto_2 (fun H locs hP hD hS => ?_)
  have hP : va_P D vwCl [(at0, .inr (4, [.ref at1, .ref at2, .ref at3, .ref at4, .ref at5, .int T_drowned, .int T_count, .int T_course, .int T_told, .int T_z])), (at1, .inl (cy 0, 4, .inl T_laws)), (at2, .inl (cy 0, 8, .inl T_kind)), (at3, .inl (cy 0, 8, .inl T_holds)), (at4, .inl (cy 0, 8, .inl T_gone)), (at5, .inl (cy 0, 8, .inl T_tells)), (aa0, .inr (5, [.ref aa1, .int A_length, .int A_place, .int (0 : Int32), .int A_sort, .int A_number])), (aa1, .inl (cy 1, 200, .inl A_bytes))] H := hP
  have hD : va_D A [(at0, .inr (4, [.ref at1, .ref at2, .ref at3, .ref at4, .ref at5, .int T_drowned, .int T_count, .int T_course, .int T_told, .int T_z])), (at1, .inl (cy 0, 4, .inl T_laws)), (at2, .inl (cy 0, 8, .inl T_kind)), (at3, .inl (cy 0, 8, .inl T_holds)), (at4, .inl (cy 0, 8, .inl T_gone)), (at5, .inl (cy 0, 8, .inl T_tells)), (aa0, .inr (5, [.ref aa1, .int A_length, .int A_place, .int (0 : Int32), .int A_sort, .int A_number])), (aa1, .inl (cy 1, 200, .inl A_bytes))] := hD
  refine lv_iconst (v := (0 : Int32)) hx hb dX5_readInto_5 (by decide) ?_
  refine lv_istore_n (lv' := [(2, .int (0 : Int32)), (0, .ref aa0), (1, .ref at0)]) hx hb dX5_readInto_6 rfl hl (by decide) rfl (fun ls hl => ?_)
  exact hL7 n T_laws T_kind T_holds T_gone T_tells T_drowned T_count T_course T_told T_z A_bytes A_length A_place (0 : Int32) A_sort A_number (0 : Int32) hf _ _ hP hD hS _ (lv_sub hl [1, 2, 0] rfl)
