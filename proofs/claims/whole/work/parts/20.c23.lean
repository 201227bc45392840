set_option maxRecDepth 100000 in
set_option maxHeartbeats 100000000 in
theorem mX7_isTold (l : Launch) (D : va_G) (cy : Nat → ClassId) (st sk sv : Nat → Nat) (B : Nat) (am : Nat) (am0 : Nat) (am1 : Nat) (am2 : Nat) (am3 : Nat) (am4 : Nat) (am5 : Nat) (am6 : Nat) (am7 : Nat) (am8 : Nat) (am9 : Nat) (am10 : Nat) (am11 : Nat) (am12 : Nat) (sz : Nat) (n : Nat) (M_isHeld : Int32) (M_taped : Int32) (M_token : Int32) (M_from : Int32) (M_to : Int32) (M_value : Int32) (M_isWrong : Int32) (M_rowN : Int32) (M_ran : Int32) (M_actKind : Int32) (M_actN : Int32) (M_actA : Int32) (M_isParted : Int32) (u_s : (Nat → Int32)) (u_aside : (Nat → Int32)) (u_sizeOf : (Nat → Int32)) (u_numbers : (Nat → Int32)) (x1 : Int32) (z : Int32 × (Nat → Int32) × (Nat → Int32)) (hf : fX7_isTold n (M_isHeld, M_taped, M_token, M_from, M_to, M_value, M_isWrong, M_rowN, M_ran, M_actKind, M_actN, M_actA, M_isParted) u_s u_aside u_sizeOf u_numbers x1 = some z) : Met l yX7_isTold wsX7_isTold ({ frames := 4, cells := 0, slots := 0, locals := 88 }) (PcW [.ref am, .int x1] D cy st sk sv B sz [(am, .inr (7, [.ref am0, .ref am1, .ref am2, .ref am3, .int M_isHeld, .ref am4, .int M_taped, .int M_token, .int M_from, .int M_to, .int M_value, .int M_isWrong, .ref am5, .int M_rowN, .ref am6, .ref am7, .ref am8, .ref am9, .ref am10, .ref am11, .ref am12, .int M_ran, .int M_actKind, .int M_actN, .int M_actA, .int M_isParted])), (am0, .inl (cy 0, 48, .inl u_s)), (am2, .inl (cy 0, 48, .inl u_aside)), (am7, .inl (cy 0, 4, .inl u_sizeOf)), (am8, .inl (cy 0, 160, .inl u_numbers))]) (Qw (some (.int z.1)) D [(am, .inr (7, [.ref am0, .ref am1, .ref am2, .ref am3, .int M_isHeld, .ref am4, .int M_taped, .int M_token, .int M_from, .int M_to, .int M_value, .int M_isWrong, .ref am5, .int M_rowN, .ref am6, .ref am7, .ref am8, .ref am9, .ref am10, .ref am11, .ref am12, .int M_ran, .int M_actKind, .int M_actN, .int M_actA, .int M_isParted])), (am0, .inl (cy 0, 48, .inl z.2.1)), (am2, .inl (cy 0, 48, .inl z.2.2)), (am7, .inl (cy 0, 4, .inl u_sizeOf)), (am8, .inl (cy 0, 160, .inl u_numbers))] (va_A [(am, .inr (7, [.ref am0, .ref am1, .ref am2, .ref am3, .int M_isHeld, .ref am4, .int M_taped, .int M_token, .int M_from, .int M_to, .int M_value, .int M_isWrong, .ref am5, .int M_rowN, .ref am6, .ref am7, .ref am8, .ref am9, .ref am10, .ref am11, .ref am12, .int M_ran, .int M_actKind, .int M_actN, .int M_actA, .int M_isParted])), (am0, .inl (cy 0, 48, .inl u_s)), (am2, .inl (cy 0, 48, .inl u_aside)), (am7, .inl (cy 0, 4, .inl u_sizeOf)), (am8, .inl (cy 0, 160, .inl u_numbers))] sz)) 0 0 (va_A [(am, .inr (7, [.ref am0, .ref am1, .ref am2, .ref am3, .int M_isHeld, .ref am4, .int M_taped, .int M_token, .int M_from, .int M_to, .int M_value, .int M_isWrong, .ref am5, .int M_rowN, .ref am6, .ref am7, .ref am8, .ref am9, .ref am10, .ref am11, .ref am12, .int M_ran, .int M_actKind, .int M_actN, .int M_actA, .int M_isParted])), (am0, .inl (cy 0, 48, .inl u_s)), (am2, .inl (cy 0, 48, .inl u_aside)), (am7, .inl (cy 0, 4, .inl u_sizeOf)), (am8, .inl (cy 0, 160, .inl u_numbers))] sz) := by
  refine Met.ofW (cc := cX7_isTold) (maxL := 4) (ret := (some .boolean)) (by decide) rfl ?_
  intro p e s m args below meth c s₁ Bd hml hv
  obtain ⟨rfl, hsz, hP, hD0, hBs, hG⟩ := hv
  have hx := Bd.exec
  have hb := Bd.bytes
  have hr := Bd.returns
  have hts := atoms_spec (ws := wsX7_isTold) Bd.pre
  have hown : s.vm.findClass RX7 = some m.cls := findClass_of_methodNamed Bd.named
  have hlocks := Bd.notSynchronized
  have hK := hG.1
  subst hsz
  have hD := hD0.self (sz := s.heap.size)
  have hAB0 := zA hD0 hBs
  generalize hAe : va_A [(am, .inr (7, [.ref am0, .ref am1, .ref am2, .ref am3, .int M_isHeld, .ref am4, .int M_taped, .int M_token, .int M_from, .int M_to, .int M_value, .int M_isWrong, .ref am5, .int M_rowN, .ref am6, .ref am7, .ref am8, .ref am9, .ref am10, .ref am11, .ref am12, .int M_ran, .int M_actKind, .int M_actN, .int M_actA, .int M_isParted])), (am0, .inl (cy 0, 48, .inl u_s)), (am2, .inl (cy 0, 48, .inl u_aside)), (am7, .inl (cy 0, 4, .inl u_sizeOf)), (am8, .inl (cy 0, 160, .inl u_numbers))] s.heap.size = A at hD hAB0 ⊢
  have hA : ∀ q : Nat, s.heap.size ≤ q → A q := fun q h => by rw [← hAe]; exact Or.inr h
  have hAB : ∀ q, A q → B ≤ q := hAB0
  have hS : va_S A s.heap s.heap [] := va_S.rf
  have hfin : ∀ (z0 : Int32) (u_s : (Nat → Int32)) (u_aside : (Nat → Int32)), some (z0, u_s, u_aside) = some z → ∀ (H : Heap) (t : State), t.heap = H → va_P D vwCl [(am, .inr (7, [.ref am0, .ref am1, .ref am2, .ref am3, .int M_isHeld, .ref am4, .int M_taped, .int M_token, .int M_from, .int M_to, .int M_value, .int M_isWrong, .ref am5, .int M_rowN, .ref am6, .ref am7, .ref am8, .ref am9, .ref am10, .ref am11, .ref am12, .int M_ran, .int M_actKind, .int M_actN, .int M_actA, .int M_isParted])), (am0, .inl (cy 0, 48, .inl u_s)), (am2, .inl (cy 0, 48, .inl u_aside)), (am7, .inl (cy 0, 4, .inl u_sizeOf)), (am8, .inl (cy 0, 160, .inl u_numbers))] H → va_F A s t → Qw (some (.int z.1)) D [(am, .inr (7, [.ref am0, .ref am1, .ref am2, .ref am3, .int M_isHeld, .ref am4, .int M_taped, .int M_token, .int M_from, .int M_to, .int M_value, .int M_isWrong, .ref am5, .int M_rowN, .ref am6, .ref am7, .ref am8, .ref am9, .ref am10, .ref am11, .ref am12, .int M_ran, .int M_actKind, .int M_actN, .int M_actA, .int M_isParted])), (am0, .inl (cy 0, 48, .inl z.2.1)), (am2, .inl (cy 0, 48, .inl z.2.2)), (am7, .inl (cy 0, 4, .inl u_sizeOf)), (am8, .inl (cy 0, 160, .inl u_numbers))] A ([.ref am, .int x1] : List Value).toArray s (.returned (some (.int z0))) t := by
    intro z0 u_s u_aside h9 H t ht hP hF
    cases h9
    exact ⟨rfl, by rw [ht]; exact hP, hF⟩
  have hin7 : ∀ w ∈ u_ws RX7 TX7 26, w ∈ wsX7_isTold := by decide +kernel
  have fl7 := hts (.fieldLink RX7 7 "KinCutleryModel" "s" "[I") (by decide +kernel)
  have fl16 := hts (.fieldLink RX7 16 "KinCutleryModel" "aside" "[I") (by decide +kernel)
  have fl31 := hts (.fieldLink RX7 31 "KinCutleryModel" "sizeOf" "[I") (by decide +kernel)
  have fl34 := hts (.fieldLink RX7 34 "KinCutleryModel" "numbers" "[I") (by decide +kernel)
  have hB80 : ∀ (u_s : (Nat → Int32)) (u_aside : (Nat → Int32)) (y2 : Int32), fX7_isTold_b80 n (M_isHeld, M_taped, M_token, M_from, M_to, M_value, M_isWrong, M_rowN, M_ran, M_actKind, M_actN, M_actA, M_isParted) u_sizeOf u_numbers x1  u_s u_aside y2 = some z → ∀ (H : Heap) (locs : List Loc), va_P D vwCl [(am, .inr (7, [.ref am0, .ref am1, .ref am2, .ref am3, .int M_isHeld, .ref am4, .int M_taped, .int M_token, .int M_from, .int M_to, .int M_value, .int M_isWrong, .ref am5, .int M_rowN, .ref am6, .ref am7, .ref am8, .ref am9, .ref am10, .ref am11, .ref am12, .int M_ran, .int M_actKind, .int M_actN, .int M_actA, .int M_isParted])), (am0, .inl (cy 0, 48, .inl u_s)), (am2, .inl (cy 0, 48, .inl u_aside)), (am7, .inl (cy 0, 4, .inl u_sizeOf)), (am8, .inl (cy 0, 160, .inl u_numbers))] H → va_D A [(am, .inr (7, [.ref am0, .ref am1, .ref am2, .ref am3, .int M_isHeld, .ref am4, .int M_taped, .int M_token, .int M_from, .int M_to, .int M_value, .int M_isWrong, .ref am5, .int M_rowN, .ref am6, .ref am7, .ref am8, .ref am9, .ref am10, .ref am11, .ref am12, .int M_ran, .int M_actKind, .int M_actN, .int M_actA, .int M_isParted])), (am0, .inl (cy 0, 48, .inl u_s)), (am2, .inl (cy 0, 48, .inl u_aside)), (am7, .inl (cy 0, 4, .inl u_sizeOf)), (am8, .inl (cy 0, 160, .inl u_numbers))] → va_S A s.heap H locs → ∀ (ls : Array Slot), lv_has ls 4 [(0, .ref am), (1, .int x1), (2, .int y2)] → W p l e (headSpec wsX7_isTold ({ frames := 4, cells := 0, slots := 0, locals := 88 })).room s m ([.ref am, .int x1] : List Value).toArray below meth c H locs 0 0 (MQ below (Qw (some (.int z.1)) D [(am, .inr (7, [.ref am0, .ref am1, .ref am2, .ref am3, .int M_isHeld, .ref am4, .int M_taped, .int M_token, .int M_from, .int M_to, .int M_value, .int M_isWrong, .ref am5, .int M_rowN, .ref am6, .ref am7, .ref am8, .ref am9, .ref am10, .ref am11, .ref am12, .int M_ran, .int M_actKind, .int M_actN, .int M_actA, .int M_isParted])), (am0, .inl (cy 0, 48, .inl z.2.1)), (am2, .inl (cy 0, 48, .inl z.2.2)), (am7, .inl (cy 0, 4, .inl u_sizeOf)), (am8, .inl (cy 0, 160, .inl u_numbers))] A) ([.ref am, .int x1] : List Value).toArray s 0 0 A) (F0 m 80 ls []) := by
    intro u_s u_aside y2 hf H locs hP hD hS ls hl
    have hf : ((fX7_copyRow n u_aside u_s).bind fun r88 => if ¬ (y2 = 0 ∨ y2 = 1) then none else some (y2, r88, u_aside)) = some z := hf
    refine lv_aload_n hx hb dX7_isTold_80 rfl (lv_at hl 0 rfl) ?_
    refine va_get (D := D) (ci := 7) (v := .ref am2) (C := RX7) (T := TX7) (N := 26) hx hb hts hin7 hown hK hP 0 rfl rfl 2 (by decide) fl16 (fun _ h9 => h9) rfl dX7_isTold_81 ?_
    refine lv_aload_n hx hb dX7_isTold_84 rfl (lv_at hl 0 rfl) ?_
    refine va_get (D := D) (ci := 7) (v := .ref am0) (C := RX7) (T := TX7) (N := 26) hx hb hts hin7 hown hK hP 0 rfl rfl 0 (by decide) fl7 (fun _ h9 => h9) rfl dX7_isTold_85 ?_
    obtain ⟨r88, hc88, hf⟩ := zb hf
    refine zsw (o := none) (As := [.ref am2, .ref am0]) (rest := []) (stk := []) ⟨hx, hb, hml, hown, hts⟩ (mX7_copyRow l D cy st sk sv B am2 am0 _ n u_aside u_s r88 hc88) (va_cwS 2 hts gX7_isTold_X7_copyRow rfl rfl rfl (by decide +kernel) ⟨Nat.le_of_ble_eq_true rfl, Nat.le_of_ble_eq_true rfl⟩) hG hS hAB hA hP hD [2, 1] (by decide) rfl rfl rfl rfl rfl hl.1 rfl (Nat.le_of_ble_eq_true rfl) dX7_isTold_88 rfl (fun H locs hP hD hS => ?_)
    have hP : va_P D vwCl [(am, .inr (7, [.ref am0, .ref am1, .ref am2, .ref am3, .int M_isHeld, .ref am4, .int M_taped, .int M_token, .int M_from, .int M_to, .int M_value, .int M_isWrong, .ref am5, .int M_rowN, .ref am6, .ref am7, .ref am8, .ref am9, .ref am10, .ref am11, .ref am12, .int M_ran, .int M_actKind, .int M_actN, .int M_actA, .int M_isParted])), (am0, .inl (cy 0, 48, .inl r88)), (am2, .inl (cy 0, 48, .inl u_aside)), (am7, .inl (cy 0, 4, .inl u_sizeOf)), (am8, .inl (cy 0, 160, .inl u_numbers))] H := hP
    have hD : va_D A [(am, .inr (7, [.ref am0, .ref am1, .ref am2, .ref am3, .int M_isHeld, .ref am4, .int M_taped, .int M_token, .int M_from, .int M_to, .int M_value, .int M_isWrong, .ref am5, .int M_rowN, .ref am6, .ref am7, .ref am8, .ref am9, .ref am10, .ref am11, .ref am12, .int M_ran, .int M_actKind, .int M_actN, .int M_actA, .int M_isParted])), (am0, .inl (cy 0, 48, .inl r88)), (am2, .inl (cy 0, 48, .inl u_aside)), (am7, .inl (cy 0, 4, .inl u_sizeOf)), (am8, .inl (cy 0, 160, .inl u_numbers))] := hD
    refine lv_iload_n hx hb dX7_isTold_91 rfl (lv_at hl 2 rfl) ?_
    obtain ⟨h_92, hf⟩ := zg hf
    exact W.zret hx hb hr (nz_b h_92).1 (fun t ht hW => hfin y2 r88 u_aside hf _ t ht hP (hS.F ht)) hS.2.2 dX7_isTold_92
  have hL15 : ∀ (n0 : Nat) (u_s : (Nat → Int32)) (u_aside : (Nat → Int32)) (y2 : Int32) (y3 : Int32), lpF (fX7_isTold_F15 n (M_isHeld, M_taped, M_token, M_from, M_to, M_value, M_isWrong, M_rowN, M_ran, M_actKind, M_actN, M_actA, M_isParted) u_sizeOf u_numbers x1 ) n0 (u_s, u_aside, y2, y3) = some z → ∀ (H : Heap) (locs : List Loc), va_P D vwCl [(am, .inr (7, [.ref am0, .ref am1, .ref am2, .ref am3, .int M_isHeld, .ref am4, .int M_taped, .int M_token, .int M_from, .int M_to, .int M_value, .int M_isWrong, .ref am5, .int M_rowN, .ref am6, .ref am7, .ref am8, .ref am9, .ref am10, .ref am11, .ref am12, .int M_ran, .int M_actKind, .int M_actN, .int M_actA, .int M_isParted])), (am0, .inl (cy 0, 48, .inl u_s)), (am2, .inl (cy 0, 48, .inl u_aside)), (am7, .inl (cy 0, 4, .inl u_sizeOf)), (am8, .inl (cy 0, 160, .inl u_numbers))] H → va_D A [(am, .inr (7, [.ref am0, .ref am1, .ref am2, .ref am3, .int M_isHeld, .ref am4, .int M_taped, .int M_token, .int M_from, .int M_to, .int M_value, .int M_isWrong, .ref am5, .int M_rowN, .ref am6, .ref am7, .ref am8, .ref am9, .ref am10, .ref am11, .ref am12, .int M_ran, .int M_actKind, .int M_actN, .int M_actA, .int M_isParted])), (am0, .inl (cy 0, 48, .inl u_s)), (am2, .inl (cy 0, 48, .inl u_aside)), (am7, .inl (cy 0, 4, .inl u_sizeOf)), (am8, .inl (cy 0, 160, .inl u_numbers))] → va_S A s.heap H locs → ∀ (ls : Array Slot), lv_has ls 4 [(0, .ref am), (1, .int x1), (2, .int y2), (3, .int y3)] → W p l e (headSpec wsX7_isTold ({ frames := 4, cells := 0, slots := 0, locals := 88 })).room s m ([.ref am, .int x1] : List Value).toArray below meth c H locs 0 0 (MQ below (Qw (some (.int z.1)) D [(am, .inr (7, [.ref am0, .ref am1, .ref am2, .ref am3, .int M_isHeld, .ref am4, .int M_taped, .int M_token, .int M_from, .int M_to, .int M_value, .int M_isWrong, .ref am5, .int M_rowN, .ref am6, .ref am7, .ref am8, .ref am9, .ref am10, .ref am11, .ref am12, .int M_ran, .int M_actKind, .int M_actN, .int M_actA, .int M_isParted])), (am0, .inl (cy 0, 48, .inl z.2.1)), (am2, .inl (cy 0, 48, .inl z.2.2)), (am7, .inl (cy 0, 4, .inl u_sizeOf)), (am8, .inl (cy 0, 160, .inl u_numbers))] A) ([.ref am, .int x1] : List Value).toArray s 0 0 A) (F0 m 15 ls []) := by
    have key : ∀ (n0 : Nat) (v15 : (Nat → Int32) × (Nat → Int32) × Int32 × Int32), lpF (fX7_isTold_F15 n (M_isHeld, M_taped, M_token, M_from, M_to, M_value, M_isWrong, M_rowN, M_ran, M_actKind, M_actN, M_actA, M_isParted) u_sizeOf u_numbers x1 ) n0 v15 = some z → ∀ (H : Heap) (locs : List Loc), va_P D vwCl [(am, .inr (7, [.ref am0, .ref am1, .ref am2, .ref am3, .int M_isHeld, .ref am4, .int M_taped, .int M_token, .int M_from, .int M_to, .int M_value, .int M_isWrong, .ref am5, .int M_rowN, .ref am6, .ref am7, .ref am8, .ref am9, .ref am10, .ref am11, .ref am12, .int M_ran, .int M_actKind, .int M_actN, .int M_actA, .int M_isParted])), (am0, .inl (cy 0, 48, .inl v15.1)), (am2, .inl (cy 0, 48, .inl v15.2.1)), (am7, .inl (cy 0, 4, .inl u_sizeOf)), (am8, .inl (cy 0, 160, .inl u_numbers))] H → va_D A [(am, .inr (7, [.ref am0, .ref am1, .ref am2, .ref am3, .int M_isHeld, .ref am4, .int M_taped, .int M_token, .int M_from, .int M_to, .int M_value, .int M_isWrong, .ref am5, .int M_rowN, .ref am6, .ref am7, .ref am8, .ref am9, .ref am10, .ref am11, .ref am12, .int M_ran, .int M_actKind, .int M_actN, .int M_actA, .int M_isParted])), (am0, .inl (cy 0, 48, .inl v15.1)), (am2, .inl (cy 0, 48, .inl v15.2.1)), (am7, .inl (cy 0, 4, .inl u_sizeOf)), (am8, .inl (cy 0, 160, .inl u_numbers))] → va_S A s.heap H locs → ∀ (ls : Array Slot), lv_has ls 4 [(0, .ref am), (1, .int x1), (2, .int v15.2.2.1), (3, .int v15.2.2.2)] → W p l e (headSpec wsX7_isTold ({ frames := 4, cells := 0, slots := 0, locals := 88 })).room s m ([.ref am, .int x1] : List Value).toArray below meth c H locs 0 0 (MQ below (Qw (some (.int z.1)) D [(am, .inr (7, [.ref am0, .ref am1, .ref am2, .ref am3, .int M_isHeld, .ref am4, .int M_taped, .int M_token, .int M_from, .int M_to, .int M_value, .int M_isWrong, .ref am5, .int M_rowN, .ref am6, .ref am7, .ref am8, .ref am9, .ref am10, .ref am11, .ref am12, .int M_ran, .int M_actKind, .int M_actN, .int M_actA, .int M_isParted])), (am0, .inl (cy 0, 48, .inl z.2.1)), (am2, .inl (cy 0, 48, .inl z.2.2)), (am7, .inl (cy 0, 4, .inl u_sizeOf)), (am8, .inl (cy 0, 160, .inl u_numbers))] A) ([.ref am, .int x1] : List Value).toArray s 0 0 A) (F0 m 15 ls []) := by
      refine lpW ?_
      intro k15 hk150
      have hk15 : ∀ (u_s : (Nat → Int32)) (u_aside : (Nat → Int32)) (y2 : Int32) (y3 : Int32), k15 (u_s, u_aside, y2, y3) = some z → ∀ (H : Heap) (locs : List Loc), va_P D vwCl [(am, .inr (7, [.ref am0, .ref am1, .ref am2, .ref am3, .int M_isHeld, .ref am4, .int M_taped, .int M_token, .int M_from, .int M_to, .int M_value, .int M_isWrong, .ref am5, .int M_rowN, .ref am6, .ref am7, .ref am8, .ref am9, .ref am10, .ref am11, .ref am12, .int M_ran, .int M_actKind, .int M_actN, .int M_actA, .int M_isParted])), (am0, .inl (cy 0, 48, .inl u_s)), (am2, .inl (cy 0, 48, .inl u_aside)), (am7, .inl (cy 0, 4, .inl u_sizeOf)), (am8, .inl (cy 0, 160, .inl u_numbers))] H → va_D A [(am, .inr (7, [.ref am0, .ref am1, .ref am2, .ref am3, .int M_isHeld, .ref am4, .int M_taped, .int M_token, .int M_from, .int M_to, .int M_value, .int M_isWrong, .ref am5, .int M_rowN, .ref am6, .ref am7, .ref am8, .ref am9, .ref am10, .ref am11, .ref am12, .int M_ran, .int M_actKind, .int M_actN, .int M_actA, .int M_isParted])), (am0, .inl (cy 0, 48, .inl u_s)), (am2, .inl (cy 0, 48, .inl u_aside)), (am7, .inl (cy 0, 4, .inl u_sizeOf)), (am8, .inl (cy 0, 160, .inl u_numbers))] → va_S A s.heap H locs → ∀ (ls : Array Slot), lv_has ls 4 [(0, .ref am), (1, .int x1), (2, .int y2), (3, .int y3)] → W p l e (headSpec wsX7_isTold ({ frames := 4, cells := 0, slots := 0, locals := 88 })).room s m ([.ref am, .int x1] : List Value).toArray below meth c H locs 0 0 (MQ below (Qw (some (.int z.1)) D [(am, .inr (7, [.ref am0, .ref am1, .ref am2, .ref am3, .int M_isHeld, .ref am4, .int M_taped, .int M_token, .int M_from, .int M_to, .int M_value, .int M_isWrong, .ref am5, .int M_rowN, .ref am6, .ref am7, .ref am8, .ref am9, .ref am10, .ref am11, .ref am12, .int M_ran, .int M_actKind, .int M_actN, .int M_actA, .int M_isParted])), (am0, .inl (cy 0, 48, .inl z.2.1)), (am2, .inl (cy 0, 48, .inl z.2.2)), (am7, .inl (cy 0, 4, .inl u_sizeOf)), (am8, .inl (cy 0, 160, .inl u_numbers))] A) ([.ref am, .int x1] : List Value).toArray s 0 0 A) (F0 m 15 ls []) := fun u_s u_aside y2 y3 h9 => hk150 (u_s, u_aside, y2, y3) h9
      have hB73 : ∀ (u_s : (Nat → Int32)) (u_aside : (Nat → Int32)) (y3 : Int32) (w0 : Int32), fX7_isTold_b73 n (M_isHeld, M_taped, M_token, M_from, M_to, M_value, M_isWrong, M_rowN, M_ran, M_actKind, M_actN, M_actA, M_isParted) u_sizeOf u_numbers x1 k15 u_s u_aside y3 w0 = some z → ∀ (H : Heap) (locs : List Loc), va_P D vwCl [(am, .inr (7, [.ref am0, .ref am1, .ref am2, .ref am3, .int M_isHeld, .ref am4, .int M_taped, .int M_token, .int M_from, .int M_to, .int M_value, .int M_isWrong, .ref am5, .int M_rowN, .ref am6, .ref am7, .ref am8, .ref am9, .ref am10, .ref am11, .ref am12, .int M_ran, .int M_actKind, .int M_actN, .int M_actA, .int M_isParted])), (am0, .inl (cy 0, 48, .inl u_s)), (am2, .inl (cy 0, 48, .inl u_aside)), (am7, .inl (cy 0, 4, .inl u_sizeOf)), (am8, .inl (cy 0, 160, .inl u_numbers))] H → va_D A [(am, .inr (7, [.ref am0, .ref am1, .ref am2, .ref am3, .int M_isHeld, .ref am4, .int M_taped, .int M_token, .int M_from, .int M_to, .int M_value, .int M_isWrong, .ref am5, .int M_rowN, .ref am6, .ref am7, .ref am8, .ref am9, .ref am10, .ref am11, .ref am12, .int M_ran, .int M_actKind, .int M_actN, .int M_actA, .int M_isParted])), (am0, .inl (cy 0, 48, .inl u_s)), (am2, .inl (cy 0, 48, .inl u_aside)), (am7, .inl (cy 0, 4, .inl u_sizeOf)), (am8, .inl (cy 0, 160, .inl u_numbers))] → va_S A s.heap H locs → ∀ (ls : Array Slot), lv_has ls 4 [(0, .ref am), (1, .int x1), (3, .int y3)] → W p l e (headSpec wsX7_isTold ({ frames := 4, cells := 0, slots := 0, locals := 88 })).room s m ([.ref am, .int x1] : List Value).toArray below meth c H locs 0 0 (MQ below (Qw (some (.int z.1)) D [(am, .inr (7, [.ref am0, .ref am1, .ref am2, .ref am3, .int M_isHeld, .ref am4, .int M_taped, .int M_token, .int M_from, .int M_to, .int M_value, .int M_isWrong, .ref am5, .int M_rowN, .ref am6, .ref am7, .ref am8, .ref am9, .ref am10, .ref am11, .ref am12, .int M_ran, .int M_actKind, .int M_actN, .int M_actA, .int M_isParted])), (am0, .inl (cy 0, 48, .inl z.2.1)), (am2, .inl (cy 0, 48, .inl z.2.2)), (am7, .inl (cy 0, 4, .inl u_sizeOf)), (am8, .inl (cy 0, 160, .inl u_numbers))] A) ([.ref am, .int x1] : List Value).toArray s 0 0 A) (F0 m 73 ls [.int w0]) := by
        intro u_s u_aside y3 w0 hf H locs hP hD hS ls hl
        have hf : (k15 (u_s, u_aside, w0, (y3 + (1 : Int32)))) = some z := hf
        refine lv_istore_n (lv' := [(2, .int w0), (0, .ref am), (1, .int x1), (3, .int y3)]) hx hb dX7_isTold_73 rfl hl (by decide) rfl (fun ls hl => ?_)
        refine lv_iinc (v := (y3 + (1 : Int32))) (lv' := [(3, .int (y3 + (1 : Int32))), (2, .int w0), (0, .ref am), (1, .int x1)]) hx hb dX7_isTold_74 hl (k := 3) rfl rfl (by decide) rfl (fun ls hl => ?_)
        refine lv_goto (tgt := 15) hx hb dX7_isTold_77 (by decide) ?_
        exact hk15 u_s u_aside w0 (y3 + (1 : Int32)) hf _ _ hP hD hS _ (lv_sub hl [2, 3, 1, 0] rfl)
      have hB68 : ∀ (u_s : (Nat → Int32)) (u_aside : (Nat → Int32)) (y3 : Int32), fX7_isTold_b68 n (M_isHeld, M_taped, M_token, M_from, M_to, M_value, M_isWrong, M_rowN, M_ran, M_actKind, M_actN, M_actA, M_isParted) u_sizeOf u_numbers x1 k15 u_s u_aside y3 = some z → ∀ (H : Heap) (locs : List Loc), va_P D vwCl [(am, .inr (7, [.ref am0, .ref am1, .ref am2, .ref am3, .int M_isHeld, .ref am4, .int M_taped, .int M_token, .int M_from, .int M_to, .int M_value, .int M_isWrong, .ref am5, .int M_rowN, .ref am6, .ref am7, .ref am8, .ref am9, .ref am10, .ref am11, .ref am12, .int M_ran, .int M_actKind, .int M_actN, .int M_actA, .int M_isParted])), (am0, .inl (cy 0, 48, .inl u_s)), (am2, .inl (cy 0, 48, .inl u_aside)), (am7, .inl (cy 0, 4, .inl u_sizeOf)), (am8, .inl (cy 0, 160, .inl u_numbers))] H → va_D A [(am, .inr (7, [.ref am0, .ref am1, .ref am2, .ref am3, .int M_isHeld, .ref am4, .int M_taped, .int M_token, .int M_from, .int M_to, .int M_value, .int M_isWrong, .ref am5, .int M_rowN, .ref am6, .ref am7, .ref am8, .ref am9, .ref am10, .ref am11, .ref am12, .int M_ran, .int M_actKind, .int M_actN, .int M_actA, .int M_isParted])), (am0, .inl (cy 0, 48, .inl u_s)), (am2, .inl (cy 0, 48, .inl u_aside)), (am7, .inl (cy 0, 4, .inl u_sizeOf)), (am8, .inl (cy 0, 160, .inl u_numbers))] → va_S A s.heap H locs → ∀ (ls : Array Slot), lv_has ls 4 [(0, .ref am), (1, .int x1), (3, .int y3)] → W p l e (headSpec wsX7_isTold ({ frames := 4, cells := 0, slots := 0, locals := 88 })).room s m ([.ref am, .int x1] : List Value).toArray below meth c H locs 0 0 (MQ below (Qw (some (.int z.1)) D [(am, .inr (7, [.ref am0, .ref am1, .ref am2, .ref am3, .int M_isHeld, .ref am4, .int M_taped, .int M_token, .int M_from, .int M_to, .int M_value, .int M_isWrong, .ref am5, .int M_rowN, .ref am6, .ref am7, .ref am8, .ref am9, .ref am10, .ref am11, .ref am12, .int M_ran, .int M_actKind, .int M_actN, .int M_actA, .int M_isParted])), (am0, .inl (cy 0, 48, .inl z.2.1)), (am2, .inl (cy 0, 48, .inl z.2.2)), (am7, .inl (cy 0, 4, .inl u_sizeOf)), (am8, .inl (cy 0, 160, .inl u_numbers))] A) ([.ref am, .int x1] : List Value).toArray s 0 0 A) (F0 m 68 ls []) := by
        intro u_s u_aside y3 hf H locs hP hD hS ls hl
        have hf : (fX7_isTold_b73 n (M_isHeld, M_taped, M_token, M_from, M_to, M_value, M_isWrong, M_rowN, M_ran, M_actKind, M_actN, M_actA, M_isParted) u_sizeOf u_numbers x1 k15 u_s u_aside y3 (1 : Int32)) = some z := hf
        refine lv_iconst (v := (1 : Int32)) hx hb dX7_isTold_68 (by decide) ?_
        refine lv_goto (tgt := 73) hx hb dX7_isTold_69 (by decide) ?_
        exact hB73 u_s u_aside y3 (1 : Int32) hf _ _ hP hD hS _ (lv_sub hl [0, 1, 2] rfl)
      have hstep : ∀ (u_s : (Nat → Int32)) (u_aside : (Nat → Int32)) (y2 : Int32) (y3 : Int32), fX7_isTold_F15 n (M_isHeld, M_taped, M_token, M_from, M_to, M_value, M_isWrong, M_rowN, M_ran, M_actKind, M_actN, M_actA, M_isParted) u_sizeOf u_numbers x1  k15 (u_s, u_aside, y2, y3) = some z → ∀ (H : Heap) (locs : List Loc), va_P D vwCl [(am, .inr (7, [.ref am0, .ref am1, .ref am2, .ref am3, .int M_isHeld, .ref am4, .int M_taped, .int M_token, .int M_from, .int M_to, .int M_value, .int M_isWrong, .ref am5, .int M_rowN, .ref am6, .ref am7, .ref am8, .ref am9, .ref am10, .ref am11, .ref am12, .int M_ran, .int M_actKind, .int M_actN, .int M_actA, .int M_isParted])), (am0, .inl (cy 0, 48, .inl u_s)), (am2, .inl (cy 0, 48, .inl u_aside)), (am7, .inl (cy 0, 4, .inl u_sizeOf)), (am8, .inl (cy 0, 160, .inl u_numbers))] H → va_D A [(am, .inr (7, [.ref am0, .ref am1, .ref am2, .ref am3, .int M_isHeld, .ref am4, .int M_taped, .int M_token, .int M_from, .int M_to, .int M_value, .int M_isWrong, .ref am5, .int M_rowN, .ref am6, .ref am7, .ref am8, .ref am9, .ref am10, .ref am11, .ref am12, .int M_ran, .int M_actKind, .int M_actN, .int M_actA, .int M_isParted])), (am0, .inl (cy 0, 48, .inl u_s)), (am2, .inl (cy 0, 48, .inl u_aside)), (am7, .inl (cy 0, 4, .inl u_sizeOf)), (am8, .inl (cy 0, 160, .inl u_numbers))] → va_S A s.heap H locs → ∀ (ls : Array Slot), lv_has ls 4 [(0, .ref am), (1, .int x1), (2, .int y2), (3, .int y3)] → W p l e (headSpec wsX7_isTold ({ frames := 4, cells := 0, slots := 0, locals := 88 })).room s m ([.ref am, .int x1] : List Value).toArray below meth c H locs 0 0 (MQ below (Qw (some (.int z.1)) D [(am, .inr (7, [.ref am0, .ref am1, .ref am2, .ref am3, .int M_isHeld, .ref am4, .int M_taped, .int M_token, .int M_from, .int M_to, .int M_value, .int M_isWrong, .ref am5, .int M_rowN, .ref am6, .ref am7, .ref am8, .ref am9, .ref am10, .ref am11, .ref am12, .int M_ran, .int M_actKind, .int M_actN, .int M_actA, .int M_isParted])), (am0, .inl (cy 0, 48, .inl z.2.1)), (am2, .inl (cy 0, 48, .inl z.2.2)), (am7, .inl (cy 0, 4, .inl u_sizeOf)), (am8, .inl (cy 0, 160, .inl u_numbers))] A) ([.ref am, .int x1] : List Value).toArray s 0 0 A) (F0 m 15 ls []) := by
        intro u_s u_aside y2 y3 hf H locs hP hD hS ls hl
        have hf : (if x1 < 0 ∨ 4 ≤ x1.toNatClampNeg then none else if (u_sizeOf x1.toNatClampNeg) ≤ y3 then (fX7_isTold_b80 n (M_isHeld, M_taped, M_token, M_from, M_to, M_value, M_isWrong, M_rowN, M_ran, M_actKind, M_actN, M_actA, M_isParted) u_sizeOf u_numbers x1  u_s u_aside y2) else (if y2 = 0 then (fX7_isTold_b80 n (M_isHeld, M_taped, M_token, M_from, M_to, M_value, M_isWrong, M_rowN, M_ran, M_actKind, M_actN, M_actA, M_isParted) u_sizeOf u_numbers x1  u_s u_aside y2) else ((fX7_goesOn n (M_isHeld, M_taped, M_token, M_from, M_to, M_value, M_isWrong, M_rowN, M_ran, M_actKind, M_actN, M_actA, M_isParted) u_s).bind fun r30 => if (((40 : Int32) * x1) + y3) < 0 ∨ 160 ≤ (((40 : Int32) * x1) + y3).toNatClampNeg then none else if (u_numbers (((40 : Int32) * x1) + y3).toNatClampNeg) = (-1 : Int32) then (fX7_isTold_b68 n (M_isHeld, M_taped, M_token, M_from, M_to, M_value, M_isWrong, M_rowN, M_ran, M_actKind, M_actN, M_actA, M_isParted) u_sizeOf u_numbers x1 k15 r30 u_aside y3) else (if (((40 : Int32) * x1) + y3) < 0 ∨ 160 ≤ (((40 : Int32) * x1) + y3).toNatClampNeg then none else if (u_numbers (((40 : Int32) * x1) + y3).toNatClampNeg) = (r30 (3 : Int32).toNatClampNeg) then (fX7_isTold_b68 n (M_isHeld, M_taped, M_token, M_from, M_to, M_value, M_isWrong, M_rowN, M_ran, M_actKind, M_actN, M_actA, M_isParted) u_sizeOf u_numbers x1 k15 r30 u_aside y3) else (fX7_isTold_b73 n (M_isHeld, M_taped, M_token, M_from, M_to, M_value, M_isWrong, M_rowN, M_ran, M_actKind, M_actN, M_actA, M_isParted) u_sizeOf u_numbers x1 k15 r30 u_aside y3 (0 : Int32)))))) = some z := hf
        refine lv_iload_n hx hb dX7_isTold_15 rfl (lv_at hl 3 rfl) ?_
        refine lv_aload_n hx hb dX7_isTold_16 rfl (lv_at hl 0 rfl) ?_
        refine va_get (D := D) (ci := 7) (v := .ref am7) (C := RX7) (T := TX7) (N := 26) hx hb hts hin7 hown hK hP 0 rfl rfl 15 (by decide) fl31 (fun _ h9 => h9) rfl dX7_isTold_17 ?_
        refine lv_iload_n hx hb dX7_isTold_20 rfl (lv_at hl 1 rfl) ?_
        obtain ⟨h_21, hf⟩ := zg hf
        refine va_iald hx hb hK hP 3 0 rfl rfl h_21 dX7_isTold_21 ?_
        refine lv_icmp_ge (tgt := 80) hx hb dX7_isTold_22 (by decide) (fun c_22 => ?_) (fun c_22 => ?_)
        · have hf := zp hf c_22
          exact hB80 u_s u_aside y2 hf _ _ hP hD hS _ (lv_sub hl [0, 1, 2] rfl)
        · have hf := zn hf c_22
          refine lv_iload_n hx hb dX7_isTold_25 rfl (lv_at hl 2 rfl) ?_
          refine lv_if_eq (tgt := 80) hx hb dX7_isTold_26 (by decide) (fun c_26 => ?_) (fun c_26 => ?_)
          · have hf := zp hf c_26
            exact hB80 u_s u_aside y2 hf _ _ hP hD hS _ (lv_sub hl [0, 1, 2] rfl)
          · have hf := zn hf c_26
            refine lv_aload_n hx hb dX7_isTold_29 rfl (lv_at hl 0 rfl) ?_
            obtain ⟨r30, hc30, hf⟩ := zb hf
            refine zvw (o := none) (As := []) (rest := []) (stk := []) ⟨hx, hb, hml, hown, hts⟩ (mX7_goesOn l D cy st sk sv B am am0 am1 am2 am3 am4 am5 am6 am7 am8 am9 am10 am11 am12 _ n M_isHeld M_taped M_token M_from M_to M_value M_isWrong M_rowN M_ran M_actKind M_actN M_actA M_isParted u_s r30 hc30) (cwV 0 hts gX7_isTold_X7_goesOn rfl rfl rfl (by decide +kernel) ⟨Nat.le_of_ble_eq_true rfl, Nat.le_of_ble_eq_true rfl⟩) hG hS hAB hA hP hD [0, 1] (by decide) rfl rfl rfl rfl 0 7 rfl rfl rfl rfl hl.1 rfl (Nat.le_of_ble_eq_true rfl) dX7_isTold_30 rfl (fun H locs hP hD hS => ?_)
            have hP : va_P D vwCl [(am, .inr (7, [.ref am0, .ref am1, .ref am2, .ref am3, .int M_isHeld, .ref am4, .int M_taped, .int M_token, .int M_from, .int M_to, .int M_value, .int M_isWrong, .ref am5, .int M_rowN, .ref am6, .ref am7, .ref am8, .ref am9, .ref am10, .ref am11, .ref am12, .int M_ran, .int M_actKind, .int M_actN, .int M_actA, .int M_isParted])), (am0, .inl (cy 0, 48, .inl r30)), (am2, .inl (cy 0, 48, .inl u_aside)), (am7, .inl (cy 0, 4, .inl u_sizeOf)), (am8, .inl (cy 0, 160, .inl u_numbers))] H := hP
            have hD : va_D A [(am, .inr (7, [.ref am0, .ref am1, .ref am2, .ref am3, .int M_isHeld, .ref am4, .int M_taped, .int M_token, .int M_from, .int M_to, .int M_value, .int M_isWrong, .ref am5, .int M_rowN, .ref am6, .ref am7, .ref am8, .ref am9, .ref am10, .ref am11, .ref am12, .int M_ran, .int M_actKind, .int M_actN, .int M_actA, .int M_isParted])), (am0, .inl (cy 0, 48, .inl r30)), (am2, .inl (cy 0, 48, .inl u_aside)), (am7, .inl (cy 0, 4, .inl u_sizeOf)), (am8, .inl (cy 0, 160, .inl u_numbers))] := hD
            refine lv_aload_n hx hb dX7_isTold_33 rfl (lv_at hl 0 rfl) ?_
            refine va_get (D := D) (ci := 7) (v := .ref am8) (C := RX7) (T := TX7) (N := 26) hx hb hts hin7 hown hK hP 0 rfl rfl 16 (by decide) fl34 (fun _ h9 => h9) rfl dX7_isTold_34 ?_
            refine lv_bipush (v := (40 : Int32)) hx hb dX7_isTold_37 (by decide) ?_
            refine lv_iload_n hx hb dX7_isTold_39 rfl (lv_at hl 1 rfl) ?_
            refine lv_imul hx hb dX7_isTold_40 ?_
            refine lv_iload_n hx hb dX7_isTold_41 rfl (lv_at hl 3 rfl) ?_
            refine lv_iadd hx hb dX7_isTold_42 ?_
            obtain ⟨h_43, hf⟩ := zg hf
            refine va_iald hx hb hK hP 4 0 rfl rfl h_43 dX7_isTold_43 ?_
            refine lv_iconst (v := (-1 : Int32)) hx hb dX7_isTold_44 (by decide) ?_
            refine lv_icmp_eq (tgt := 68) hx hb dX7_isTold_45 (by decide) (fun c_45 => ?_) (fun c_45 => ?_)
            · have hf := zp hf c_45
              exact hB68 r30 u_aside y3 hf _ _ hP hD hS _ (lv_sub hl [0, 1, 3] rfl)
            · have hf := zn hf c_45
              refine lv_aload_n hx hb dX7_isTold_48 rfl (lv_at hl 0 rfl) ?_
              refine va_get (D := D) (ci := 7) (v := .ref am8) (C := RX7) (T := TX7) (N := 26) hx hb hts hin7 hown hK hP 0 rfl rfl 16 (by decide) fl34 (fun _ h9 => h9) rfl dX7_isTold_49 ?_
              refine lv_bipush (v := (40 : Int32)) hx hb dX7_isTold_52 (by decide) ?_
              refine lv_iload_n hx hb dX7_isTold_54 rfl (lv_at hl 1 rfl) ?_
              refine lv_imul hx hb dX7_isTold_55 ?_
              refine lv_iload_n hx hb dX7_isTold_56 rfl (lv_at hl 3 rfl) ?_
              refine lv_iadd hx hb dX7_isTold_57 ?_
              obtain ⟨h_58, hf⟩ := zg hf
              refine va_iald hx hb hK hP 4 0 rfl rfl h_58 dX7_isTold_58 ?_
              refine lv_aload_n hx hb dX7_isTold_59 rfl (lv_at hl 0 rfl) ?_
              refine va_get (D := D) (ci := 7) (v := .ref am0) (C := RX7) (T := TX7) (N := 26) hx hb hts hin7 hown hK hP 0 rfl rfl 0 (by decide) fl7 (fun _ h9 => h9) rfl dX7_isTold_60 ?_
              refine lv_iconst (v := (3 : Int32)) hx hb dX7_isTold_63 (by decide) ?_
              refine va_iald hx hb hK hP 1 0 rfl rfl vi_3_48 dX7_isTold_64 ?_
              refine lv_icmp_ne (tgt := 72) hx hb dX7_isTold_65 (by decide) (fun c_65 => ?_) (fun c_65 => ?_)
              · have hf := zn hf c_65
                refine lv_iconst (v := (0 : Int32)) hx hb dX7_isTold_72 (by decide) ?_
                exact hB73 r30 u_aside y3 (0 : Int32) hf _ _ hP hD hS _ (lv_sub hl [0, 1, 3] rfl)
              · have hf := zp hf c_65
                exact hB68 r30 u_aside y3 hf _ _ hP hD hS _ (lv_sub hl [0, 1, 3] rfl)
      exact fun v15 h9 => hstep v15.1 v15.2.1 v15.2.2.1 v15.2.2.2 h9
    exact fun n0 u_s u_aside y2 y3 h9 => key n0 (u_s, u_aside, y2, y3) h9
  have hl := lv_entry ([.ref am, .int x1]) (n := 4) (Nat.le_of_ble_eq_true rfl)
  rw [lg_entry_eq]
  generalize (lg_sl ([.ref am, .int x1]) ++ List.replicate (4 - (lg_sl ([.ref am, .int x1])).length) Slot.unset).toArray = ls at hl ⊢
  have hl : lv_has ls 4 [(0, .ref am), (1, .int x1)] := hl
  have hf : ((fX7_copyRow n u_s u_aside).bind fun r8 => lpF (fX7_isTold_F15 n (M_isHeld, M_taped, M_token, M_from, M_to, M_value, M_isWrong, M_rowN, M_ran, M_actKind, M_actN, M_actA, M_isParted) u_sizeOf u_numbers x1 ) n (u_s, r8, (1 : Int32), (0 : Int32))) = some z := hf
  refine lv_aload_n hx hb dX7_isTold_0 rfl (lv_at hl 0 rfl) ?_
  refine va_get (D := D) (ci := 7) (v := .ref am0) (C := RX7) (T := TX7) (N := 26) hx hb hts hin7 hown hK hP 0 rfl rfl 0 (by decide) fl7 (fun _ h9 => h9) rfl dX7_isTold_1 ?_
  refine lv_aload_n hx hb dX7_isTold_4 rfl (lv_at hl 0 rfl) ?_
  refine va_get (D := D) (ci := 7) (v := .ref am2) (C := RX7) (T := TX7) (N := 26) hx hb hts hin7 hown hK hP 0 rfl rfl 2 (by decide) fl16 (fun _ h9 => h9) rfl dX7_isTold_5 ?_
  obtain ⟨r8, hc8, hf⟩ := zb hf
  refine zsw (o := none) (As := [.ref am0, .ref am2]) (rest := []) (stk := []) ⟨hx, hb, hml, hown, hts⟩ (mX7_copyRow l D cy st sk sv B am0 am2 _ n u_s u_aside r8 hc8) (va_cwS 2 hts gX7_isTold_X7_copyRow rfl rfl rfl (by decide +kernel) ⟨Nat.le_of_ble_eq_true rfl, Nat.le_of_ble_eq_true rfl⟩) hG hS hAB hA hP hD [1, 2] (by decide) rfl rfl rfl rfl rfl hl.1 rfl (Nat.le_of_ble_eq_true rfl) dX7_isTold_8 rfl (fun H locs hP hD hS => ?_)
  have hP : va_P D vwCl [(am, .inr (7, [.ref am0, .ref am1, .ref am2, .ref am3, .int M_isHeld, .ref am4, .int M_taped, .int M_token, .int M_from, .int M_to, .int M_value, .int M_isWrong, .ref am5, .int M_rowN, .ref am6, .ref am7, .ref am8, .ref am9, .ref am10, .ref am11, .ref am12, .int M_ran, .int M_actKind, .int M_actN, .int M_actA, .int M_isParted])), (am0, .inl (cy 0, 48, .inl u_s)), (am2, .inl (cy 0, 48, .inl r8)), (am7, .inl (cy 0, 4, .inl u_sizeOf)), (am8, .inl (cy 0, 160, .inl u_numbers))] H := hP
  have hD : va_D A [(am, .inr (7, [.ref am0, .ref am1, .ref am2, .ref am3, .int M_isHeld, .ref am4, .int M_taped, .int M_token, .int M_from, .int M_to, .int M_value, .int M_isWrong, .ref am5, .int M_rowN, .ref am6, .ref am7, .ref am8, .ref am9, .ref am10, .ref am11, .ref am12, .int M_ran, .int M_actKind, .int M_actN, .int M_actA, .int M_isParted])), (am0, .inl (cy 0, 48, .inl u_s)), (am2, .inl (cy 0, 48, .inl r8)), (am7, .inl (cy 0, 4, .inl u_sizeOf)), (am8, .inl (cy 0, 160, .inl u_numbers))] := hD
  refine lv_iconst (v := (1 : Int32)) hx hb dX7_isTold_11 (by decide) ?_
  refine lv_istore_n (lv' := [(2, .int (1 : Int32)), (0, .ref am), (1, .int x1)]) hx hb dX7_isTold_12 rfl hl (by decide) rfl (fun ls hl => ?_)
  refine lv_iconst (v := (0 : Int32)) hx hb dX7_isTold_13 (by decide) ?_
  refine lv_istore_n (lv' := [(3, .int (0 : Int32)), (2, .int (1 : Int32)), (0, .ref am), (1, .int x1)]) hx hb dX7_isTold_14 rfl hl (by decide) rfl (fun ls hl => ?_)
  exact hL15 n u_s r8 (1 : Int32) (0 : Int32) hf _ _ hP hD hS _ (lv_sub hl [2, 3, 1, 0] rfl)
set_option maxRecDepth 100000 in
set_option maxHeartbeats 100000000 in
theorem mX7_isSheet (l : Launch) (D : va_G) (cy : Nat → ClassId) (st sk sv : Nat → Nat) (B : Nat)  (n : Nat)  (x0 : Int32) (z : Int32) (hf : fX7_isSheet n x0 = some z) : Met l yX7_isSheet wsX7_isSheet ({ frames := 1, cells := 0, slots := 0, locals := 25 }) (PcR [.int x0] D cy st sk sv B []) (Qr (some (.int z))) 0 0 (fun _ => False) := by
  refine Met.ofW (cc := cX7_isSheet) (maxL := 1) (ret := (some .boolean)) (by decide) rfl ?_
  intro p e s m args below meth c s₁ Bd hml hv
  obtain ⟨rfl, hP, hG⟩ := hv
  have hx := Bd.exec
  have hb := Bd.bytes
  have hr := Bd.returns
  have hts := atoms_spec (ws := wsX7_isSheet) Bd.pre
  have hown : s.vm.findClass RX7 = some m.cls := findClass_of_methodNamed Bd.named
  have hlocks := Bd.notSynchronized
  have hK := hG.1
  have hS : va_S (fun q => B ≤ q) s.heap s.heap [] := va_S.rf
  have hAB : ∀ q, (fun q => B ≤ q) q → B ≤ q := fun _ h => h
  have hl := lv_entry ([.int x0]) (n := 1) (Nat.le_of_ble_eq_true rfl)
  rw [lg_entry_eq]
  generalize (lg_sl ([.int x0]) ++ List.replicate (1 - (lg_sl ([.int x0])).length) Slot.unset).toArray = ls at hl ⊢
  have hl : lv_has ls 1 [(0, .int x0)] := hl
  have hf : ((fX7_isIn n x0.toInt64 (0 : Int64) (3 : Int64)).bind fun r6 => if ¬ (r6 = 0 ∨ r6 = 1) then none else some r6) = some z := hf
  refine lv_iload_n hx hb dX7_isSheet_0 rfl (lv_at hl 0 rfl) ?_
  refine lv_i2l hx hb dX7_isSheet_1 rfl ?_
  refine lv_lconst (v := (0 : Int64)) hx hb dX7_isSheet_2 (by decide) ?_
  refine lv_ldc2 (v := (3 : Int64)) hx hb hown (hts (.constantLong RX7 143 (3)) (by decide +kernel)) dX7_isSheet_3 ?_
  obtain ⟨r6, hc6, hf⟩ := zb hf
  refine zsr (o := some (.int r6)) (As := [.long x0.toInt64, .long (0 : Int64), .long (3 : Int64)]) (rest := []) (stk := [.int r6]) ⟨hx, hb, hml, hown, hts⟩ (mX7_isIn l D cy st sk sv B  n x0.toInt64 (0 : Int64) (3 : Int64) r6 hc6) (va_cwS 3 hts gX7_isSheet_X7_isIn rfl rfl rfl (by decide +kernel) ⟨Nat.le_of_ble_eq_true rfl, Nat.le_of_ble_eq_true rfl⟩) hG hS hAB hP [] rfl rfl hl.1 rfl (Nat.le_of_ble_eq_true rfl) dX7_isSheet_6 rfl ?_
  obtain ⟨h_9, hf⟩ := zg hf
  cases hf
  exact W.zret hx hb hr (nz_b h_9).1 (fun t ht hW => ⟨rfl, ht⟩) (fun q h => absurd h List.not_mem_nil) dX7_isSheet_9
set_option maxRecDepth 100000 in
set_option maxHeartbeats 100000000 in
theorem mX7_fits (l : Launch) (D : va_G) (cy : Nat → ClassId) (st sk sv : Nat → Nat) (B : Nat) (am : Nat) (am0 : Nat) (am1 : Nat) (am2 : Nat) (am3 : Nat) (am4 : Nat) (am5 : Nat) (am6 : Nat) (am7 : Nat) (am8 : Nat) (am9 : Nat) (am10 : Nat) (am11 : Nat) (am12 : Nat) (sz : Nat) (n : Nat) (M_isHeld : Int32) (M_taped : Int32) (M_token : Int32) (M_from : Int32) (M_to : Int32) (M_value : Int32) (M_isWrong : Int32) (M_rowN : Int32) (M_ran : Int32) (M_actKind : Int32) (M_actN : Int32) (M_actA : Int32) (M_isParted : Int32) (u_s : (Nat → Int32)) (u_aside : (Nat → Int32)) (u_sortOf : (Nat → Int32)) (u_sizeOf : (Nat → Int32)) (u_numbers : (Nat → Int32)) (x1 : Int32) (x2 : Int32) (x3 : Int32) (z : Int32 × (Nat → Int32) × (Nat → Int32)) (hf : fX7_fits n (M_isHeld, M_taped, M_token, M_from, M_to, M_value, M_isWrong, M_rowN, M_ran, M_actKind, M_actN, M_actA, M_isParted) u_s u_aside u_sortOf u_sizeOf u_numbers x1 x2 x3 = some z) : Met l yX7_fits wsX7_fits ({ frames := 5, cells := 0, slots := 0, locals := 111 }) (PcW [.ref am, .int x1, .int x2, .int x3] D cy st sk sv B sz [(am, .inr (7, [.ref am0, .ref am1, .ref am2, .ref am3, .int M_isHeld, .ref am4, .int M_taped, .int M_token, .int M_from, .int M_to, .int M_value, .int M_isWrong, .ref am5, .int M_rowN, .ref am6, .ref am7, .ref am8, .ref am9, .ref am10, .ref am11, .ref am12, .int M_ran, .int M_actKind, .int M_actN, .int M_actA, .int M_isParted])), (am0, .inl (cy 0, 48, .inl u_s)), (am2, .inl (cy 0, 48, .inl u_aside)), (am6, .inl (cy 0, 4, .inl u_sortOf)), (am7, .inl (cy 0, 4, .inl u_sizeOf)), (am8, .inl (cy 0, 160, .inl u_numbers))]) (Qw (some (.int z.1)) D [(am, .inr (7, [.ref am0, .ref am1, .ref am2, .ref am3, .int M_isHeld, .ref am4, .int M_taped, .int M_token, .int M_from, .int M_to, .int M_value, .int M_isWrong, .ref am5, .int M_rowN, .ref am6, .ref am7, .ref am8, .ref am9, .ref am10, .ref am11, .ref am12, .int M_ran, .int M_actKind, .int M_actN, .int M_actA, .int M_isParted])), (am0, .inl (cy 0, 48, .inl z.2.1)), (am2, .inl (cy 0, 48, .inl z.2.2)), (am6, .inl (cy 0, 4, .inl u_sortOf)), (am7, .inl (cy 0, 4, .inl u_sizeOf)), (am8, .inl (cy 0, 160, .inl u_numbers))] (va_A [(am, .inr (7, [.ref am0, .ref am1, .ref am2, .ref am3, .int M_isHeld, .ref am4, .int M_taped, .int M_token, .int M_from, .int M_to, .int M_value, .int M_isWrong, .ref am5, .int M_rowN, .ref am6, .ref am7, .ref am8, .ref am9, .ref am10, .ref am11, .ref am12, .int M_ran, .int M_actKind, .int M_actN, .int M_actA, .int M_isParted])), (am0, .inl (cy 0, 48, .inl u_s)), (am2, .inl (cy 0, 48, .inl u_aside)), (am6, .inl (cy 0, 4, .inl u_sortOf)), (am7, .inl (cy 0, 4, .inl u_sizeOf)), (am8, .inl (cy 0, 160, .inl u_numbers))] sz)) 0 0 (va_A [(am, .inr (7, [.ref am0, .ref am1, .ref am2, .ref am3, .int M_isHeld, .ref am4, .int M_taped, .int M_token, .int M_from, .int M_to, .int M_value, .int M_isWrong, .ref am5, .int M_rowN, .ref am6, .ref am7, .ref am8, .ref am9, .ref am10, .ref am11, .ref am12, .int M_ran, .int M_actKind, .int M_actN, .int M_actA, .int M_isParted])), (am0, .inl (cy 0, 48, .inl u_s)), (am2, .inl (cy 0, 48, .inl u_aside)), (am6, .inl (cy 0, 4, .inl u_sortOf)), (am7, .inl (cy 0, 4, .inl u_sizeOf)), (am8, .inl (cy 0, 160, .inl u_numbers))] sz) := by
  refine Met.ofW (cc := cX7_fits) (maxL := 10) (ret := (some .int)) (by decide) rfl ?_
  intro p e s m args below meth c s₁ Bd hml hv
  obtain ⟨rfl, hsz, hP, hD0, hBs, hG⟩ := hv
  have hx := Bd.exec
  have hb := Bd.bytes
  have hr := Bd.returns
  have hts := atoms_spec (ws := wsX7_fits) Bd.pre
  have hown : s.vm.findClass RX7 = some m.cls := findClass_of_methodNamed Bd.named
  have hlocks := Bd.notSynchronized
  have hK := hG.1
  subst hsz
  have hD := hD0.self (sz := s.heap.size)
  have hAB0 := zA hD0 hBs
  generalize hAe : va_A [(am, .inr (7, [.ref am0, .ref am1, .ref am2, .ref am3, .int M_isHeld, .ref am4, .int M_taped, .int M_token, .int M_from, .int M_to, .int M_value, .int M_isWrong, .ref am5, .int M_rowN, .ref am6, .ref am7, .ref am8, .ref am9, .ref am10, .ref am11, .ref am12, .int M_ran, .int M_actKind, .int M_actN, .int M_actA, .int M_isParted])), (am0, .inl (cy 0, 48, .inl u_s)), (am2, .inl (cy 0, 48, .inl u_aside)), (am6, .inl (cy 0, 4, .inl u_sortOf)), (am7, .inl (cy 0, 4, .inl u_sizeOf)), (am8, .inl (cy 0, 160, .inl u_numbers))] s.heap.size = A at hD hAB0 ⊢
  have hA : ∀ q : Nat, s.heap.size ≤ q → A q := fun q h => by rw [← hAe]; exact Or.inr h
  have hAB : ∀ q, A q → B ≤ q := hAB0
  have hS : va_S A s.heap s.heap [] := va_S.rf
  have hfin : ∀ (z0 : Int32) (u_s : (Nat → Int32)) (u_aside : (Nat → Int32)), some (z0, u_s, u_aside) = some z → ∀ (H : Heap) (t : State), t.heap = H → va_P D vwCl [(am, .inr (7, [.ref am0, .ref am1, .ref am2, .ref am3, .int M_isHeld, .ref am4, .int M_taped, .int M_token, .int M_from, .int M_to, .int M_value, .int M_isWrong, .ref am5, .int M_rowN, .ref am6, .ref am7, .ref am8, .ref am9, .ref am10, .ref am11, .ref am12, .int M_ran, .int M_actKind, .int M_actN, .int M_actA, .int M_isParted])), (am0, .inl (cy 0, 48, .inl u_s)), (am2, .inl (cy 0, 48, .inl u_aside)), (am6, .inl (cy 0, 4, .inl u_sortOf)), (am7, .inl (cy 0, 4, .inl u_sizeOf)), (am8, .inl (cy 0, 160, .inl u_numbers))] H → va_F A s t → Qw (some (.int z.1)) D [(am, .inr (7, [.ref am0, .ref am1, .ref am2, .ref am3, .int M_isHeld, .ref am4, .int M_taped, .int M_token, .int M_from, .int M_to, .int M_value, .int M_isWrong, .ref am5, .int M_rowN, .ref am6, .ref am7, .ref am8, .ref am9, .ref am10, .ref am11, .ref am12, .int M_ran, .int M_actKind, .int M_actN, .int M_actA, .int M_isParted])), (am0, .inl (cy 0, 48, .inl z.2.1)), (am2, .inl (cy 0, 48, .inl z.2.2)), (am6, .inl (cy 0, 4, .inl u_sortOf)), (am7, .inl (cy 0, 4, .inl u_sizeOf)), (am8, .inl (cy 0, 160, .inl u_numbers))] A ([.ref am, .int x1, .int x2, .int x3] : List Value).toArray s (.returned (some (.int z0))) t := by
    intro z0 u_s u_aside h9 H t ht hP hF
    cases h9
    exact ⟨rfl, by rw [ht]; exact hP, hF⟩
  have hin7 : ∀ w ∈ u_ws RX7 TX7 26, w ∈ wsX7_fits := by decide +kernel
  have fl7 := hts (.fieldLink RX7 7 "KinCutleryModel" "s" "[I") (by decide +kernel)
  have fl28 := hts (.fieldLink RX7 28 "KinCutleryModel" "sortOf" "[I") (by decide +kernel)
  have hL69 : ∀ (n0 : Nat) (u_s : (Nat → Int32)) (u_aside : (Nat → Int32)) (y4 : Int32) (y5 : Int32) (y6 : Int32) (y7 : Int32) (y8 : Int32), lpF (fX7_fits_F69 n (M_isHeld, M_taped, M_token, M_from, M_to, M_value, M_isWrong, M_rowN, M_ran, M_actKind, M_actN, M_actA, M_isParted) u_sortOf u_sizeOf u_numbers x1 x2 x3 ) n0 (u_s, u_aside, y4, y5, y6, y7, y8) = some z → ∀ (H : Heap) (locs : List Loc), va_P D vwCl [(am, .inr (7, [.ref am0, .ref am1, .ref am2, .ref am3, .int M_isHeld, .ref am4, .int M_taped, .int M_token, .int M_from, .int M_to, .int M_value, .int M_isWrong, .ref am5, .int M_rowN, .ref am6, .ref am7, .ref am8, .ref am9, .ref am10, .ref am11, .ref am12, .int M_ran, .int M_actKind, .int M_actN, .int M_actA, .int M_isParted])), (am0, .inl (cy 0, 48, .inl u_s)), (am2, .inl (cy 0, 48, .inl u_aside)), (am6, .inl (cy 0, 4, .inl u_sortOf)), (am7, .inl (cy 0, 4, .inl u_sizeOf)), (am8, .inl (cy 0, 160, .inl u_numbers))] H → va_D A [(am, .inr (7, [.ref am0, .ref am1, .ref am2, .ref am3, .int M_isHeld, .ref am4, .int M_taped, .int M_token, .int M_from, .int M_to, .int M_value, .int M_isWrong, .ref am5, .int M_rowN, .ref am6, .ref am7, .ref am8, .ref am9, .ref am10, .ref am11, .ref am12, .int M_ran, .int M_actKind, .int M_actN, .int M_actA, .int M_isParted])), (am0, .inl (cy 0, 48, .inl u_s)), (am2, .inl (cy 0, 48, .inl u_aside)), (am6, .inl (cy 0, 4, .inl u_sortOf)), (am7, .inl (cy 0, 4, .inl u_sizeOf)), (am8, .inl (cy 0, 160, .inl u_numbers))] → va_S A s.heap H locs → ∀ (ls : Array Slot), lv_has ls 10 [(0, .ref am), (1, .int x1), (2, .int x2), (3, .int x3), (4, .int y4), (5, .int y5), (6, .int y6), (7, .int y7), (8, .int y8)] → W p l e (headSpec wsX7_fits ({ frames := 5, cells := 0, slots := 0, locals := 111 })).room s m ([.ref am, .int x1, .int x2, .int x3] : List Value).toArray below meth c H locs 0 0 (MQ below (Qw (some (.int z.1)) D [(am, .inr (7, [.ref am0, .ref am1, .ref am2, .ref am3, .int M_isHeld, .ref am4, .int M_taped, .int M_token, .int M_from, .int M_to, .int M_value, .int M_isWrong, .ref am5, .int M_rowN, .ref am6, .ref am7, .ref am8, .ref am9, .ref am10, .ref am11, .ref am12, .int M_ran, .int M_actKind, .int M_actN, .int M_actA, .int M_isParted])), (am0, .inl (cy 0, 48, .inl z.2.1)), (am2, .inl (cy 0, 48, .inl z.2.2)), (am6, .inl (cy 0, 4, .inl u_sortOf)), (am7, .inl (cy 0, 4, .inl u_sizeOf)), (am8, .inl (cy 0, 160, .inl u_numbers))] A) ([.ref am, .int x1, .int x2, .int x3] : List Value).toArray s 0 0 A) (F0 m 69 ls []) := by
    have key : ∀ (n0 : Nat) (v69 : (Nat → Int32) × (Nat → Int32) × Int32 × Int32 × Int32 × Int32 × Int32), lpF (fX7_fits_F69 n (M_isHeld, M_taped, M_token, M_from, M_to, M_value, M_isWrong, M_rowN, M_ran, M_actKind, M_actN, M_actA, M_isParted) u_sortOf u_sizeOf u_numbers x1 x2 x3 ) n0 v69 = some z → ∀ (H : Heap) (locs : List Loc), va_P D vwCl [(am, .inr (7, [.ref am0, .ref am1, .ref am2, .ref am3, .int M_isHeld, .ref am4, .int M_taped, .int M_token, .int M_from, .int M_to, .int M_value, .int M_isWrong, .ref am5, .int M_rowN, .ref am6, .ref am7, .ref am8, .ref am9, .ref am10, .ref am11, .ref am12, .int M_ran, .int M_actKind, .int M_actN, .int M_actA, .int M_isParted])), (am0, .inl (cy 0, 48, .inl v69.1)), (am2, .inl (cy 0, 48, .inl v69.2.1)), (am6, .inl (cy 0, 4, .inl u_sortOf)), (am7, .inl (cy 0, 4, .inl u_sizeOf)), (am8, .inl (cy 0, 160, .inl u_numbers))] H → va_D A [(am, .inr (7, [.ref am0, .ref am1, .ref am2, .ref am3, .int M_isHeld, .ref am4, .int M_taped, .int M_token, .int M_from, .int M_to, .int M_value, .int M_isWrong, .ref am5, .int M_rowN, .ref am6, .ref am7, .ref am8, .ref am9, .ref am10, .ref am11, .ref am12, .int M_ran, .int M_actKind, .int M_actN, .int M_actA, .int M_isParted])), (am0, .inl (cy 0, 48, .inl v69.1)), (am2, .inl (cy 0, 48, .inl v69.2.1)), (am6, .inl (cy 0, 4, .inl u_sortOf)), (am7, .inl (cy 0, 4, .inl u_sizeOf)), (am8, .inl (cy 0, 160, .inl u_numbers))] → va_S A s.heap H locs → ∀ (ls : Array Slot), lv_has ls 10 [(0, .ref am), (1, .int x1), (2, .int x2), (3, .int x3), (4, .int v69.2.2.1), (5, .int v69.2.2.2.1), (6, .int v69.2.2.2.2.1), (7, .int v69.2.2.2.2.2.1), (8, .int v69.2.2.2.2.2.2)] → W p l e (headSpec wsX7_fits ({ frames := 5, cells := 0, slots := 0, locals := 111 })).room s m ([.ref am, .int x1, .int x2, .int x3] : List Value).toArray below meth c H locs 0 0 (MQ below (Qw (some (.int z.1)) D [(am, .inr (7, [.ref am0, .ref am1, .ref am2, .ref am3, .int M_isHeld, .ref am4, .int M_taped, .int M_token, .int M_from, .int M_to, .int M_value, .int M_isWrong, .ref am5, .int M_rowN, .ref am6, .ref am7, .ref am8, .ref am9, .ref am10, .ref am11, .ref am12, .int M_ran, .int M_actKind, .int M_actN, .int M_actA, .int M_isParted])), (am0, .inl (cy 0, 48, .inl z.2.1)), (am2, .inl (cy 0, 48, .inl z.2.2)), (am6, .inl (cy 0, 4, .inl u_sortOf)), (am7, .inl (cy 0, 4, .inl u_sizeOf)), (am8, .inl (cy 0, 160, .inl u_numbers))] A) ([.ref am, .int x1, .int x2, .int x3] : List Value).toArray s 0 0 A) (F0 m 69 ls []) := by
      refine lpW ?_
      intro k69 hk690
      have hk69 : ∀ (u_s : (Nat → Int32)) (u_aside : (Nat → Int32)) (y4 : Int32) (y5 : Int32) (y6 : Int32) (y7 : Int32) (y8 : Int32), k69 (u_s, u_aside, y4, y5, y6, y7, y8) = some z → ∀ (H : Heap) (locs : List Loc), va_P D vwCl [(am, .inr (7, [.ref am0, .ref am1, .ref am2, .ref am3, .int M_isHeld, .ref am4, .int M_taped, .int M_token, .int M_from, .int M_to, .int M_value, .int M_isWrong, .ref am5, .int M_rowN, .ref am6, .ref am7, .ref am8, .ref am9, .ref am10, .ref am11, .ref am12, .int M_ran, .int M_actKind, .int M_actN, .int M_actA, .int M_isParted])), (am0, .inl (cy 0, 48, .inl u_s)), (am2, .inl (cy 0, 48, .inl u_aside)), (am6, .inl (cy 0, 4, .inl u_sortOf)), (am7, .inl (cy 0, 4, .inl u_sizeOf)), (am8, .inl (cy 0, 160, .inl u_numbers))] H → va_D A [(am, .inr (7, [.ref am0, .ref am1, .ref am2, .ref am3, .int M_isHeld, .ref am4, .int M_taped, .int M_token, .int M_from, .int M_to, .int M_value, .int M_isWrong, .ref am5, .int M_rowN, .ref am6, .ref am7, .ref am8, .ref am9, .ref am10, .ref am11, .ref am12, .int M_ran, .int M_actKind, .int M_actN, .int M_actA, .int M_isParted])), (am0, .inl (cy 0, 48, .inl u_s)), (am2, .inl (cy 0, 48, .inl u_aside)), (am6, .inl (cy 0, 4, .inl u_sortOf)), (am7, .inl (cy 0, 4, .inl u_sizeOf)), (am8, .inl (cy 0, 160, .inl u_numbers))] → va_S A s.heap H locs → ∀ (ls : Array Slot), lv_has ls 10 [(0, .ref am), (1, .int x1), (2, .int x2), (3, .int x3), (4, .int y4), (5, .int y5), (6, .int y6), (7, .int y7), (8, .int y8)] → W p l e (headSpec wsX7_fits ({ frames := 5, cells := 0, slots := 0, locals := 111 })).room s m ([.ref am, .int x1, .int x2, .int x3] : List Value).toArray below meth c H locs 0 0 (MQ below (Qw (some (.int z.1)) D [(am, .inr (7, [.ref am0, .ref am1, .ref am2, .ref am3, .int M_isHeld, .ref am4, .int M_taped, .int M_token, .int M_from, .int M_to, .int M_value, .int M_isWrong, .ref am5, .int M_rowN, .ref am6, .ref am7, .ref am8, .ref am9, .ref am10, .ref am11, .ref am12, .int M_ran, .int M_actKind, .int M_actN, .int M_actA, .int M_isParted])), (am0, .inl (cy 0, 48, .inl z.2.1)), (am2, .inl (cy 0, 48, .inl z.2.2)), (am6, .inl (cy 0, 4, .inl u_sortOf)), (am7, .inl (cy 0, 4, .inl u_sizeOf)), (am8, .inl (cy 0, 160, .inl u_numbers))] A) ([.ref am, .int x1, .int x2, .int x3] : List Value).toArray s 0 0 A) (F0 m 69 ls []) := fun u_s u_aside y4 y5 y6 y7 y8 h9 => hk690 (u_s, u_aside, y4, y5, y6, y7, y8) h9
      have hB117 : ∀ (u_s : (Nat → Int32)) (u_aside : (Nat → Int32)) (y4 : Int32) (y5 : Int32) (y6 : Int32) (y8 : Int32) (w0 : Int32), fX7_fits_b117 n (M_isHeld, M_taped, M_token, M_from, M_to, M_value, M_isWrong, M_rowN, M_ran, M_actKind, M_actN, M_actA, M_isParted) u_sortOf u_sizeOf u_numbers x1 x2 x3 k69 u_s u_aside y4 y5 y6 y8 w0 = some z → ∀ (H : Heap) (locs : List Loc), va_P D vwCl [(am, .inr (7, [.ref am0, .ref am1, .ref am2, .ref am3, .int M_isHeld, .ref am4, .int M_taped, .int M_token, .int M_from, .int M_to, .int M_value, .int M_isWrong, .ref am5, .int M_rowN, .ref am6, .ref am7, .ref am8, .ref am9, .ref am10, .ref am11, .ref am12, .int M_ran, .int M_actKind, .int M_actN, .int M_actA, .int M_isParted])), (am0, .inl (cy 0, 48, .inl u_s)), (am2, .inl (cy 0, 48, .inl u_aside)), (am6, .inl (cy 0, 4, .inl u_sortOf)), (am7, .inl (cy 0, 4, .inl u_sizeOf)), (am8, .inl (cy 0, 160, .inl u_numbers))] H → va_D A [(am, .inr (7, [.ref am0, .ref am1, .ref am2, .ref am3, .int M_isHeld, .ref am4, .int M_taped, .int M_token, .int M_from, .int M_to, .int M_value, .int M_isWrong, .ref am5, .int M_rowN, .ref am6, .ref am7, .ref am8, .ref am9, .ref am10, .ref am11, .ref am12, .int M_ran, .int M_actKind, .int M_actN, .int M_actA, .int M_isParted])), (am0, .inl (cy 0, 48, .inl u_s)), (am2, .inl (cy 0, 48, .inl u_aside)), (am6, .inl (cy 0, 4, .inl u_sortOf)), (am7, .inl (cy 0, 4, .inl u_sizeOf)), (am8, .inl (cy 0, 160, .inl u_numbers))] → va_S A s.heap H locs → ∀ (ls : Array Slot), lv_has ls 10 [(0, .ref am), (1, .int x1), (2, .int x2), (3, .int x3), (4, .int y4), (5, .int y5), (6, .int y6), (8, .int y8)] → W p l e (headSpec wsX7_fits ({ frames := 5, cells := 0, slots := 0, locals := 111 })).room s m ([.ref am, .int x1, .int x2, .int x3] : List Value).toArray below meth c H locs 0 0 (MQ below (Qw (some (.int z.1)) D [(am, .inr (7, [.ref am0, .ref am1, .ref am2, .ref am3, .int M_isHeld, .ref am4, .int M_taped, .int M_token, .int M_from, .int M_to, .int M_value, .int M_isWrong, .ref am5, .int M_rowN, .ref am6, .ref am7, .ref am8, .ref am9, .ref am10, .ref am11, .ref am12, .int M_ran, .int M_actKind, .int M_actN, .int M_actA, .int M_isParted])), (am0, .inl (cy 0, 48, .inl z.2.1)), (am2, .inl (cy 0, 48, .inl z.2.2)), (am6, .inl (cy 0, 4, .inl u_sortOf)), (am7, .inl (cy 0, 4, .inl u_sizeOf)), (am8, .inl (cy 0, 160, .inl u_numbers))] A) ([.ref am, .int x1, .int x2, .int x3] : List Value).toArray s 0 0 A) (F0 m 117 ls [.int w0]) := by
        intro u_s u_aside y4 y5 y6 y8 w0 hf H locs hP hD hS ls hl
        have hf : (k69 (u_s, u_aside, y4, y5, y6, w0, (y8 + (-1 : Int32)))) = some z := hf
        refine lv_istore (lv' := [(7, .int w0), (0, .ref am), (1, .int x1), (2, .int x2), (3, .int x3), (4, .int y4), (5, .int y5), (6, .int y6), (8, .int y8)]) hx hb dX7_fits_117 hl (by decide) rfl (fun ls hl => ?_)
        refine lv_iinc (v := (y8 + (-1 : Int32))) (lv' := [(8, .int (y8 + (-1 : Int32))), (7, .int w0), (0, .ref am), (1, .int x1), (2, .int x2), (3, .int x3), (4, .int y4), (5, .int y5), (6, .int y6)]) hx hb dX7_fits_119 hl (k := 8) rfl rfl (by decide) rfl (fun ls hl => ?_)
        refine lv_goto (tgt := 69) hx hb dX7_fits_122 (by decide) ?_
        exact hk69 u_s u_aside y4 y5 y6 w0 (y8 + (-1 : Int32)) hf _ _ hP hD hS _ (lv_sub hl [2, 3, 4, 5, 6, 7, 8, 1, 0] rfl)
      have hB102 : ∀ (u_s : (Nat → Int32)) (u_aside : (Nat → Int32)) (y4 : Int32) (y5 : Int32) (y7 : Int32) (y8 : Int32) (y9 : Int32) (w0 : Int32) (w1 : Int32), fX7_fits_b102 n (M_isHeld, M_taped, M_token, M_from, M_to, M_value, M_isWrong, M_rowN, M_ran, M_actKind, M_actN, M_actA, M_isParted) u_sortOf u_sizeOf u_numbers x1 x2 x3 k69 u_s u_aside y4 y5 y7 y8 y9 w0 w1 = some z → ∀ (H : Heap) (locs : List Loc), va_P D vwCl [(am, .inr (7, [.ref am0, .ref am1, .ref am2, .ref am3, .int M_isHeld, .ref am4, .int M_taped, .int M_token, .int M_from, .int M_to, .int M_value, .int M_isWrong, .ref am5, .int M_rowN, .ref am6, .ref am7, .ref am8, .ref am9, .ref am10, .ref am11, .ref am12, .int M_ran, .int M_actKind, .int M_actN, .int M_actA, .int M_isParted])), (am0, .inl (cy 0, 48, .inl u_s)), (am2, .inl (cy 0, 48, .inl u_aside)), (am6, .inl (cy 0, 4, .inl u_sortOf)), (am7, .inl (cy 0, 4, .inl u_sizeOf)), (am8, .inl (cy 0, 160, .inl u_numbers))] H → va_D A [(am, .inr (7, [.ref am0, .ref am1, .ref am2, .ref am3, .int M_isHeld, .ref am4, .int M_taped, .int M_token, .int M_from, .int M_to, .int M_value, .int M_isWrong, .ref am5, .int M_rowN, .ref am6, .ref am7, .ref am8, .ref am9, .ref am10, .ref am11, .ref am12, .int M_ran, .int M_actKind, .int M_actN, .int M_actA, .int M_isParted])), (am0, .inl (cy 0, 48, .inl u_s)), (am2, .inl (cy 0, 48, .inl u_aside)), (am6, .inl (cy 0, 4, .inl u_sortOf)), (am7, .inl (cy 0, 4, .inl u_sizeOf)), (am8, .inl (cy 0, 160, .inl u_numbers))] → va_S A s.heap H locs → ∀ (ls : Array Slot), lv_has ls 10 [(0, .ref am), (1, .int x1), (2, .int x2), (3, .int x3), (4, .int y4), (5, .int y5), (7, .int y7), (8, .int y8), (9, .int y9)] → W p l e (headSpec wsX7_fits ({ frames := 5, cells := 0, slots := 0, locals := 111 })).room s m ([.ref am, .int x1, .int x2, .int x3] : List Value).toArray below meth c H locs 0 0 (MQ below (Qw (some (.int z.1)) D [(am, .inr (7, [.ref am0, .ref am1, .ref am2, .ref am3, .int M_isHeld, .ref am4, .int M_taped, .int M_token, .int M_from, .int M_to, .int M_value, .int M_isWrong, .ref am5, .int M_rowN, .ref am6, .ref am7, .ref am8, .ref am9, .ref am10, .ref am11, .ref am12, .int M_ran, .int M_actKind, .int M_actN, .int M_actA, .int M_isParted])), (am0, .inl (cy 0, 48, .inl z.2.1)), (am2, .inl (cy 0, 48, .inl z.2.2)), (am6, .inl (cy 0, 4, .inl u_sortOf)), (am7, .inl (cy 0, 4, .inl u_sizeOf)), (am8, .inl (cy 0, 160, .inl u_numbers))] A) ([.ref am, .int x1, .int x2, .int x3] : List Value).toArray s 0 0 A) (F0 m 102 ls [.int w1, .int w0]) := by
        intro u_s u_aside y4 y5 y7 y8 y9 w0 w1 hf H locs hP hD hS ls hl
        have hf : (if y9 = 0 then (fX7_fits_b117 n (M_isHeld, M_taped, M_token, M_from, M_to, M_value, M_isWrong, M_rowN, M_ran, M_actKind, M_actN, M_actA, M_isParted) u_sortOf u_sizeOf u_numbers x1 x2 x3 k69 u_s u_aside y4 y5 (w0 + w1) y8 y7) else (fX7_fits_b117 n (M_isHeld, M_taped, M_token, M_from, M_to, M_value, M_isWrong, M_rowN, M_ran, M_actKind, M_actN, M_actA, M_isParted) u_sortOf u_sizeOf u_numbers x1 x2 x3 k69 u_s u_aside y4 y5 (w0 + w1) y8 y8)) = some z := hf
        refine lv_iadd hx hb dX7_fits_102 ?_
        refine lv_istore (lv' := [(6, .int (w0 + w1)), (0, .ref am), (1, .int x1), (2, .int x2), (3, .int x3), (4, .int y4), (5, .int y5), (7, .int y7), (8, .int y8), (9, .int y9)]) hx hb dX7_fits_103 hl (by decide) rfl (fun ls hl => ?_)
        refine lv_iload hx hb dX7_fits_105 (lv_at hl 9 rfl) ?_
        refine lv_if_eq (tgt := 115) hx hb dX7_fits_107 (by decide) (fun c_107 => ?_) (fun c_107 => ?_)
        · have hf := zp hf c_107
          refine lv_iload hx hb dX7_fits_115 (lv_at hl 7 rfl) ?_
          exact hB117 u_s u_aside y4 y5 (w0 + w1) y8 y7 hf _ _ hP hD hS _ (lv_sub hl [1, 2, 3, 4, 5, 6, 0, 8] rfl)
        · have hf := zn hf c_107
          refine lv_iload hx hb dX7_fits_110 (lv_at hl 8 rfl) ?_
          refine lv_goto (tgt := 117) hx hb dX7_fits_112 (by decide) ?_
          exact hB117 u_s u_aside y4 y5 (w0 + w1) y8 y8 hf _ _ hP hD hS _ (lv_sub hl [1, 2, 3, 4, 5, 6, 0, 8] rfl)
      have hstep : ∀ (u_s : (Nat → Int32)) (u_aside : (Nat → Int32)) (y4 : Int32) (y5 : Int32) (y6 : Int32) (y7 : Int32) (y8 : Int32), fX7_fits_F69 n (M_isHeld, M_taped, M_token, M_from, M_to, M_value, M_isWrong, M_rowN, M_ran, M_actKind, M_actN, M_actA, M_isParted) u_sortOf u_sizeOf u_numbers x1 x2 x3  k69 (u_s, u_aside, y4, y5, y6, y7, y8) = some z → ∀ (H : Heap) (locs : List Loc), va_P D vwCl [(am, .inr (7, [.ref am0, .ref am1, .ref am2, .ref am3, .int M_isHeld, .ref am4, .int M_taped, .int M_token, .int M_from, .int M_to, .int M_value, .int M_isWrong, .ref am5, .int M_rowN, .ref am6, .ref am7, .ref am8, .ref am9, .ref am10, .ref am11, .ref am12, .int M_ran, .int M_actKind, .int M_actN, .int M_actA, .int M_isParted])), (am0, .inl (cy 0, 48, .inl u_s)), (am2, .inl (cy 0, 48, .inl u_aside)), (am6, .inl (cy 0, 4, .inl u_sortOf)), (am7, .inl (cy 0, 4, .inl u_sizeOf)), (am8, .inl (cy 0, 160, .inl u_numbers))] H → va_D A [(am, .inr (7, [.ref am0, .ref am1, .ref am2, .ref am3, .int M_isHeld, .ref am4, .int M_taped, .int M_token, .int M_from, .int M_to, .int M_value, .int M_isWrong, .ref am5, .int M_rowN, .ref am6, .ref am7, .ref am8, .ref am9, .ref am10, .ref am11, .ref am12, .int M_ran, .int M_actKind, .int M_actN, .int M_actA, .int M_isParted])), (am0, .inl (cy 0, 48, .inl u_s)), (am2, .inl (cy 0, 48, .inl u_aside)), (am6, .inl (cy 0, 4, .inl u_sortOf)), (am7, .inl (cy 0, 4, .inl u_sizeOf)), (am8, .inl (cy 0, 160, .inl u_numbers))] → va_S A s.heap H locs → ∀ (ls : Array Slot), lv_has ls 10 [(0, .ref am), (1, .int x1), (2, .int x2), (3, .int x3), (4, .int y4), (5, .int y5), (6, .int y6), (7, .int y7), (8, .int y8)] → W p l e (headSpec wsX7_fits ({ frames := 5, cells := 0, slots := 0, locals := 111 })).room s m ([.ref am, .int x1, .int x2, .int x3] : List Value).toArray below meth c H locs 0 0 (MQ below (Qw (some (.int z.1)) D [(am, .inr (7, [.ref am0, .ref am1, .ref am2, .ref am3, .int M_isHeld, .ref am4, .int M_taped, .int M_token, .int M_from, .int M_to, .int M_value, .int M_isWrong, .ref am5, .int M_rowN, .ref am6, .ref am7, .ref am8, .ref am9, .ref am10, .ref am11, .ref am12, .int M_ran, .int M_actKind, .int M_actN, .int M_actA, .int M_isParted])), (am0, .inl (cy 0, 48, .inl z.2.1)), (am2, .inl (cy 0, 48, .inl z.2.2)), (am6, .inl (cy 0, 4, .inl u_sortOf)), (am7, .inl (cy 0, 4, .inl u_sizeOf)), (am8, .inl (cy 0, 160, .inl u_numbers))] A) ([.ref am, .int x1, .int x2, .int x3] : List Value).toArray s 0 0 A) (F0 m 69 ls []) := by
        intro u_s u_aside y4 y5 y6 y7 y8 hf H locs hP hD hS ls hl
        have hf : (if y8 < 0 then (if y4 < 0 ∨ 48 ≤ y4.toNatClampNeg then none else if x3 = 0 then (some (y6, (upd u_s y4.toNatClampNeg y5), u_aside)) else (some (y7, (upd u_s y4.toNatClampNeg y5), u_aside))) else (if y4 < 0 ∨ 48 ≤ y4.toNatClampNeg then none else (fX7_isTold n (M_isHeld, M_taped, M_token, M_from, M_to, M_value, M_isWrong, M_rowN, M_ran, M_actKind, M_actN, M_actA, M_isParted) (upd u_s y4.toNatClampNeg y8) u_aside u_sizeOf u_numbers x1).bind fun r85 => if r85.1 = 0 then (fX7_fits_b102 n (M_isHeld, M_taped, M_token, M_from, M_to, M_value, M_isWrong, M_rowN, M_ran, M_actKind, M_actN, M_actA, M_isParted) u_sortOf u_sizeOf u_numbers x1 x2 x3 k69 r85.2.1 r85.2.2 y4 y5 y7 y8 r85.1 y6 (0 : Int32)) else (fX7_fits_b102 n (M_isHeld, M_taped, M_token, M_from, M_to, M_value, M_isWrong, M_rowN, M_ran, M_actKind, M_actN, M_actA, M_isParted) u_sortOf u_sizeOf u_numbers x1 x2 x3 k69 r85.2.1 r85.2.2 y4 y5 y7 y8 r85.1 y6 (1 : Int32)))) = some z := hf
        refine lv_iload hx hb dX7_fits_69 (lv_at hl 8 rfl) ?_
        refine lv_if_lt (tgt := 125) hx hb dX7_fits_71 (by decide) (fun c_71 => ?_) (fun c_71 => ?_)
        · have hf := zp hf c_71
          refine lv_aload_n hx hb dX7_fits_125 rfl (lv_at hl 0 rfl) ?_
          refine va_get (D := D) (ci := 7) (v := .ref am0) (C := RX7) (T := TX7) (N := 26) hx hb hts hin7 hown hK hP 0 rfl rfl 0 (by decide) fl7 (fun _ h9 => h9) rfl dX7_fits_126 ?_
          refine lv_iload hx hb dX7_fits_129 (lv_at hl 4 rfl) ?_
          refine lv_iload hx hb dX7_fits_131 (lv_at hl 5 rfl) ?_
          obtain ⟨h_133, hf⟩ := zg hf
          refine va_iast hx hb hK hP hD hS 1 0 rfl rfl h_133 dX7_fits_133 (fun H locs hP hD hS => ?_)
          have hP : va_P D vwCl [(am, .inr (7, [.ref am0, .ref am1, .ref am2, .ref am3, .int M_isHeld, .ref am4, .int M_taped, .int M_token, .int M_from, .int M_to, .int M_value, .int M_isWrong, .ref am5, .int M_rowN, .ref am6, .ref am7, .ref am8, .ref am9, .ref am10, .ref am11, .ref am12, .int M_ran, .int M_actKind, .int M_actN, .int M_actA, .int M_isParted])), (am0, .inl (cy 0, 48, .inl (upd u_s y4.toNatClampNeg y5))), (am2, .inl (cy 0, 48, .inl u_aside)), (am6, .inl (cy 0, 4, .inl u_sortOf)), (am7, .inl (cy 0, 4, .inl u_sizeOf)), (am8, .inl (cy 0, 160, .inl u_numbers))] H := hP
          have hD : va_D A [(am, .inr (7, [.ref am0, .ref am1, .ref am2, .ref am3, .int M_isHeld, .ref am4, .int M_taped, .int M_token, .int M_from, .int M_to, .int M_value, .int M_isWrong, .ref am5, .int M_rowN, .ref am6, .ref am7, .ref am8, .ref am9, .ref am10, .ref am11, .ref am12, .int M_ran, .int M_actKind, .int M_actN, .int M_actA, .int M_isParted])), (am0, .inl (cy 0, 48, .inl (upd u_s y4.toNatClampNeg y5))), (am2, .inl (cy 0, 48, .inl u_aside)), (am6, .inl (cy 0, 4, .inl u_sortOf)), (am7, .inl (cy 0, 4, .inl u_sizeOf)), (am8, .inl (cy 0, 160, .inl u_numbers))] := hD
          refine lv_iload_n hx hb dX7_fits_134 rfl (lv_at hl 3 rfl) ?_
          refine lv_if_ne (tgt := 143) hx hb dX7_fits_135 (by decide) (fun c_135 => ?_) (fun c_135 => ?_)
          · have hf := zn hf c_135
            refine lv_iload hx hb dX7_fits_143 (lv_at hl 7 rfl) ?_
            exact W.iret hx hb hr (fun t ht hW => hfin y7 (upd u_s y4.toNatClampNeg y5) u_aside hf _ t ht hP (hS.F ht)) hS.2.2 dX7_fits_145
          · have hf := zp hf c_135
            refine lv_iload hx hb dX7_fits_138 (lv_at hl 6 rfl) ?_
            refine lv_goto (tgt := 145) hx hb dX7_fits_140 (by decide) ?_
            exact W.iret hx hb hr (fun t ht hW => hfin y6 (upd u_s y4.toNatClampNeg y5) u_aside hf _ t ht hP (hS.F ht)) hS.2.2 dX7_fits_145
        · have hf := zn hf c_71
          refine lv_aload_n hx hb dX7_fits_74 rfl (lv_at hl 0 rfl) ?_
          refine va_get (D := D) (ci := 7) (v := .ref am0) (C := RX7) (T := TX7) (N := 26) hx hb hts hin7 hown hK hP 0 rfl rfl 0 (by decide) fl7 (fun _ h9 => h9) rfl dX7_fits_75 ?_
          refine lv_iload hx hb dX7_fits_78 (lv_at hl 4 rfl) ?_
          refine lv_iload hx hb dX7_fits_80 (lv_at hl 8 rfl) ?_
          obtain ⟨h_82, hf⟩ := zg hf
          refine va_iast hx hb hK hP hD hS 1 0 rfl rfl h_82 dX7_fits_82 (fun H locs hP hD hS => ?_)
          have hP : va_P D vwCl [(am, .inr (7, [.ref am0, .ref am1, .ref am2, .ref am3, .int M_isHeld, .ref am4, .int M_taped, .int M_token, .int M_from, .int M_to, .int M_value, .int M_isWrong, .ref am5, .int M_rowN, .ref am6, .ref am7, .ref am8, .ref am9, .ref am10, .ref am11, .ref am12, .int M_ran, .int M_actKind, .int M_actN, .int M_actA, .int M_isParted])), (am0, .inl (cy 0, 48, .inl (upd u_s y4.toNatClampNeg y8))), (am2, .inl (cy 0, 48, .inl u_aside)), (am6, .inl (cy 0, 4, .inl u_sortOf)), (am7, .inl (cy 0, 4, .inl u_sizeOf)), (am8, .inl (cy 0, 160, .inl u_numbers))] H := hP
          have hD : va_D A [(am, .inr (7, [.ref am0, .ref am1, .ref am2, .ref am3, .int M_isHeld, .ref am4, .int M_taped, .int M_token, .int M_from, .int M_to, .int M_value, .int M_isWrong, .ref am5, .int M_rowN, .ref am6, .ref am7, .ref am8, .ref am9, .ref am10, .ref am11, .ref am12, .int M_ran, .int M_actKind, .int M_actN, .int M_actA, .int M_isParted])), (am0, .inl (cy 0, 48, .inl (upd u_s y4.toNatClampNeg y8))), (am2, .inl (cy 0, 48, .inl u_aside)), (am6, .inl (cy 0, 4, .inl u_sortOf)), (am7, .inl (cy 0, 4, .inl u_sizeOf)), (am8, .inl (cy 0, 160, .inl u_numbers))] := hD
          refine lv_aload_n hx hb dX7_fits_83 rfl (lv_at hl 0 rfl) ?_
          refine lv_iload_n hx hb dX7_fits_84 rfl (lv_at hl 1 rfl) ?_
          obtain ⟨r85, hc85, hf⟩ := zb hf
          refine zvw (o := some (.int r85.1)) (As := [.int x1]) (rest := []) (stk := [.int r85.1]) ⟨hx, hb, hml, hown, hts⟩ (mX7_isTold l D cy st sk sv B am am0 am1 am2 am3 am4 am5 am6 am7 am8 am9 am10 am11 am12 _ n M_isHeld M_taped M_token M_from M_to M_value M_isWrong M_rowN M_ran M_actKind M_actN M_actA M_isParted (upd u_s y4.toNatClampNeg y8) u_aside u_sizeOf u_numbers x1 r85 hc85) (cwV 1 hts gX7_fits_X7_isTold rfl rfl rfl (by decide +kernel) ⟨Nat.le_of_ble_eq_true rfl, Nat.le_of_ble_eq_true rfl⟩) hG hS hAB hA hP hD [0, 1, 2, 4, 5] (by decide) rfl rfl rfl rfl 0 7 rfl rfl rfl rfl hl.1 rfl (Nat.le_of_ble_eq_true rfl) dX7_fits_85 rfl (fun H locs hP hD hS => ?_)
          have hP : va_P D vwCl [(am, .inr (7, [.ref am0, .ref am1, .ref am2, .ref am3, .int M_isHeld, .ref am4, .int M_taped, .int M_token, .int M_from, .int M_to, .int M_value, .int M_isWrong, .ref am5, .int M_rowN, .ref am6, .ref am7, .ref am8, .ref am9, .ref am10, .ref am11, .ref am12, .int M_ran, .int M_actKind, .int M_actN, .int M_actA, .int M_isParted])), (am0, .inl (cy 0, 48, .inl r85.2.1)), (am2, .inl (cy 0, 48, .inl r85.2.2)), (am6, .inl (cy 0, 4, .inl u_sortOf)), (am7, .inl (cy 0, 4, .inl u_sizeOf)), (am8, .inl (cy 0, 160, .inl u_numbers))] H := hP
          have hD : va_D A [(am, .inr (7, [.ref am0, .ref am1, .ref am2, .ref am3, .int M_isHeld, .ref am4, .int M_taped, .int M_token, .int M_from, .int M_to, .int M_value, .int M_isWrong, .ref am5, .int M_rowN, .ref am6, .ref am7, .ref am8, .ref am9, .ref am10, .ref am11, .ref am12, .int M_ran, .int M_actKind, .int M_actN, .int M_actA, .int M_isParted])), (am0, .inl (cy 0, 48, .inl r85.2.1)), (am2, .inl (cy 0, 48, .inl r85.2.2)), (am6, .inl (cy 0, 4, .inl u_sortOf)), (am7, .inl (cy 0, 4, .inl u_sizeOf)), (am8, .inl (cy 0, 160, .inl u_numbers))] := hD
          refine lv_istore (lv' := [(9, .int r85.1), (0, .ref am), (1, .int x1), (2, .int x2), (3, .int x3), (4, .int y4), (5, .int y5), (6, .int y6), (7, .int y7), (8, .int y8)]) hx hb dX7_fits_88 hl (by decide) rfl (fun ls hl => ?_)
          refine lv_iload hx hb dX7_fits_90 (lv_at hl 7 rfl) ?_
          refine lv_iload hx hb dX7_fits_92 (lv_at hl 0 rfl) ?_
          refine lv_if_eq (tgt := 101) hx hb dX7_fits_94 (by decide) (fun c_94 => ?_) (fun c_94 => ?_)
          · have hf := zp hf c_94
            refine lv_iconst (v := (0 : Int32)) hx hb dX7_fits_101 (by decide) ?_
            exact hB102 r85.2.1 r85.2.2 y4 y5 y7 y8 r85.1 y6 (0 : Int32) hf _ _ hP hD hS _ (lv_sub hl [1, 2, 3, 4, 5, 6, 8, 9, 0] rfl)
          · have hf := zn hf c_94
            refine lv_iconst (v := (1 : Int32)) hx hb dX7_fits_97 (by decide) ?_
            refine lv_goto (tgt := 102) hx hb dX7_fits_98 (by decide) ?_
            exact hB102 r85.2.1 r85.2.2 y4 y5 y7 y8 r85.1 y6 (1 : Int32) hf _ _ hP hD hS _ (lv_sub hl [1, 2, 3, 4, 5, 6, 8, 9, 0] rfl)
      exact fun v69 h9 => hstep v69.1 v69.2.1 v69.2.2.1 v69.2.2.2.1 v69.2.2.2.2.1 v69.2.2.2.2.2.1 v69.2.2.2.2.2.2 h9
    exact fun n0 u_s u_aside y4 y5 y6 y7 y8 h9 => key n0 (u_s, u_aside, y4, y5, y6, y7, y8) h9
  have hl := lv_entry ([.ref am, .int x1, .int x2, .int x3]) (n := 10) (Nat.le_of_ble_eq_true rfl)
  rw [lg_entry_eq]
  generalize (lg_sl ([.ref am, .int x1, .int x2, .int x3]) ++ List.replicate (10 - (lg_sl ([.ref am, .int x1, .int x2, .int x3])).length) Slot.unset).toArray = ls at hl ⊢
  have hl : lv_has ls 10 [(0, .ref am), (1, .int x1), (2, .int x2), (3, .int x3)] := hl
  have hf : ((fX7_isSheet n x1).bind fun r1 => if r1 = 0 then (some ((-1 : Int32), u_s, u_aside)) else ((fX7_isOne n (M_isHeld, M_taped, M_token, M_from, M_to, M_value, M_isWrong, M_rowN, M_ran, M_actKind, M_actN, M_actA, M_isParted) u_s x2).bind fun r9 => if r9 = 0 then (some ((-1 : Int32), u_s, u_aside)) else ((fX7_isIn n x3.toInt64 (0 : Int64) (1 : Int64)).bind fun r19 => if r19 = 0 then (some ((-1 : Int32), u_s, u_aside)) else (if x1 < 0 ∨ 4 ≤ x1.toNatClampNeg then none else if 0 ≤ (u_sortOf x1.toNatClampNeg) then (if (((8 : Int32) + ((5 : Int32) * x2)) + (1 : Int32)) < 0 ∨ 48 ≤ (((8 : Int32) + ((5 : Int32) * x2)) + (1 : Int32)).toNatClampNeg then none else lpF (fX7_fits_F69 n (M_isHeld, M_taped, M_token, M_from, M_to, M_value, M_isWrong, M_rowN, M_ran, M_actKind, M_actN, M_actA, M_isParted) u_sortOf u_sizeOf u_numbers x1 x2 x3 ) n (u_s, u_aside, (((8 : Int32) + ((5 : Int32) * x2)) + (1 : Int32)), (u_s (((8 : Int32) + ((5 : Int32) * x2)) + (1 : Int32)).toNatClampNeg), (0 : Int32), (-3 : Int32), (7 : Int32))) else (some ((-11 : Int32), u_s, u_aside)))))) = some z := hf
  refine lv_iload_n hx hb dX7_fits_0 rfl (lv_at hl 1 rfl) ?_
  obtain ⟨r1, hc1, hf⟩ := zb hf
  refine zsr (o := some (.int r1)) (As := [.int x1]) (rest := []) (stk := [.int r1]) ⟨hx, hb, hml, hown, hts⟩ (mX7_isSheet l D cy st sk sv B  n x1 r1 hc1) (va_cwS 1 hts gX7_fits_X7_isSheet rfl rfl rfl (by decide +kernel) ⟨Nat.le_of_ble_eq_true rfl, Nat.le_of_ble_eq_true rfl⟩) hG hS hAB hP [] rfl rfl hl.1 rfl (Nat.le_of_ble_eq_true rfl) dX7_fits_1 rfl ?_
  refine lv_if_eq (tgt := 25) hx hb dX7_fits_4 (by decide) (fun c_4 => ?_) (fun c_4 => ?_)
  · have hf := zp hf c_4
    refine lv_iconst (v := (-1 : Int32)) hx hb dX7_fits_25 (by decide) ?_
    exact W.iret hx hb hr (fun t ht hW => hfin (-1 : Int32) u_s u_aside hf _ t ht hP (hS.F ht)) hS.2.2 dX7_fits_26
  · have hf := zn hf c_4
    refine lv_aload_n hx hb dX7_fits_7 rfl (lv_at hl 0 rfl) ?_
    refine lv_iload_n hx hb dX7_fits_8 rfl (lv_at hl 2 rfl) ?_
    obtain ⟨r9, hc9, hf⟩ := zb hf
    refine zvr (o := some (.int r9)) (As := [.int x2]) (rest := []) (stk := [.int r9]) ⟨hx, hb, hml, hown, hts⟩ (mX7_isOne l D cy st sk sv B am am0 am1 am2 am3 am4 am5 am6 am7 am8 am9 am10 am11 am12 n M_isHeld M_taped M_token M_from M_to M_value M_isWrong M_rowN M_ran M_actKind M_actN M_actA M_isParted u_s x2 r9 hc9) (cwV 1 hts gX7_fits_X7_isOne rfl rfl rfl (by decide +kernel) ⟨Nat.le_of_ble_eq_true rfl, Nat.le_of_ble_eq_true rfl⟩) hG hS hAB hP [0, 1] rfl 0 7 rfl rfl rfl rfl hl.1 rfl (Nat.le_of_ble_eq_true rfl) dX7_fits_9 rfl ?_
    refine lv_if_eq (tgt := 25) hx hb dX7_fits_12 (by decide) (fun c_12 => ?_) (fun c_12 => ?_)
    · have hf := zp hf c_12
      refine lv_iconst (v := (-1 : Int32)) hx hb dX7_fits_25 (by decide) ?_
      exact W.iret hx hb hr (fun t ht hW => hfin (-1 : Int32) u_s u_aside hf _ t ht hP (hS.F ht)) hS.2.2 dX7_fits_26
    · have hf := zn hf c_12
      refine lv_iload_n hx hb dX7_fits_15 rfl (lv_at hl 3 rfl) ?_
      refine lv_i2l hx hb dX7_fits_16 rfl ?_
      refine lv_lconst (v := (0 : Int64)) hx hb dX7_fits_17 (by decide) ?_
      refine lv_lconst (v := (1 : Int64)) hx hb dX7_fits_18 (by decide) ?_
      obtain ⟨r19, hc19, hf⟩ := zb hf
      refine zsr (o := some (.int r19)) (As := [.long x3.toInt64, .long (0 : Int64), .long (1 : Int64)]) (rest := []) (stk := [.int r19]) ⟨hx, hb, hml, hown, hts⟩ (mX7_isIn l D cy st sk sv B  n x3.toInt64 (0 : Int64) (1 : Int64) r19 hc19) (va_cwS 3 hts gX7_fits_X7_isIn rfl rfl rfl (by decide +kernel) ⟨Nat.le_of_ble_eq_true rfl, Nat.le_of_ble_eq_true rfl⟩) hG hS hAB hP [] rfl rfl hl.1 rfl (Nat.le_of_ble_eq_true rfl) dX7_fits_19 rfl ?_
      refine lv_if_ne (tgt := 27) hx hb dX7_fits_22 (by decide) (fun c_22 => ?_) (fun c_22 => ?_)
      · have hf := zn hf c_22
        refine lv_aload_n hx hb dX7_fits_27 rfl (lv_at hl 0 rfl) ?_
        refine va_get (D := D) (ci := 7) (v := .ref am6) (C := RX7) (T := TX7) (N := 26) hx hb hts hin7 hown hK hP 0 rfl rfl 14 (by decide) fl28 (fun _ h9 => h9) rfl dX7_fits_28 ?_
        refine lv_iload_n hx hb dX7_fits_31 rfl (lv_at hl 1 rfl) ?_
        obtain ⟨h_32, hf⟩ := zg hf
        refine va_iald hx hb hK hP 3 0 rfl rfl h_32 dX7_fits_32 ?_
        refine lv_if_ge (tgt := 39) hx hb dX7_fits_33 (by decide) (fun c_33 => ?_) (fun c_33 => ?_)
        · have hf := zp hf c_33
          refine lv_bipush (v := (8 : Int32)) hx hb dX7_fits_39 (by decide) ?_
          refine lv_iconst (v := (5 : Int32)) hx hb dX7_fits_41 (by decide) ?_
          refine lv_iload_n hx hb dX7_fits_42 rfl (lv_at hl 2 rfl) ?_
          refine lv_imul hx hb dX7_fits_43 ?_
          refine lv_iadd hx hb dX7_fits_44 ?_
          refine lv_iconst (v := (1 : Int32)) hx hb dX7_fits_45 (by decide) ?_
          refine lv_iadd hx hb dX7_fits_46 ?_
          refine lv_istore (lv' := [(4, .int (((8 : Int32) + ((5 : Int32) * x2)) + (1 : Int32))), (0, .ref am), (1, .int x1), (2, .int x2), (3, .int x3)]) hx hb dX7_fits_47 hl (by decide) rfl (fun ls hl => ?_)
          refine lv_aload_n hx hb dX7_fits_49 rfl (lv_at hl 1 rfl) ?_
          refine va_get (D := D) (ci := 7) (v := .ref am0) (C := RX7) (T := TX7) (N := 26) hx hb hts hin7 hown hK hP 0 rfl rfl 0 (by decide) fl7 (fun _ h9 => h9) rfl dX7_fits_50 ?_
          refine lv_iload hx hb dX7_fits_53 (lv_at hl 0 rfl) ?_
          obtain ⟨h_55, hf⟩ := zg hf
          refine va_iald hx hb hK hP 1 0 rfl rfl h_55 dX7_fits_55 ?_
          refine lv_istore (lv' := [(5, .int (u_s (((8 : Int32) + ((5 : Int32) * x2)) + (1 : Int32)).toNatClampNeg)), (4, .int (((8 : Int32) + ((5 : Int32) * x2)) + (1 : Int32))), (0, .ref am), (1, .int x1), (2, .int x2), (3, .int x3)]) hx hb dX7_fits_56 hl (by decide) rfl (fun ls hl => ?_)
          refine lv_iconst (v := (0 : Int32)) hx hb dX7_fits_58 (by decide) ?_
          refine lv_istore (lv' := [(6, .int (0 : Int32)), (5, .int (u_s (((8 : Int32) + ((5 : Int32) * x2)) + (1 : Int32)).toNatClampNeg)), (4, .int (((8 : Int32) + ((5 : Int32) * x2)) + (1 : Int32))), (0, .ref am), (1, .int x1), (2, .int x2), (3, .int x3)]) hx hb dX7_fits_59 hl (by decide) rfl (fun ls hl => ?_)
          refine lv_bipush (v := (-3 : Int32)) hx hb dX7_fits_61 (by decide) ?_
          refine lv_istore (lv' := [(7, .int (-3 : Int32)), (6, .int (0 : Int32)), (5, .int (u_s (((8 : Int32) + ((5 : Int32) * x2)) + (1 : Int32)).toNatClampNeg)), (4, .int (((8 : Int32) + ((5 : Int32) * x2)) + (1 : Int32))), (0, .ref am), (1, .int x1), (2, .int x2), (3, .int x3)]) hx hb dX7_fits_63 hl (by decide) rfl (fun ls hl => ?_)
          refine lv_bipush (v := (7 : Int32)) hx hb dX7_fits_65 (by decide) ?_
          refine lv_istore (lv' := [(8, .int (7 : Int32)), (7, .int (-3 : Int32)), (6, .int (0 : Int32)), (5, .int (u_s (((8 : Int32) + ((5 : Int32) * x2)) + (1 : Int32)).toNatClampNeg)), (4, .int (((8 : Int32) + ((5 : Int32) * x2)) + (1 : Int32))), (0, .ref am), (1, .int x1), (2, .int x2), (3, .int x3)]) hx hb dX7_fits_67 hl (by decide) rfl (fun ls hl => ?_)
          exact hL69 n u_s u_aside (((8 : Int32) + ((5 : Int32) * x2)) + (1 : Int32)) (u_s (((8 : Int32) + ((5 : Int32) * x2)) + (1 : Int32)).toNatClampNeg) (0 : Int32) (-3 : Int32) (7 : Int32) hf _ _ hP hD hS _ (lv_sub hl [5, 6, 7, 8, 4, 3, 2, 1, 0] rfl)
        · have hf := zn hf c_33
          refine lv_bipush (v := (-11 : Int32)) hx hb dX7_fits_36 (by decide) ?_
          exact W.iret hx hb hr (fun t ht hW => hfin (-11 : Int32) u_s u_aside hf _ t ht hP (hS.F ht)) hS.2.2 dX7_fits_38
      · have hf := zp hf c_22
        refine lv_iconst (v := (-1 : Int32)) hx hb dX7_fits_25 (by decide) ?_
        exact W.iret hx hb hr (fun t ht hW => hfin (-1 : Int32) u_s u_aside hf _ t ht hP (hS.F ht)) hS.2.2 dX7_fits_26
set_option maxRecDepth 100000 in
set_option maxHeartbeats 100000000 in
theorem mX7_odds (l : Launch) (D : va_G) (cy : Nat → ClassId) (st sk sv : Nat → Nat) (B : Nat) (am : Nat) (am0 : Nat) (am1 : Nat) (am2 : Nat) (am3 : Nat) (am4 : Nat) (am5 : Nat) (am6 : Nat) (am7 : Nat) (am8 : Nat) (am9 : Nat) (am10 : Nat) (am11 : Nat) (am12 : Nat) (n : Nat) (M_isHeld : Int32) (M_taped : Int32) (M_token : Int32) (M_from : Int32) (M_to : Int32) (M_value : Int32) (M_isWrong : Int32) (M_rowN : Int32) (M_ran : Int32) (M_actKind : Int32) (M_actN : Int32) (M_actA : Int32) (M_isParted : Int32) (u_s : (Nat → Int32)) (x1 : Int32) (x2 : Int32) (x3 : Int32) (z : Int64) (hf : fX7_odds n (M_isHeld, M_taped, M_token, M_from, M_to, M_value, M_isWrong, M_rowN, M_ran, M_actKind, M_actN, M_actA, M_isParted) u_s x1 x2 x3 = some z) : Met l yX7_odds wsX7_odds ({ frames := 1, cells := 0, slots := 0, locals := 30 }) (PcR [.ref am, .int x1, .int x2, .int x3] D cy st sk sv B [(am, .inr (7, [.ref am0, .ref am1, .ref am2, .ref am3, .int M_isHeld, .ref am4, .int M_taped, .int M_token, .int M_from, .int M_to, .int M_value, .int M_isWrong, .ref am5, .int M_rowN, .ref am6, .ref am7, .ref am8, .ref am9, .ref am10, .ref am11, .ref am12, .int M_ran, .int M_actKind, .int M_actN, .int M_actA, .int M_isParted])), (am0, .inl (cy 0, 48, .inl u_s))]) (Qr (some (.long z))) 0 0 (fun _ => False) := by
  refine Met.ofW (cc := cX7_odds) (maxL := 9) (ret := (some .long)) (by decide) rfl ?_
  intro p e s m args below meth c s₁ Bd hml hv
  obtain ⟨rfl, hP, hG⟩ := hv
  have hx := Bd.exec
  have hb := Bd.bytes
  have hr := Bd.returns
  have hts := atoms_spec (ws := wsX7_odds) Bd.pre
  have hown : s.vm.findClass RX7 = some m.cls := findClass_of_methodNamed Bd.named
  have hlocks := Bd.notSynchronized
  have hK := hG.1
  have hS : va_S (fun q => B ≤ q) s.heap s.heap [] := va_S.rf
  have hAB : ∀ q, (fun q => B ≤ q) q → B ≤ q := fun _ h => h
  have hin7 : ∀ w ∈ u_ws RX7 TX7 26, w ∈ wsX7_odds := by decide +kernel
  have fl7 := hts (.fieldLink RX7 7 "KinCutleryModel" "s" "[I") (by decide +kernel)
  have hL61 : ∀ (n0 : Nat) (y4 : Int64) (y6 : Int64) (y8 : Int32), lpF (fX7_odds_F61 n (M_isHeld, M_taped, M_token, M_from, M_to, M_value, M_isWrong, M_rowN, M_ran, M_actKind, M_actN, M_actA, M_isParted) u_s x1 x2 x3 ) n0 (y4, y6, y8) = some z → ∀ (ls : Array Slot), lv_has ls 9 [(0, .ref am), (1, .int x1), (2, .int x2), (3, .int x3), (4, .long y4), (6, .long y6), (8, .int y8)] → W p l e (headSpec wsX7_odds ({ frames := 1, cells := 0, slots := 0, locals := 30 })).room s m ([.ref am, .int x1, .int x2, .int x3] : List Value).toArray below meth c s.heap [] 0 0 (MQ below (Qr (some (.long z))) ([.ref am, .int x1, .int x2, .int x3] : List Value).toArray s 0 0 (fun _ => False)) (F0 m 61 ls []) := by
    have key : ∀ (n0 : Nat) (v61 : Int64 × Int64 × Int32), lpF (fX7_odds_F61 n (M_isHeld, M_taped, M_token, M_from, M_to, M_value, M_isWrong, M_rowN, M_ran, M_actKind, M_actN, M_actA, M_isParted) u_s x1 x2 x3 ) n0 v61 = some z → ∀ (ls : Array Slot), lv_has ls 9 [(0, .ref am), (1, .int x1), (2, .int x2), (3, .int x3), (4, .long v61.1), (6, .long v61.2.1), (8, .int v61.2.2)] → W p l e (headSpec wsX7_odds ({ frames := 1, cells := 0, slots := 0, locals := 30 })).room s m ([.ref am, .int x1, .int x2, .int x3] : List Value).toArray below meth c s.heap [] 0 0 (MQ below (Qr (some (.long z))) ([.ref am, .int x1, .int x2, .int x3] : List Value).toArray s 0 0 (fun _ => False)) (F0 m 61 ls []) := by
      refine lpW ?_
      intro k61 hk610
      have hk61 : ∀ (y4 : Int64) (y6 : Int64) (y8 : Int32), k61 (y4, y6, y8) = some z → ∀ (ls : Array Slot), lv_has ls 9 [(0, .ref am), (1, .int x1), (2, .int x2), (3, .int x3), (4, .long y4), (6, .long y6), (8, .int y8)] → W p l e (headSpec wsX7_odds ({ frames := 1, cells := 0, slots := 0, locals := 30 })).room s m ([.ref am, .int x1, .int x2, .int x3] : List Value).toArray below meth c s.heap [] 0 0 (MQ below (Qr (some (.long z))) ([.ref am, .int x1, .int x2, .int x3] : List Value).toArray s 0 0 (fun _ => False)) (F0 m 61 ls []) := fun y4 y6 y8 h9 => hk610 (y4, y6, y8) h9
      have hB97 : ∀ (y6 : Int64) (y8 : Int32) (w0 : Int64) (w1 : Int64), fX7_odds_b97 n (M_isHeld, M_taped, M_token, M_from, M_to, M_value, M_isWrong, M_rowN, M_ran, M_actKind, M_actN, M_actA, M_isParted) u_s x1 x2 x3 k61 y6 y8 w0 w1 = some z → ∀ (ls : Array Slot), lv_has ls 9 [(0, .ref am), (1, .int x1), (2, .int x2), (3, .int x3), (6, .long y6), (8, .int y8)] → W p l e (headSpec wsX7_odds ({ frames := 1, cells := 0, slots := 0, locals := 30 })).room s m ([.ref am, .int x1, .int x2, .int x3] : List Value).toArray below meth c s.heap [] 0 0 (MQ below (Qr (some (.long z))) ([.ref am, .int x1, .int x2, .int x3] : List Value).toArray s 0 0 (fun _ => False)) (F0 m 97 ls [.long w1, .long w0]) := by
        intro y6 y8 w0 w1 hf ls hl
        have hf : (k61 ((w0 * w1), (y6 * (100 : Int64)), (y8 + (1 : Int32)))) = some z := hf
        refine lv_lmul hx hb dX7_odds_97 ?_
        refine lv_lstore (lv' := [(4, .long (w0 * w1)), (0, .ref am), (1, .int x1), (2, .int x2), (3, .int x3), (6, .long y6), (8, .int y8)]) hx hb dX7_odds_98 hl (by decide) rfl (fun ls hl => ?_)
        refine lv_lload hx hb dX7_odds_100 (lv_at hl 5 rfl) ?_
        refine lv_ldc2 (v := (100 : Int64)) hx hb hown (hts (.constantLong RX7 262 (100)) (by decide +kernel)) dX7_odds_102 ?_
        refine lv_lmul hx hb dX7_odds_105 ?_
        refine lv_lstore (lv' := [(6, .long (y6 * (100 : Int64))), (4, .long (w0 * w1)), (0, .ref am), (1, .int x1), (2, .int x2), (3, .int x3), (8, .int y8)]) hx hb dX7_odds_106 hl (by decide) rfl (fun ls hl => ?_)
        refine lv_iinc (v := (y8 + (1 : Int32))) (lv' := [(8, .int (y8 + (1 : Int32))), (6, .long (y6 * (100 : Int64))), (4, .long (w0 * w1)), (0, .ref am), (1, .int x1), (2, .int x2), (3, .int x3)]) hx hb dX7_odds_108 hl (k := 6) rfl rfl (by decide) rfl (fun ls hl => ?_)
        refine lv_goto (tgt := 61) hx hb dX7_odds_111 (by decide) ?_
        exact hk61 (w0 * w1) (y6 * (100 : Int64)) (y8 + (1 : Int32)) hf _ (lv_sub hl [3, 4, 5, 6, 2, 1, 0] rfl)
      have hstep : ∀ (y4 : Int64) (y6 : Int64) (y8 : Int32), fX7_odds_F61 n (M_isHeld, M_taped, M_token, M_from, M_to, M_value, M_isWrong, M_rowN, M_ran, M_actKind, M_actN, M_actA, M_isParted) u_s x1 x2 x3  k61 (y4, y6, y8) = some z → ∀ (ls : Array Slot), lv_has ls 9 [(0, .ref am), (1, .int x1), (2, .int x2), (3, .int x3), (4, .long y4), (6, .long y6), (8, .int y8)] → W p l e (headSpec wsX7_odds ({ frames := 1, cells := 0, slots := 0, locals := 30 })).room s m ([.ref am, .int x1, .int x2, .int x3] : List Value).toArray below meth c s.heap [] 0 0 (MQ below (Qr (some (.long z))) ([.ref am, .int x1, .int x2, .int x3] : List Value).toArray s 0 0 (fun _ => False)) (F0 m 61 ls []) := by
        intro y4 y6 y8 hf ls hl
        have hf : (if x1 ≤ y8 then ((fX7_partOf n y4 y6 x3).bind fun r119 => some r119) else (if x2 ≤ y8 then (fX7_odds_b97 n (M_isHeld, M_taped, M_token, M_from, M_to, M_value, M_isWrong, M_rowN, M_ran, M_actKind, M_actN, M_actA, M_isParted) u_s x1 x2 x3 k61 y6 y8 y4 (((100 : Int32) - (u_s (7 : Int32).toNatClampNeg)).toInt64)) else (fX7_odds_b97 n (M_isHeld, M_taped, M_token, M_from, M_to, M_value, M_isWrong, M_rowN, M_ran, M_actKind, M_actN, M_actA, M_isParted) u_s x1 x2 x3 k61 y6 y8 y4 ((u_s (7 : Int32).toNatClampNeg).toInt64)))) = some z := hf
        refine lv_iload hx hb dX7_odds_61 (lv_at hl 6 rfl) ?_
        refine lv_iload_n hx hb dX7_odds_63 rfl (lv_at hl 1 rfl) ?_
        refine lv_icmp_ge (tgt := 114) hx hb dX7_odds_64 (by decide) (fun c_64 => ?_) (fun c_64 => ?_)
        · have hf := zp hf c_64
          refine lv_lload hx hb dX7_odds_114 (lv_at hl 4 rfl) ?_
          refine lv_lload hx hb dX7_odds_116 (lv_at hl 5 rfl) ?_
          refine lv_iload_n hx hb dX7_odds_118 rfl (lv_at hl 3 rfl) ?_
          obtain ⟨r119, hc119, hf⟩ := zb hf
          refine zsr (o := some (.long r119)) (As := [.long y4, .long y6, .int x3]) (rest := []) (stk := [.long r119]) ⟨hx, hb, hml, hown, hts⟩ (mX7_partOf l D cy st sk sv B  n y4 y6 x3 r119 hc119) (va_cwS 3 hts gX7_odds_X7_partOf rfl rfl rfl (by decide +kernel) ⟨Nat.le_of_ble_eq_true rfl, Nat.le_of_ble_eq_true rfl⟩) hG hS hAB hP [] rfl rfl hl.1 rfl (Nat.le_of_ble_eq_true rfl) dX7_odds_119 rfl ?_
          cases hf
          exact W.lret hx hb hr (fun t ht hW => ⟨rfl, ht⟩) (fun q h => absurd h List.not_mem_nil) dX7_odds_122
        · have hf := zn hf c_64
          refine lv_lload hx hb dX7_odds_67 (lv_at hl 4 rfl) ?_
          refine lv_iload hx hb dX7_odds_69 (lv_at hl 6 rfl) ?_
          refine lv_iload_n hx hb dX7_odds_71 rfl (lv_at hl 2 rfl) ?_
          refine lv_icmp_ge (tgt := 86) hx hb dX7_odds_72 (by decide) (fun c_72 => ?_) (fun c_72 => ?_)
          · have hf := zp hf c_72
            refine lv_bipush (v := (100 : Int32)) hx hb dX7_odds_86 (by decide) ?_
            refine lv_aload_n hx hb dX7_odds_88 rfl (lv_at hl 0 rfl) ?_
            refine va_get (D := D) (ci := 7) (v := .ref am0) (C := RX7) (T := TX7) (N := 26) hx hb hts hin7 hown hK hP 0 rfl rfl 0 (by decide) fl7 (fun _ h9 => h9) rfl dX7_odds_89 ?_
            refine lv_bipush (v := (7 : Int32)) hx hb dX7_odds_92 (by decide) ?_
            refine va_iald hx hb hK hP 1 0 rfl rfl vi_7_48 dX7_odds_94 ?_
            refine lv_isub hx hb dX7_odds_95 ?_
            refine lv_i2l hx hb dX7_odds_96 rfl ?_
            exact hB97 y6 y8 y4 (((100 : Int32) - (u_s (7 : Int32).toNatClampNeg)).toInt64) hf _ (lv_sub hl [0, 1, 2, 3, 5, 6] rfl)
          · have hf := zn hf c_72
            refine lv_aload_n hx hb dX7_odds_75 rfl (lv_at hl 0 rfl) ?_
            refine va_get (D := D) (ci := 7) (v := .ref am0) (C := RX7) (T := TX7) (N := 26) hx hb hts hin7 hown hK hP 0 rfl rfl 0 (by decide) fl7 (fun _ h9 => h9) rfl dX7_odds_76 ?_
            refine lv_bipush (v := (7 : Int32)) hx hb dX7_odds_79 (by decide) ?_
            refine va_iald hx hb hK hP 1 0 rfl rfl vi_7_48 dX7_odds_81 ?_
            refine lv_i2l hx hb dX7_odds_82 rfl ?_
            refine lv_goto (tgt := 97) hx hb dX7_odds_83 (by decide) ?_
            exact hB97 y6 y8 y4 ((u_s (7 : Int32).toNatClampNeg).toInt64) hf _ (lv_sub hl [0, 1, 2, 3, 5, 6] rfl)
      exact fun v61 h9 => hstep v61.1 v61.2.1 v61.2.2 h9
    exact fun n0 y4 y6 y8 h9 => key n0 (y4, y6, y8) h9
  have hl := lv_entry ([.ref am, .int x1, .int x2, .int x3]) (n := 9) (Nat.le_of_ble_eq_true rfl)
  rw [lg_entry_eq]
  generalize (lg_sl ([.ref am, .int x1, .int x2, .int x3]) ++ List.replicate (9 - (lg_sl ([.ref am, .int x1, .int x2, .int x3])).length) Slot.unset).toArray = ls at hl ⊢
  have hl : lv_has ls 9 [(0, .ref am), (1, .int x1), (2, .int x2), (3, .int x3)] := hl
  have hf : ((fX7_isIn n x1.toInt64 (0 : Int64) (8 : Int64)).bind fun r6 => if r6 = 0 then (some (-1 : Int64)) else ((fX7_isIn n x2.toInt64 (0 : Int64) x1.toInt64).bind fun r17 => if r17 = 0 then (some (-1 : Int64)) else ((fX7_isIn n x3.toInt64 (0 : Int64) (1 : Int64)).bind fun r27 => if r27 = 0 then (some (-1 : Int64)) else ((fX7_product n x1).bind fun r38 => (fX7_product n x2).bind fun r42 => if r42 = 0 then none else (fX7_product n (x1 - x2)).bind fun r49 => if r49 = 0 then none else lpF (fX7_odds_F61 n (M_isHeld, M_taped, M_token, M_from, M_to, M_value, M_isWrong, M_rowN, M_ran, M_actKind, M_actN, M_actA, M_isParted) u_s x1 x2 x3 ) n (((r38 / r42) / r49), (1 : Int64), (0 : Int32)))))) = some z := hf
  refine lv_iload_n hx hb dX7_odds_0 rfl (lv_at hl 1 rfl) ?_
  refine lv_i2l hx hb dX7_odds_1 rfl ?_
  refine lv_lconst (v := (0 : Int64)) hx hb dX7_odds_2 (by decide) ?_
  refine lv_ldc2 (v := (8 : Int64)) hx hb hown (hts (.constantLong RX7 52 (8)) (by decide +kernel)) dX7_odds_3 ?_
  obtain ⟨r6, hc6, hf⟩ := zb hf
  refine zsr (o := some (.int r6)) (As := [.long x1.toInt64, .long (0 : Int64), .long (8 : Int64)]) (rest := []) (stk := [.int r6]) ⟨hx, hb, hml, hown, hts⟩ (mX7_isIn l D cy st sk sv B  n x1.toInt64 (0 : Int64) (8 : Int64) r6 hc6) (va_cwS 3 hts gX7_odds_X7_isIn rfl rfl rfl (by decide +kernel) ⟨Nat.le_of_ble_eq_true rfl, Nat.le_of_ble_eq_true rfl⟩) hG hS hAB hP [] rfl rfl hl.1 rfl (Nat.le_of_ble_eq_true rfl) dX7_odds_6 rfl ?_
  refine lv_if_eq (tgt := 33) hx hb dX7_odds_9 (by decide) (fun c_9 => ?_) (fun c_9 => ?_)
  · have hf := zp hf c_9
    refine lv_ldc2 (v := (-1 : Int64)) hx hb hown (hts (.constantLong RX7 256 (-1)) (by decide +kernel)) dX7_odds_33 ?_
    cases hf
    exact W.lret hx hb hr (fun t ht hW => ⟨rfl, ht⟩) (fun q h => absurd h List.not_mem_nil) dX7_odds_36
  · have hf := zn hf c_9
    refine lv_iload_n hx hb dX7_odds_12 rfl (lv_at hl 2 rfl) ?_
    refine lv_i2l hx hb dX7_odds_13 rfl ?_
    refine lv_lconst (v := (0 : Int64)) hx hb dX7_odds_14 (by decide) ?_
    refine lv_iload_n hx hb dX7_odds_15 rfl (lv_at hl 1 rfl) ?_
    refine lv_i2l hx hb dX7_odds_16 rfl ?_
    obtain ⟨r17, hc17, hf⟩ := zb hf
    refine zsr (o := some (.int r17)) (As := [.long x2.toInt64, .long (0 : Int64), .long x1.toInt64]) (rest := []) (stk := [.int r17]) ⟨hx, hb, hml, hown, hts⟩ (mX7_isIn l D cy st sk sv B  n x2.toInt64 (0 : Int64) x1.toInt64 r17 hc17) (va_cwS 3 hts gX7_odds_X7_isIn rfl rfl rfl (by decide +kernel) ⟨Nat.le_of_ble_eq_true rfl, Nat.le_of_ble_eq_true rfl⟩) hG hS hAB hP [] rfl rfl hl.1 rfl (Nat.le_of_ble_eq_true rfl) dX7_odds_17 rfl ?_
    refine lv_if_eq (tgt := 33) hx hb dX7_odds_20 (by decide) (fun c_20 => ?_) (fun c_20 => ?_)
    · have hf := zp hf c_20
      refine lv_ldc2 (v := (-1 : Int64)) hx hb hown (hts (.constantLong RX7 256 (-1)) (by decide +kernel)) dX7_odds_33 ?_
      cases hf
      exact W.lret hx hb hr (fun t ht hW => ⟨rfl, ht⟩) (fun q h => absurd h List.not_mem_nil) dX7_odds_36
    · have hf := zn hf c_20
      refine lv_iload_n hx hb dX7_odds_23 rfl (lv_at hl 3 rfl) ?_
      refine lv_i2l hx hb dX7_odds_24 rfl ?_
      refine lv_lconst (v := (0 : Int64)) hx hb dX7_odds_25 (by decide) ?_
      refine lv_lconst (v := (1 : Int64)) hx hb dX7_odds_26 (by decide) ?_
      obtain ⟨r27, hc27, hf⟩ := zb hf
      refine zsr (o := some (.int r27)) (As := [.long x3.toInt64, .long (0 : Int64), .long (1 : Int64)]) (rest := []) (stk := [.int r27]) ⟨hx, hb, hml, hown, hts⟩ (mX7_isIn l D cy st sk sv B  n x3.toInt64 (0 : Int64) (1 : Int64) r27 hc27) (va_cwS 3 hts gX7_odds_X7_isIn rfl rfl rfl (by decide +kernel) ⟨Nat.le_of_ble_eq_true rfl, Nat.le_of_ble_eq_true rfl⟩) hG hS hAB hP [] rfl rfl hl.1 rfl (Nat.le_of_ble_eq_true rfl) dX7_odds_27 rfl ?_
      refine lv_if_ne (tgt := 37) hx hb dX7_odds_30 (by decide) (fun c_30 => ?_) (fun c_30 => ?_)
      · have hf := zn hf c_30
        refine lv_iload_n hx hb dX7_odds_37 rfl (lv_at hl 1 rfl) ?_
        obtain ⟨r38, hc38, hf⟩ := zb hf
        refine zsr (o := some (.long r38)) (As := [.int x1]) (rest := []) (stk := [.long r38]) ⟨hx, hb, hml, hown, hts⟩ (mX7_product l D cy st sk sv B  n x1 r38 hc38) (va_cwS 1 hts gX7_odds_X7_product rfl rfl rfl (by decide +kernel) ⟨Nat.le_of_ble_eq_true rfl, Nat.le_of_ble_eq_true rfl⟩) hG hS hAB hP [] rfl rfl hl.1 rfl (Nat.le_of_ble_eq_true rfl) dX7_odds_38 rfl ?_
        refine lv_iload_n hx hb dX7_odds_41 rfl (lv_at hl 2 rfl) ?_
        obtain ⟨r42, hc42, hf⟩ := zb hf
        refine zsr (o := some (.long r42)) (As := [.int x2]) (rest := [.long r38]) (stk := [.long r42, .long r38]) ⟨hx, hb, hml, hown, hts⟩ (mX7_product l D cy st sk sv B  n x2 r42 hc42) (va_cwS 1 hts gX7_odds_X7_product rfl rfl rfl (by decide +kernel) ⟨Nat.le_of_ble_eq_true rfl, Nat.le_of_ble_eq_true rfl⟩) hG hS hAB hP [] rfl rfl hl.1 rfl (Nat.le_of_ble_eq_true rfl) dX7_odds_42 rfl ?_
        obtain ⟨h_45, hf⟩ := zg hf
        refine lv_ldiv hx hb dX7_odds_45 h_45 ?_
        refine lv_iload_n hx hb dX7_odds_46 rfl (lv_at hl 1 rfl) ?_
        refine lv_iload_n hx hb dX7_odds_47 rfl (lv_at hl 2 rfl) ?_
        refine lv_isub hx hb dX7_odds_48 ?_
        obtain ⟨r49, hc49, hf⟩ := zb hf
        refine zsr (o := some (.long r49)) (As := [.int (x1 - x2)]) (rest := [.long (r38 / r42)]) (stk := [.long r49, .long (r38 / r42)]) ⟨hx, hb, hml, hown, hts⟩ (mX7_product l D cy st sk sv B  n (x1 - x2) r49 hc49) (va_cwS 1 hts gX7_odds_X7_product rfl rfl rfl (by decide +kernel) ⟨Nat.le_of_ble_eq_true rfl, Nat.le_of_ble_eq_true rfl⟩) hG hS hAB hP [] rfl rfl hl.1 rfl (Nat.le_of_ble_eq_true rfl) dX7_odds_49 rfl ?_
        obtain ⟨h_52, hf⟩ := zg hf
        refine lv_ldiv hx hb dX7_odds_52 h_52 ?_
        refine lv_lstore (lv' := [(4, .long ((r38 / r42) / r49)), (0, .ref am), (1, .int x1), (2, .int x2), (3, .int x3)]) hx hb dX7_odds_53 hl (by decide) rfl (fun ls hl => ?_)
        refine lv_lconst (v := (1 : Int64)) hx hb dX7_odds_55 (by decide) ?_
        refine lv_lstore (lv' := [(6, .long (1 : Int64)), (4, .long ((r38 / r42) / r49)), (0, .ref am), (1, .int x1), (2, .int x2), (3, .int x3)]) hx hb dX7_odds_56 hl (by decide) rfl (fun ls hl => ?_)
        refine lv_iconst (v := (0 : Int32)) hx hb dX7_odds_58 (by decide) ?_
        refine lv_istore (lv' := [(8, .int (0 : Int32)), (6, .long (1 : Int64)), (4, .long ((r38 / r42) / r49)), (0, .ref am), (1, .int x1), (2, .int x2), (3, .int x3)]) hx hb dX7_odds_59 hl (by decide) rfl (fun ls hl => ?_)
        exact hL61 n ((r38 / r42) / r49) (1 : Int64) (0 : Int32) hf _ (lv_sub hl [3, 4, 5, 6, 2, 1, 0] rfl)
      · have hf := zp hf c_30
        refine lv_ldc2 (v := (-1 : Int64)) hx hb hown (hts (.constantLong RX7 256 (-1)) (by decide +kernel)) dX7_odds_33 ?_
        cases hf
        exact W.lret hx hb hr (fun t ht hW => ⟨rfl, ht⟩) (fun q h => absurd h List.not_mem_nil) dX7_odds_36
set_option maxRecDepth 100000 in
set_option maxHeartbeats 100000000 in
theorem mX7_hope (l : Launch) (D : va_G) (cy : Nat → ClassId) (st sk sv : Nat → Nat) (B : Nat) (am : Nat) (am0 : Nat) (am1 : Nat) (am2 : Nat) (am3 : Nat) (am4 : Nat) (am5 : Nat) (am6 : Nat) (am7 : Nat) (am8 : Nat) (am9 : Nat) (am10 : Nat) (am11 : Nat) (am12 : Nat) (n : Nat) (M_isHeld : Int32) (M_taped : Int32) (M_token : Int32) (M_from : Int32) (M_to : Int32) (M_value : Int32) (M_isWrong : Int32) (M_rowN : Int32) (M_ran : Int32) (M_actKind : Int32) (M_actN : Int32) (M_actA : Int32) (M_isParted : Int32) (u_s : (Nat → Int32)) (x1 : Int32) (x2 : Int32) (z : Int64) (hf : fX7_hope n (M_isHeld, M_taped, M_token, M_from, M_to, M_value, M_isWrong, M_rowN, M_ran, M_actKind, M_actN, M_actA, M_isParted) u_s x1 x2 = some z) : Met l yX7_hope wsX7_hope ({ frames := 1, cells := 0, slots := 0, locals := 30 }) (PcR [.ref am, .int x1, .int x2] D cy st sk sv B [(am, .inr (7, [.ref am0, .ref am1, .ref am2, .ref am3, .int M_isHeld, .ref am4, .int M_taped, .int M_token, .int M_from, .int M_to, .int M_value, .int M_isWrong, .ref am5, .int M_rowN, .ref am6, .ref am7, .ref am8, .ref am9, .ref am10, .ref am11, .ref am12, .int M_ran, .int M_actKind, .int M_actN, .int M_actA, .int M_isParted])), (am0, .inl (cy 0, 48, .inl u_s))]) (Qr (some (.long z))) 0 0 (fun _ => False) := by
  refine Met.ofW (cc := cX7_hope) (maxL := 3) (ret := (some .long)) (by decide) rfl ?_
  intro p e s m args below meth c s₁ Bd hml hv
  obtain ⟨rfl, hP, hG⟩ := hv
  have hx := Bd.exec
  have hb := Bd.bytes
  have hr := Bd.returns
  have hts := atoms_spec (ws := wsX7_hope) Bd.pre
  have hown : s.vm.findClass RX7 = some m.cls := findClass_of_methodNamed Bd.named
  have hlocks := Bd.notSynchronized
  have hK := hG.1
  have hS : va_S (fun q => B ≤ q) s.heap s.heap [] := va_S.rf
  have hAB : ∀ q, (fun q => B ≤ q) q → B ≤ q := fun _ h => h
  have hin7 : ∀ w ∈ u_ws RX7 TX7 26, w ∈ wsX7_hope := by decide +kernel
  have fl7 := hts (.fieldLink RX7 7 "KinCutleryModel" "s" "[I") (by decide +kernel)
  have hl := lv_entry ([.ref am, .int x1, .int x2]) (n := 3) (Nat.le_of_ble_eq_true rfl)
  rw [lg_entry_eq]
  generalize (lg_sl ([.ref am, .int x1, .int x2]) ++ List.replicate (3 - (lg_sl ([.ref am, .int x1, .int x2])).length) Slot.unset).toArray = ls at hl ⊢
  have hl : lv_has ls 3 [(0, .ref am), (1, .int x1), (2, .int x2)] := hl
  have hf : ((fX7_isIn n x1.toInt64 (0 : Int64) (99 : Int64)).bind fun r6 => if r6 = 0 then (some (-1 : Int64)) else ((fX7_isIn n x2.toInt64 (0 : Int64) (1 : Int64)).bind fun r16 => if r16 = 0 then (some (-1 : Int64)) else ((fX7_partOf n (x1.toInt64 * (u_s (7 : Int32).toNatClampNeg).toInt64) (100 : Int64) x2).bind fun r37 => some r37))) = some z := hf
  refine lv_iload_n hx hb dX7_hope_0 rfl (lv_at hl 1 rfl) ?_
  refine lv_i2l hx hb dX7_hope_1 rfl ?_
  refine lv_lconst (v := (0 : Int64)) hx hb dX7_hope_2 (by decide) ?_
  refine lv_ldc2 (v := (99 : Int64)) hx hb hown (hts (.constantLong RX7 178 (99)) (by decide +kernel)) dX7_hope_3 ?_
  obtain ⟨r6, hc6, hf⟩ := zb hf
  refine zsr (o := some (.int r6)) (As := [.long x1.toInt64, .long (0 : Int64), .long (99 : Int64)]) (rest := []) (stk := [.int r6]) ⟨hx, hb, hml, hown, hts⟩ (mX7_isIn l D cy st sk sv B  n x1.toInt64 (0 : Int64) (99 : Int64) r6 hc6) (va_cwS 3 hts gX7_hope_X7_isIn rfl rfl rfl (by decide +kernel) ⟨Nat.le_of_ble_eq_true rfl, Nat.le_of_ble_eq_true rfl⟩) hG hS hAB hP [] rfl rfl hl.1 rfl (Nat.le_of_ble_eq_true rfl) dX7_hope_6 rfl ?_
  refine lv_if_eq (tgt := 43) hx hb dX7_hope_9 (by decide) (fun c_9 => ?_) (fun c_9 => ?_)
  · have hf := zp hf c_9
    refine lv_ldc2 (v := (-1 : Int64)) hx hb hown (hts (.constantLong RX7 256 (-1)) (by decide +kernel)) dX7_hope_43 ?_
    cases hf
    exact W.lret hx hb hr (fun t ht hW => ⟨rfl, ht⟩) (fun q h => absurd h List.not_mem_nil) dX7_hope_46
  · have hf := zn hf c_9
    refine lv_iload_n hx hb dX7_hope_12 rfl (lv_at hl 2 rfl) ?_
    refine lv_i2l hx hb dX7_hope_13 rfl ?_
    refine lv_lconst (v := (0 : Int64)) hx hb dX7_hope_14 (by decide) ?_
    refine lv_lconst (v := (1 : Int64)) hx hb dX7_hope_15 (by decide) ?_
    obtain ⟨r16, hc16, hf⟩ := zb hf
    refine zsr (o := some (.int r16)) (As := [.long x2.toInt64, .long (0 : Int64), .long (1 : Int64)]) (rest := []) (stk := [.int r16]) ⟨hx, hb, hml, hown, hts⟩ (mX7_isIn l D cy st sk sv B  n x2.toInt64 (0 : Int64) (1 : Int64) r16 hc16) (va_cwS 3 hts gX7_hope_X7_isIn rfl rfl rfl (by decide +kernel) ⟨Nat.le_of_ble_eq_true rfl, Nat.le_of_ble_eq_true rfl⟩) hG hS hAB hP [] rfl rfl hl.1 rfl (Nat.le_of_ble_eq_true rfl) dX7_hope_16 rfl ?_
    refine lv_if_eq (tgt := 43) hx hb dX7_hope_19 (by decide) (fun c_19 => ?_) (fun c_19 => ?_)
    · have hf := zp hf c_19
      refine lv_ldc2 (v := (-1 : Int64)) hx hb hown (hts (.constantLong RX7 256 (-1)) (by decide +kernel)) dX7_hope_43 ?_
      cases hf
      exact W.lret hx hb hr (fun t ht hW => ⟨rfl, ht⟩) (fun q h => absurd h List.not_mem_nil) dX7_hope_46
    · have hf := zn hf c_19
      refine lv_iload_n hx hb dX7_hope_22 rfl (lv_at hl 1 rfl) ?_
      refine lv_i2l hx hb dX7_hope_23 rfl ?_
      refine lv_aload_n hx hb dX7_hope_24 rfl (lv_at hl 0 rfl) ?_
      refine va_get (D := D) (ci := 7) (v := .ref am0) (C := RX7) (T := TX7) (N := 26) hx hb hts hin7 hown hK hP 0 rfl rfl 0 (by decide) fl7 (fun _ h9 => h9) rfl dX7_hope_25 ?_
      refine lv_bipush (v := (7 : Int32)) hx hb dX7_hope_28 (by decide) ?_
      refine va_iald hx hb hK hP 1 0 rfl rfl vi_7_48 dX7_hope_30 ?_
      refine lv_i2l hx hb dX7_hope_31 rfl ?_
      refine lv_lmul hx hb dX7_hope_32 ?_
      refine lv_ldc2 (v := (100 : Int64)) hx hb hown (hts (.constantLong RX7 262 (100)) (by decide +kernel)) dX7_hope_33 ?_
      refine lv_iload_n hx hb dX7_hope_36 rfl (lv_at hl 2 rfl) ?_
      obtain ⟨r37, hc37, hf⟩ := zb hf
      refine zsr (o := some (.long r37)) (As := [.long (x1.toInt64 * (u_s (7 : Int32).toNatClampNeg).toInt64), .long (100 : Int64), .int x2]) (rest := []) (stk := [.long r37]) ⟨hx, hb, hml, hown, hts⟩ (mX7_partOf l D cy st sk sv B  n (x1.toInt64 * (u_s (7 : Int32).toNatClampNeg).toInt64) (100 : Int64) x2 r37 hc37) (va_cwS 3 hts gX7_hope_X7_partOf rfl rfl rfl (by decide +kernel) ⟨Nat.le_of_ble_eq_true rfl, Nat.le_of_ble_eq_true rfl⟩) hG hS hAB hP [] rfl rfl hl.1 rfl (Nat.le_of_ble_eq_true rfl) dX7_hope_37 rfl ?_
      refine lv_goto (tgt := 46) hx hb dX7_hope_40 (by decide) ?_
      cases hf
      exact W.lret hx hb hr (fun t ht hW => ⟨rfl, ht⟩) (fun q h => absurd h List.not_mem_nil) dX7_hope_46
set_option maxRecDepth 100000 in
set_option maxHeartbeats 100000000 in
theorem mX7_prove (l : Launch) (D : va_G) (cy : Nat → ClassId) (st sk sv : Nat → Nat) (B : Nat) (am : Nat) (am0 : Nat) (am1 : Nat) (am2 : Nat) (am3 : Nat) (am4 : Nat) (am5 : Nat) (am6 : Nat) (am7 : Nat) (am8 : Nat) (am9 : Nat) (am10 : Nat) (am11 : Nat) (am12 : Nat) (sz : Nat) (n : Nat) (M_isHeld : Int32) (M_taped : Int32) (M_token : Int32) (M_from : Int32) (M_to : Int32) (M_value : Int32) (M_isWrong : Int32) (M_rowN : Int32) (M_ran : Int32) (M_actKind : Int32) (M_actN : Int32) (M_actA : Int32) (M_isParted : Int32) (u_s : (Nat → Int32)) (u_aside : (Nat → Int32)) (u_rows : (Nat → Int32)) (x1 : Int32) (x2 : Int32) (z : Int32 × MO × (Nat → Int32) × (Nat → Int32) × (Nat → Int32)) (hf : fX7_prove n (M_isHeld, M_taped, M_token, M_from, M_to, M_value, M_isWrong, M_rowN, M_ran, M_actKind, M_actN, M_actA, M_isParted) u_s u_aside u_rows x1 x2 = some z) : Met l yX7_prove wsX7_prove ({ frames := 4, cells := 0, slots := 0, locals := 88 }) (PcW [.ref am, .int x1, .int x2] D cy st sk sv B sz [(am, .inr (7, [.ref am0, .ref am1, .ref am2, .ref am3, .int M_isHeld, .ref am4, .int M_taped, .int M_token, .int M_from, .int M_to, .int M_value, .int M_isWrong, .ref am5, .int M_rowN, .ref am6, .ref am7, .ref am8, .ref am9, .ref am10, .ref am11, .ref am12, .int M_ran, .int M_actKind, .int M_actN, .int M_actA, .int M_isParted])), (am0, .inl (cy 0, 48, .inl u_s)), (am2, .inl (cy 0, 48, .inl u_aside)), (am5, .inl (cy 0, 30, .inl u_rows))]) (Qw (some (.int z.1)) D [(am, .inr (7, [.ref am0, .ref am1, .ref am2, .ref am3, .int z.2.1.1, .ref am4, .int z.2.1.2.1, .int z.2.1.2.2.1, .int z.2.1.2.2.2.1, .int z.2.1.2.2.2.2.1, .int z.2.1.2.2.2.2.2.1, .int z.2.1.2.2.2.2.2.2.1, .ref am5, .int z.2.1.2.2.2.2.2.2.2.1, .ref am6, .ref am7, .ref am8, .ref am9, .ref am10, .ref am11, .ref am12, .int z.2.1.2.2.2.2.2.2.2.2.1, .int z.2.1.2.2.2.2.2.2.2.2.2.1, .int z.2.1.2.2.2.2.2.2.2.2.2.2.1, .int z.2.1.2.2.2.2.2.2.2.2.2.2.2.1, .int z.2.1.2.2.2.2.2.2.2.2.2.2.2.2])), (am0, .inl (cy 0, 48, .inl z.2.2.1)), (am2, .inl (cy 0, 48, .inl z.2.2.2.1)), (am5, .inl (cy 0, 30, .inl z.2.2.2.2))] (va_A [(am, .inr (7, [.ref am0, .ref am1, .ref am2, .ref am3, .int M_isHeld, .ref am4, .int M_taped, .int M_token, .int M_from, .int M_to, .int M_value, .int M_isWrong, .ref am5, .int M_rowN, .ref am6, .ref am7, .ref am8, .ref am9, .ref am10, .ref am11, .ref am12, .int M_ran, .int M_actKind, .int M_actN, .int M_actA, .int M_isParted])), (am0, .inl (cy 0, 48, .inl u_s)), (am2, .inl (cy 0, 48, .inl u_aside)), (am5, .inl (cy 0, 30, .inl u_rows))] sz)) 0 0 (va_A [(am, .inr (7, [.ref am0, .ref am1, .ref am2, .ref am3, .int M_isHeld, .ref am4, .int M_taped, .int M_token, .int M_from, .int M_to, .int M_value, .int M_isWrong, .ref am5, .int M_rowN, .ref am6, .ref am7, .ref am8, .ref am9, .ref am10, .ref am11, .ref am12, .int M_ran, .int M_actKind, .int M_actN, .int M_actA, .int M_isParted])), (am0, .inl (cy 0, 48, .inl u_s)), (am2, .inl (cy 0, 48, .inl u_aside)), (am5, .inl (cy 0, 30, .inl u_rows))] sz) := by
  refine Met.ofW (cc := cX7_prove) (maxL := 4) (ret := (some .int)) (by decide) rfl ?_
  intro p e s m args below meth c s₁ Bd hml hv
  obtain ⟨rfl, hsz, hP, hD0, hBs, hG⟩ := hv
  have hx := Bd.exec
  have hb := Bd.bytes
  have hr := Bd.returns
  have hts := atoms_spec (ws := wsX7_prove) Bd.pre
  have hown : s.vm.findClass RX7 = some m.cls := findClass_of_methodNamed Bd.named
  have hlocks := Bd.notSynchronized
  have hK := hG.1
  subst hsz
  have hD := hD0.self (sz := s.heap.size)
  have hAB0 := zA hD0 hBs
  generalize hAe : va_A [(am, .inr (7, [.ref am0, .ref am1, .ref am2, .ref am3, .int M_isHeld, .ref am4, .int M_taped, .int M_token, .int M_from, .int M_to, .int M_value, .int M_isWrong, .ref am5, .int M_rowN, .ref am6, .ref am7, .ref am8, .ref am9, .ref am10, .ref am11, .ref am12, .int M_ran, .int M_actKind, .int M_actN, .int M_actA, .int M_isParted])), (am0, .inl (cy 0, 48, .inl u_s)), (am2, .inl (cy 0, 48, .inl u_aside)), (am5, .inl (cy 0, 30, .inl u_rows))] s.heap.size = A at hD hAB0 ⊢
  have hA : ∀ q : Nat, s.heap.size ≤ q → A q := fun q h => by rw [← hAe]; exact Or.inr h
  have hAB : ∀ q, A q → B ≤ q := hAB0
  have hS : va_S A s.heap s.heap [] := va_S.rf
  have hfin : ∀ (z0 : Int32) (M_isHeld : Int32) (M_taped : Int32) (M_token : Int32) (M_from : Int32) (M_to : Int32) (M_value : Int32) (M_isWrong : Int32) (M_rowN : Int32) (M_ran : Int32) (M_actKind : Int32) (M_actN : Int32) (M_actA : Int32) (M_isParted : Int32) (u_s : (Nat → Int32)) (u_aside : (Nat → Int32)) (u_rows : (Nat → Int32)), some (z0, (M_isHeld, M_taped, M_token, M_from, M_to, M_value, M_isWrong, M_rowN, M_ran, M_actKind, M_actN, M_actA, M_isParted), u_s, u_aside, u_rows) = some z → ∀ (H : Heap) (t : State), t.heap = H → va_P D vwCl [(am, .inr (7, [.ref am0, .ref am1, .ref am2, .ref am3, .int M_isHeld, .ref am4, .int M_taped, .int M_token, .int M_from, .int M_to, .int M_value, .int M_isWrong, .ref am5, .int M_rowN, .ref am6, .ref am7, .ref am8, .ref am9, .ref am10, .ref am11, .ref am12, .int M_ran, .int M_actKind, .int M_actN, .int M_actA, .int M_isParted])), (am0, .inl (cy 0, 48, .inl u_s)), (am2, .inl (cy 0, 48, .inl u_aside)), (am5, .inl (cy 0, 30, .inl u_rows))] H → va_F A s t → Qw (some (.int z.1)) D [(am, .inr (7, [.ref am0, .ref am1, .ref am2, .ref am3, .int z.2.1.1, .ref am4, .int z.2.1.2.1, .int z.2.1.2.2.1, .int z.2.1.2.2.2.1, .int z.2.1.2.2.2.2.1, .int z.2.1.2.2.2.2.2.1, .int z.2.1.2.2.2.2.2.2.1, .ref am5, .int z.2.1.2.2.2.2.2.2.2.1, .ref am6, .ref am7, .ref am8, .ref am9, .ref am10, .ref am11, .ref am12, .int z.2.1.2.2.2.2.2.2.2.2.1, .int z.2.1.2.2.2.2.2.2.2.2.2.1, .int z.2.1.2.2.2.2.2.2.2.2.2.2.1, .int z.2.1.2.2.2.2.2.2.2.2.2.2.2.1, .int z.2.1.2.2.2.2.2.2.2.2.2.2.2.2])), (am0, .inl (cy 0, 48, .inl z.2.2.1)), (am2, .inl (cy 0, 48, .inl z.2.2.2.1)), (am5, .inl (cy 0, 30, .inl z.2.2.2.2))] A ([.ref am, .int x1, .int x2] : List Value).toArray s (.returned (some (.int z0))) t := by
    intro z0 M_isHeld M_taped M_token M_from M_to M_value M_isWrong M_rowN M_ran M_actKind M_actN M_actA M_isParted u_s u_aside u_rows h9 H t ht hP hF
    cases h9
    exact ⟨rfl, by rw [ht]; exact hP, hF⟩
  have hin7 : ∀ w ∈ u_ws RX7 TX7 26, w ∈ wsX7_prove := by decide +kernel
  have fl7 := hts (.fieldLink RX7 7 "KinCutleryModel" "s" "[I") (by decide +kernel)
  have fl16 := hts (.fieldLink RX7 16 "KinCutleryModel" "aside" "[I") (by decide +kernel)
  have fl25 := hts (.fieldLink RX7 25 "KinCutleryModel" "rows" "[I") (by decide +kernel)
  have fl140 := hts (.fieldLink RX7 140 "KinCutleryModel" "rowN" "I") (by decide +kernel)
  have hL35 : ∀ (n0 : Nat) (M_isHeld : Int32) (M_taped : Int32) (M_token : Int32) (M_from : Int32) (M_to : Int32) (M_value : Int32) (M_isWrong : Int32) (M_rowN : Int32) (M_ran : Int32) (M_actKind : Int32) (M_actN : Int32) (M_actA : Int32) (M_isParted : Int32) (u_s : (Nat → Int32)) (u_aside : (Nat → Int32)) (u_rows : (Nat → Int32)) (y3 : Int32), lpF (fX7_prove_F35 n x1 x2 ) n0 ((M_isHeld, M_taped, M_token, M_from, M_to, M_value, M_isWrong, M_rowN, M_ran, M_actKind, M_actN, M_actA, M_isParted), u_s, u_aside, u_rows, y3) = some z → ∀ (H : Heap) (locs : List Loc), va_P D vwCl [(am, .inr (7, [.ref am0, .ref am1, .ref am2, .ref am3, .int M_isHeld, .ref am4, .int M_taped, .int M_token, .int M_from, .int M_to, .int M_value, .int M_isWrong, .ref am5, .int M_rowN, .ref am6, .ref am7, .ref am8, .ref am9, .ref am10, .ref am11, .ref am12, .int M_ran, .int M_actKind, .int M_actN, .int M_actA, .int M_isParted])), (am0, .inl (cy 0, 48, .inl u_s)), (am2, .inl (cy 0, 48, .inl u_aside)), (am5, .inl (cy 0, 30, .inl u_rows))] H → va_D A [(am, .inr (7, [.ref am0, .ref am1, .ref am2, .ref am3, .int M_isHeld, .ref am4, .int M_taped, .int M_token, .int M_from, .int M_to, .int M_value, .int M_isWrong, .ref am5, .int M_rowN, .ref am6, .ref am7, .ref am8, .ref am9, .ref am10, .ref am11, .ref am12, .int M_ran, .int M_actKind, .int M_actN, .int M_actA, .int M_isParted])), (am0, .inl (cy 0, 48, .inl u_s)), (am2, .inl (cy 0, 48, .inl u_aside)), (am5, .inl (cy 0, 30, .inl u_rows))] → va_S A s.heap H locs → ∀ (ls : Array Slot), lv_has ls 4 [(0, .ref am), (1, .int x1), (2, .int x2), (3, .int y3)] → W p l e (headSpec wsX7_prove ({ frames := 4, cells := 0, slots := 0, locals := 88 })).room s m ([.ref am, .int x1, .int x2] : List Value).toArray below meth c H locs 0 0 (MQ below (Qw (some (.int z.1)) D [(am, .inr (7, [.ref am0, .ref am1, .ref am2, .ref am3, .int z.2.1.1, .ref am4, .int z.2.1.2.1, .int z.2.1.2.2.1, .int z.2.1.2.2.2.1, .int z.2.1.2.2.2.2.1, .int z.2.1.2.2.2.2.2.1, .int z.2.1.2.2.2.2.2.2.1, .ref am5, .int z.2.1.2.2.2.2.2.2.2.1, .ref am6, .ref am7, .ref am8, .ref am9, .ref am10, .ref am11, .ref am12, .int z.2.1.2.2.2.2.2.2.2.2.1, .int z.2.1.2.2.2.2.2.2.2.2.2.1, .int z.2.1.2.2.2.2.2.2.2.2.2.2.1, .int z.2.1.2.2.2.2.2.2.2.2.2.2.2.1, .int z.2.1.2.2.2.2.2.2.2.2.2.2.2.2])), (am0, .inl (cy 0, 48, .inl z.2.2.1)), (am2, .inl (cy 0, 48, .inl z.2.2.2.1)), (am5, .inl (cy 0, 30, .inl z.2.2.2.2))] A) ([.ref am, .int x1, .int x2] : List Value).toArray s 0 0 A) (F0 m 35 ls []) := by
    have key : ∀ (n0 : Nat) (v35 : MO × (Nat → Int32) × (Nat → Int32) × (Nat → Int32) × Int32), lpF (fX7_prove_F35 n x1 x2 ) n0 v35 = some z → ∀ (H : Heap) (locs : List Loc), va_P D vwCl [(am, .inr (7, [.ref am0, .ref am1, .ref am2, .ref am3, .int v35.1.1, .ref am4, .int v35.1.2.1, .int v35.1.2.2.1, .int v35.1.2.2.2.1, .int v35.1.2.2.2.2.1, .int v35.1.2.2.2.2.2.1, .int v35.1.2.2.2.2.2.2.1, .ref am5, .int v35.1.2.2.2.2.2.2.2.1, .ref am6, .ref am7, .ref am8, .ref am9, .ref am10, .ref am11, .ref am12, .int v35.1.2.2.2.2.2.2.2.2.1, .int v35.1.2.2.2.2.2.2.2.2.2.1, .int v35.1.2.2.2.2.2.2.2.2.2.2.1, .int v35.1.2.2.2.2.2.2.2.2.2.2.2.1, .int v35.1.2.2.2.2.2.2.2.2.2.2.2.2])), (am0, .inl (cy 0, 48, .inl v35.2.1)), (am2, .inl (cy 0, 48, .inl v35.2.2.1)), (am5, .inl (cy 0, 30, .inl v35.2.2.2.1))] H → va_D A [(am, .inr (7, [.ref am0, .ref am1, .ref am2, .ref am3, .int v35.1.1, .ref am4, .int v35.1.2.1, .int v35.1.2.2.1, .int v35.1.2.2.2.1, .int v35.1.2.2.2.2.1, .int v35.1.2.2.2.2.2.1, .int v35.1.2.2.2.2.2.2.1, .ref am5, .int v35.1.2.2.2.2.2.2.2.1, .ref am6, .ref am7, .ref am8, .ref am9, .ref am10, .ref am11, .ref am12, .int v35.1.2.2.2.2.2.2.2.2.1, .int v35.1.2.2.2.2.2.2.2.2.2.1, .int v35.1.2.2.2.2.2.2.2.2.2.2.1, .int v35.1.2.2.2.2.2.2.2.2.2.2.2.1, .int v35.1.2.2.2.2.2.2.2.2.2.2.2.2])), (am0, .inl (cy 0, 48, .inl v35.2.1)), (am2, .inl (cy 0, 48, .inl v35.2.2.1)), (am5, .inl (cy 0, 30, .inl v35.2.2.2.1))] → va_S A s.heap H locs → ∀ (ls : Array Slot), lv_has ls 4 [(0, .ref am), (1, .int x1), (2, .int x2), (3, .int v35.2.2.2.2)] → W p l e (headSpec wsX7_prove ({ frames := 4, cells := 0, slots := 0, locals := 88 })).room s m ([.ref am, .int x1, .int x2] : List Value).toArray below meth c H locs 0 0 (MQ below (Qw (some (.int z.1)) D [(am, .inr (7, [.ref am0, .ref am1, .ref am2, .ref am3, .int z.2.1.1, .ref am4, .int z.2.1.2.1, .int z.2.1.2.2.1, .int z.2.1.2.2.2.1, .int z.2.1.2.2.2.2.1, .int z.2.1.2.2.2.2.2.1, .int z.2.1.2.2.2.2.2.2.1, .ref am5, .int z.2.1.2.2.2.2.2.2.2.1, .ref am6, .ref am7, .ref am8, .ref am9, .ref am10, .ref am11, .ref am12, .int z.2.1.2.2.2.2.2.2.2.2.1, .int z.2.1.2.2.2.2.2.2.2.2.2.1, .int z.2.1.2.2.2.2.2.2.2.2.2.2.1, .int z.2.1.2.2.2.2.2.2.2.2.2.2.2.1, .int z.2.1.2.2.2.2.2.2.2.2.2.2.2.2])), (am0, .inl (cy 0, 48, .inl z.2.2.1)), (am2, .inl (cy 0, 48, .inl z.2.2.2.1)), (am5, .inl (cy 0, 30, .inl z.2.2.2.2))] A) ([.ref am, .int x1, .int x2] : List Value).toArray s 0 0 A) (F0 m 35 ls []) := by
      refine lpW ?_
      intro k35 hk350
      have hk35 : ∀ (M_isHeld : Int32) (M_taped : Int32) (M_token : Int32) (M_from : Int32) (M_to : Int32) (M_value : Int32) (M_isWrong : Int32) (M_rowN : Int32) (M_ran : Int32) (M_actKind : Int32) (M_actN : Int32) (M_actA : Int32) (M_isParted : Int32) (u_s : (Nat → Int32)) (u_aside : (Nat → Int32)) (u_rows : (Nat → Int32)) (y3 : Int32), k35 ((M_isHeld, M_taped, M_token, M_from, M_to, M_value, M_isWrong, M_rowN, M_ran, M_actKind, M_actN, M_actA, M_isParted), u_s, u_aside, u_rows, y3) = some z → ∀ (H : Heap) (locs : List Loc), va_P D vwCl [(am, .inr (7, [.ref am0, .ref am1, .ref am2, .ref am3, .int M_isHeld, .ref am4, .int M_taped, .int M_token, .int M_from, .int M_to, .int M_value, .int M_isWrong, .ref am5, .int M_rowN, .ref am6, .ref am7, .ref am8, .ref am9, .ref am10, .ref am11, .ref am12, .int M_ran, .int M_actKind, .int M_actN, .int M_actA, .int M_isParted])), (am0, .inl (cy 0, 48, .inl u_s)), (am2, .inl (cy 0, 48, .inl u_aside)), (am5, .inl (cy 0, 30, .inl u_rows))] H → va_D A [(am, .inr (7, [.ref am0, .ref am1, .ref am2, .ref am3, .int M_isHeld, .ref am4, .int M_taped, .int M_token, .int M_from, .int M_to, .int M_value, .int M_isWrong, .ref am5, .int M_rowN, .ref am6, .ref am7, .ref am8, .ref am9, .ref am10, .ref am11, .ref am12, .int M_ran, .int M_actKind, .int M_actN, .int M_actA, .int M_isParted])), (am0, .inl (cy 0, 48, .inl u_s)), (am2, .inl (cy 0, 48, .inl u_aside)), (am5, .inl (cy 0, 30, .inl u_rows))] → va_S A s.heap H locs → ∀ (ls : Array Slot), lv_has ls 4 [(0, .ref am), (1, .int x1), (2, .int x2), (3, .int y3)] → W p l e (headSpec wsX7_prove ({ frames := 4, cells := 0, slots := 0, locals := 88 })).room s m ([.ref am, .int x1, .int x2] : List Value).toArray below meth c H locs 0 0 (MQ below (Qw (some (.int z.1)) D [(am, .inr (7, [.ref am0, .ref am1, .ref am2, .ref am3, .int z.2.1.1, .ref am4, .int z.2.1.2.1, .int z.2.1.2.2.1, .int z.2.1.2.2.2.1, .int z.2.1.2.2.2.2.1, .int z.2.1.2.2.2.2.2.1, .int z.2.1.2.2.2.2.2.2.1, .ref am5, .int z.2.1.2.2.2.2.2.2.2.1, .ref am6, .ref am7, .ref am8, .ref am9, .ref am10, .ref am11, .ref am12, .int z.2.1.2.2.2.2.2.2.2.2.1, .int z.2.1.2.2.2.2.2.2.2.2.2.1, .int z.2.1.2.2.2.2.2.2.2.2.2.2.1, .int z.2.1.2.2.2.2.2.2.2.2.2.2.2.1, .int z.2.1.2.2.2.2.2.2.2.2.2.2.2.2])), (am0, .inl (cy 0, 48, .inl z.2.2.1)), (am2, .inl (cy 0, 48, .inl z.2.2.2.1)), (am5, .inl (cy 0, 30, .inl z.2.2.2.2))] A) ([.ref am, .int x1, .int x2] : List Value).toArray s 0 0 A) (F0 m 35 ls []) := fun M_isHeld M_taped M_token M_from M_to M_value M_isWrong M_rowN M_ran M_actKind M_actN M_actA M_isParted u_s u_aside u_rows y3 h9 => hk350 ((M_isHeld, M_taped, M_token, M_from, M_to, M_value, M_isWrong, M_rowN, M_ran, M_actKind, M_actN, M_actA, M_isParted), u_s, u_aside, u_rows, y3) h9
      have hstep : ∀ (M_isHeld : Int32) (M_taped : Int32) (M_token : Int32) (M_from : Int32) (M_to : Int32) (M_value : Int32) (M_isWrong : Int32) (M_rowN : Int32) (M_ran : Int32) (M_actKind : Int32) (M_actN : Int32) (M_actA : Int32) (M_isParted : Int32) (u_s : (Nat → Int32)) (u_aside : (Nat → Int32)) (u_rows : (Nat → Int32)) (y3 : Int32), fX7_prove_F35 n x1 x2  k35 ((M_isHeld, M_taped, M_token, M_from, M_to, M_value, M_isWrong, M_rowN, M_ran, M_actKind, M_actN, M_actA, M_isParted), u_s, u_aside, u_rows, y3) = some z → ∀ (H : Heap) (locs : List Loc), va_P D vwCl [(am, .inr (7, [.ref am0, .ref am1, .ref am2, .ref am3, .int M_isHeld, .ref am4, .int M_taped, .int M_token, .int M_from, .int M_to, .int M_value, .int M_isWrong, .ref am5, .int M_rowN, .ref am6, .ref am7, .ref am8, .ref am9, .ref am10, .ref am11, .ref am12, .int M_ran, .int M_actKind, .int M_actN, .int M_actA, .int M_isParted])), (am0, .inl (cy 0, 48, .inl u_s)), (am2, .inl (cy 0, 48, .inl u_aside)), (am5, .inl (cy 0, 30, .inl u_rows))] H → va_D A [(am, .inr (7, [.ref am0, .ref am1, .ref am2, .ref am3, .int M_isHeld, .ref am4, .int M_taped, .int M_token, .int M_from, .int M_to, .int M_value, .int M_isWrong, .ref am5, .int M_rowN, .ref am6, .ref am7, .ref am8, .ref am9, .ref am10, .ref am11, .ref am12, .int M_ran, .int M_actKind, .int M_actN, .int M_actA, .int M_isParted])), (am0, .inl (cy 0, 48, .inl u_s)), (am2, .inl (cy 0, 48, .inl u_aside)), (am5, .inl (cy 0, 30, .inl u_rows))] → va_S A s.heap H locs → ∀ (ls : Array Slot), lv_has ls 4 [(0, .ref am), (1, .int x1), (2, .int x2), (3, .int y3)] → W p l e (headSpec wsX7_prove ({ frames := 4, cells := 0, slots := 0, locals := 88 })).room s m ([.ref am, .int x1, .int x2] : List Value).toArray below meth c H locs 0 0 (MQ below (Qw (some (.int z.1)) D [(am, .inr (7, [.ref am0, .ref am1, .ref am2, .ref am3, .int z.2.1.1, .ref am4, .int z.2.1.2.1, .int z.2.1.2.2.1, .int z.2.1.2.2.2.1, .int z.2.1.2.2.2.2.1, .int z.2.1.2.2.2.2.2.1, .int z.2.1.2.2.2.2.2.2.1, .ref am5, .int z.2.1.2.2.2.2.2.2.2.1, .ref am6, .ref am7, .ref am8, .ref am9, .ref am10, .ref am11, .ref am12, .int z.2.1.2.2.2.2.2.2.2.2.1, .int z.2.1.2.2.2.2.2.2.2.2.2.1, .int z.2.1.2.2.2.2.2.2.2.2.2.2.1, .int z.2.1.2.2.2.2.2.2.2.2.2.2.2.1, .int z.2.1.2.2.2.2.2.2.2.2.2.2.2.2])), (am0, .inl (cy 0, 48, .inl z.2.2.1)), (am2, .inl (cy 0, 48, .inl z.2.2.2.1)), (am5, .inl (cy 0, 30, .inl z.2.2.2.2))] A) ([.ref am, .int x1, .int x2] : List Value).toArray s 0 0 A) (F0 m 35 ls []) := by
        intro M_isHeld M_taped M_token M_from M_to M_value M_isWrong M_rowN M_ran M_actKind M_actN M_actA M_isParted u_s u_aside u_rows y3 hf H locs hP hD hS ls hl
        have hf : (if x2 ≤ y3 then ((fX7_copyRow n u_aside u_s).bind fun r104 => some (x2, (M_isHeld, M_taped, M_token, M_from, M_to, M_value, M_isWrong, x2, M_ran, M_actKind, M_actN, M_actA, M_isParted), r104, u_aside, u_rows)) else ((fX7_goesOn n (M_isHeld, M_taped, M_token, M_from, M_to, M_value, M_isWrong, M_rowN, M_ran, M_actKind, M_actN, M_actA, M_isParted) u_s).bind fun r41 => (fX7_its n (M_isHeld, M_taped, M_token, M_from, M_to, M_value, M_isWrong, M_rowN, M_ran, M_actKind, M_actN, M_actA, M_isParted) r41 x1 (2 : Int32)).bind fun r54 => if ((3 : Int32) * y3) < 0 ∨ 30 ≤ ((3 : Int32) * y3).toNatClampNeg then none else (fX7_its n (M_isHeld, M_taped, M_token, M_from, M_to, M_value, M_isWrong, M_rowN, M_ran, M_actKind, M_actN, M_actA, M_isParted) r41 x1 (3 : Int32)).bind fun r70 => if (((3 : Int32) * y3) + (1 : Int32)) < 0 ∨ 30 ≤ (((3 : Int32) * y3) + (1 : Int32)).toNatClampNeg then none else if (((3 : Int32) * y3) + (2 : Int32)) < 0 ∨ 30 ≤ (((3 : Int32) * y3) + (2 : Int32)).toNatClampNeg then none else k35 ((M_isHeld, M_taped, M_token, M_from, M_to, M_value, M_isWrong, M_rowN, M_ran, M_actKind, M_actN, M_actA, M_isParted), r41, u_aside, (upd (upd (upd u_rows ((3 : Int32) * y3).toNatClampNeg r54) (((3 : Int32) * y3) + (1 : Int32)).toNatClampNeg r70) (((3 : Int32) * y3) + (2 : Int32)).toNatClampNeg (r41 (3 : Int32).toNatClampNeg)), (y3 + (1 : Int32))))) = some z := hf
        refine lv_iload_n hx hb dX7_prove_35 rfl (lv_at hl 3 rfl) ?_
        refine lv_iload_n hx hb dX7_prove_36 rfl (lv_at hl 2 rfl) ?_
        refine lv_icmp_ge (tgt := 96) hx hb dX7_prove_37 (by decide) (fun c_37 => ?_) (fun c_37 => ?_)
        · have hf := zp hf c_37
          refine lv_aload_n hx hb dX7_prove_96 rfl (lv_at hl 0 rfl) ?_
          refine va_get (D := D) (ci := 7) (v := .ref am2) (C := RX7) (T := TX7) (N := 26) hx hb hts hin7 hown hK hP 0 rfl rfl 2 (by decide) fl16 (fun _ h9 => h9) rfl dX7_prove_97 ?_
          refine lv_aload_n hx hb dX7_prove_100 rfl (lv_at hl 0 rfl) ?_
          refine va_get (D := D) (ci := 7) (v := .ref am0) (C := RX7) (T := TX7) (N := 26) hx hb hts hin7 hown hK hP 0 rfl rfl 0 (by decide) fl7 (fun _ h9 => h9) rfl dX7_prove_101 ?_
          obtain ⟨r104, hc104, hf⟩ := zb hf
          refine zsw (o := none) (As := [.ref am2, .ref am0]) (rest := []) (stk := []) ⟨hx, hb, hml, hown, hts⟩ (mX7_copyRow l D cy st sk sv B am2 am0 _ n u_aside u_s r104 hc104) (va_cwS 2 hts gX7_prove_X7_copyRow rfl rfl rfl (by decide +kernel) ⟨Nat.le_of_ble_eq_true rfl, Nat.le_of_ble_eq_true rfl⟩) hG hS hAB hA hP hD [2, 1] (by decide) rfl rfl rfl rfl rfl hl.1 rfl (Nat.le_of_ble_eq_true rfl) dX7_prove_104 rfl (fun H locs hP hD hS => ?_)
          have hP : va_P D vwCl [(am, .inr (7, [.ref am0, .ref am1, .ref am2, .ref am3, .int M_isHeld, .ref am4, .int M_taped, .int M_token, .int M_from, .int M_to, .int M_value, .int M_isWrong, .ref am5, .int M_rowN, .ref am6, .ref am7, .ref am8, .ref am9, .ref am10, .ref am11, .ref am12, .int M_ran, .int M_actKind, .int M_actN, .int M_actA, .int M_isParted])), (am0, .inl (cy 0, 48, .inl r104)), (am2, .inl (cy 0, 48, .inl u_aside)), (am5, .inl (cy 0, 30, .inl u_rows))] H := hP
          have hD : va_D A [(am, .inr (7, [.ref am0, .ref am1, .ref am2, .ref am3, .int M_isHeld, .ref am4, .int M_taped, .int M_token, .int M_from, .int M_to, .int M_value, .int M_isWrong, .ref am5, .int M_rowN, .ref am6, .ref am7, .ref am8, .ref am9, .ref am10, .ref am11, .ref am12, .int M_ran, .int M_actKind, .int M_actN, .int M_actA, .int M_isParted])), (am0, .inl (cy 0, 48, .inl r104)), (am2, .inl (cy 0, 48, .inl u_aside)), (am5, .inl (cy 0, 30, .inl u_rows))] := hD
          refine lv_aload_n hx hb dX7_prove_107 rfl (lv_at hl 0 rfl) ?_
          refine lv_iload_n hx hb dX7_prove_108 rfl (lv_at hl 2 rfl) ?_
          refine va_put (D := D) (ci := 7) (v := .int x2) (ty := .int) (C := RX7) (T := TX7) (N := 26) hx hb hts hin7 tyX7 tyX7_ok nmX7 hown hK hP hD hS 0 rfl rfl 13 (by decide) fl140 (fun _ h9 => h9) rfl (by decide +kernel) rfl rfl (Nat.le_of_ble_eq_true rfl) dX7_prove_109 (fun H locs hP hD hS => ?_)
          have hP : va_P D vwCl [(am, .inr (7, [.ref am0, .ref am1, .ref am2, .ref am3, .int M_isHeld, .ref am4, .int M_taped, .int M_token, .int M_from, .int M_to, .int M_value, .int M_isWrong, .ref am5, .int x2, .ref am6, .ref am7, .ref am8, .ref am9, .ref am10, .ref am11, .ref am12, .int M_ran, .int M_actKind, .int M_actN, .int M_actA, .int M_isParted])), (am0, .inl (cy 0, 48, .inl r104)), (am2, .inl (cy 0, 48, .inl u_aside)), (am5, .inl (cy 0, 30, .inl u_rows))] H := hP
          have hD : va_D A [(am, .inr (7, [.ref am0, .ref am1, .ref am2, .ref am3, .int M_isHeld, .ref am4, .int M_taped, .int M_token, .int M_from, .int M_to, .int M_value, .int M_isWrong, .ref am5, .int x2, .ref am6, .ref am7, .ref am8, .ref am9, .ref am10, .ref am11, .ref am12, .int M_ran, .int M_actKind, .int M_actN, .int M_actA, .int M_isParted])), (am0, .inl (cy 0, 48, .inl r104)), (am2, .inl (cy 0, 48, .inl u_aside)), (am5, .inl (cy 0, 30, .inl u_rows))] := hD
          refine lv_iload_n hx hb dX7_prove_112 rfl (lv_at hl 2 rfl) ?_
          exact W.iret hx hb hr (fun t ht hW => hfin x2 M_isHeld M_taped M_token M_from M_to M_value M_isWrong x2 M_ran M_actKind M_actN M_actA M_isParted r104 u_aside u_rows hf _ t ht hP (hS.F ht)) hS.2.2 dX7_prove_113
        · have hf := zn hf c_37
          refine lv_aload_n hx hb dX7_prove_40 rfl (lv_at hl 0 rfl) ?_
          obtain ⟨r41, hc41, hf⟩ := zb hf
          refine zvw (o := none) (As := []) (rest := []) (stk := []) ⟨hx, hb, hml, hown, hts⟩ (mX7_goesOn l D cy st sk sv B am am0 am1 am2 am3 am4 am5 am6 am7 am8 am9 am10 am11 am12 _ n M_isHeld M_taped M_token M_from M_to M_value M_isWrong M_rowN M_ran M_actKind M_actN M_actA M_isParted u_s r41 hc41) (cwV 0 hts gX7_prove_X7_goesOn rfl rfl rfl (by decide +kernel) ⟨Nat.le_of_ble_eq_true rfl, Nat.le_of_ble_eq_true rfl⟩) hG hS hAB hA hP hD [0, 1] (by decide) rfl rfl rfl rfl 0 7 rfl rfl rfl rfl hl.1 rfl (Nat.le_of_ble_eq_true rfl) dX7_prove_41 rfl (fun H locs hP hD hS => ?_)
          have hP : va_P D vwCl [(am, .inr (7, [.ref am0, .ref am1, .ref am2, .ref am3, .int M_isHeld, .ref am4, .int M_taped, .int M_token, .int M_from, .int M_to, .int M_value, .int M_isWrong, .ref am5, .int M_rowN, .ref am6, .ref am7, .ref am8, .ref am9, .ref am10, .ref am11, .ref am12, .int M_ran, .int M_actKind, .int M_actN, .int M_actA, .int M_isParted])), (am0, .inl (cy 0, 48, .inl r41)), (am2, .inl (cy 0, 48, .inl u_aside)), (am5, .inl (cy 0, 30, .inl u_rows))] H := hP
          have hD : va_D A [(am, .inr (7, [.ref am0, .ref am1, .ref am2, .ref am3, .int M_isHeld, .ref am4, .int M_taped, .int M_token, .int M_from, .int M_to, .int M_value, .int M_isWrong, .ref am5, .int M_rowN, .ref am6, .ref am7, .ref am8, .ref am9, .ref am10, .ref am11, .ref am12, .int M_ran, .int M_actKind, .int M_actN, .int M_actA, .int M_isParted])), (am0, .inl (cy 0, 48, .inl r41)), (am2, .inl (cy 0, 48, .inl u_aside)), (am5, .inl (cy 0, 30, .inl u_rows))] := hD
          refine lv_aload_n hx hb dX7_prove_44 rfl (lv_at hl 0 rfl) ?_
          refine va_get (D := D) (ci := 7) (v := .ref am5) (C := RX7) (T := TX7) (N := 26) hx hb hts hin7 hown hK hP 0 rfl rfl 12 (by decide) fl25 (fun _ h9 => h9) rfl dX7_prove_45 ?_
          refine lv_iconst (v := (3 : Int32)) hx hb dX7_prove_48 (by decide) ?_
          refine lv_iload_n hx hb dX7_prove_49 rfl (lv_at hl 3 rfl) ?_
          refine lv_imul hx hb dX7_prove_50 ?_
          refine lv_aload_n hx hb dX7_prove_51 rfl (lv_at hl 0 rfl) ?_
          refine lv_iload_n hx hb dX7_prove_52 rfl (lv_at hl 1 rfl) ?_
          refine lv_iconst (v := (2 : Int32)) hx hb dX7_prove_53 (by decide) ?_
          obtain ⟨r54, hc54, hf⟩ := zb hf
          refine zvr (o := some (.int r54)) (As := [.int x1, .int (2 : Int32)]) (rest := [.int ((3 : Int32) * y3), .ref am5]) (stk := [.int r54, .int ((3 : Int32) * y3), .ref am5]) ⟨hx, hb, hml, hown, hts⟩ (mX7_its l D cy st sk sv B am am0 am1 am2 am3 am4 am5 am6 am7 am8 am9 am10 am11 am12 n M_isHeld M_taped M_token M_from M_to M_value M_isWrong M_rowN M_ran M_actKind M_actN M_actA M_isParted r41 x1 (2 : Int32) r54 hc54) (cwV 2 hts gX7_prove_X7_its rfl rfl rfl (by decide +kernel) ⟨Nat.le_of_ble_eq_true rfl, Nat.le_of_ble_eq_true rfl⟩) hG hS hAB hP [0, 1] rfl 0 7 rfl rfl rfl rfl hl.1 rfl (Nat.le_of_ble_eq_true rfl) dX7_prove_54 rfl ?_
          obtain ⟨h_57, hf⟩ := zg hf
          refine va_iast hx hb hK hP hD hS 3 0 rfl rfl h_57 dX7_prove_57 (fun H locs hP hD hS => ?_)
          have hP : va_P D vwCl [(am, .inr (7, [.ref am0, .ref am1, .ref am2, .ref am3, .int M_isHeld, .ref am4, .int M_taped, .int M_token, .int M_from, .int M_to, .int M_value, .int M_isWrong, .ref am5, .int M_rowN, .ref am6, .ref am7, .ref am8, .ref am9, .ref am10, .ref am11, .ref am12, .int M_ran, .int M_actKind, .int M_actN, .int M_actA, .int M_isParted])), (am0, .inl (cy 0, 48, .inl r41)), (am2, .inl (cy 0, 48, .inl u_aside)), (am5, .inl (cy 0, 30, .inl (upd u_rows ((3 : Int32) * y3).toNatClampNeg r54)))] H := hP
          have hD : va_D A [(am, .inr (7, [.ref am0, .ref am1, .ref am2, .ref am3, .int M_isHeld, .ref am4, .int M_taped, .int M_token, .int M_from, .int M_to, .int M_value, .int M_isWrong, .ref am5, .int M_rowN, .ref am6, .ref am7, .ref am8, .ref am9, .ref am10, .ref am11, .ref am12, .int M_ran, .int M_actKind, .int M_actN, .int M_actA, .int M_isParted])), (am0, .inl (cy 0, 48, .inl r41)), (am2, .inl (cy 0, 48, .inl u_aside)), (am5, .inl (cy 0, 30, .inl (upd u_rows ((3 : Int32) * y3).toNatClampNeg r54)))] := hD
          refine lv_aload_n hx hb dX7_prove_58 rfl (lv_at hl 0 rfl) ?_
          refine va_get (D := D) (ci := 7) (v := .ref am5) (C := RX7) (T := TX7) (N := 26) hx hb hts hin7 hown hK hP 0 rfl rfl 12 (by decide) fl25 (fun _ h9 => h9) rfl dX7_prove_59 ?_
          refine lv_iconst (v := (3 : Int32)) hx hb dX7_prove_62 (by decide) ?_
          refine lv_iload_n hx hb dX7_prove_63 rfl (lv_at hl 3 rfl) ?_
          refine lv_imul hx hb dX7_prove_64 ?_
          refine lv_iconst (v := (1 : Int32)) hx hb dX7_prove_65 (by decide) ?_
          refine lv_iadd hx hb dX7_prove_66 ?_
          refine lv_aload_n hx hb dX7_prove_67 rfl (lv_at hl 0 rfl) ?_
          refine lv_iload_n hx hb dX7_prove_68 rfl (lv_at hl 1 rfl) ?_
          refine lv_iconst (v := (3 : Int32)) hx hb dX7_prove_69 (by decide) ?_
          obtain ⟨r70, hc70, hf⟩ := zb hf
          refine zvr (o := some (.int r70)) (As := [.int x1, .int (3 : Int32)]) (rest := [.int (((3 : Int32) * y3) + (1 : Int32)), .ref am5]) (stk := [.int r70, .int (((3 : Int32) * y3) + (1 : Int32)), .ref am5]) ⟨hx, hb, hml, hown, hts⟩ (mX7_its l D cy st sk sv B am am0 am1 am2 am3 am4 am5 am6 am7 am8 am9 am10 am11 am12 n M_isHeld M_taped M_token M_from M_to M_value M_isWrong M_rowN M_ran M_actKind M_actN M_actA M_isParted r41 x1 (3 : Int32) r70 hc70) (cwV 2 hts gX7_prove_X7_its rfl rfl rfl (by decide +kernel) ⟨Nat.le_of_ble_eq_true rfl, Nat.le_of_ble_eq_true rfl⟩) hG hS hAB hP [0, 1] rfl 0 7 rfl rfl rfl rfl hl.1 rfl (Nat.le_of_ble_eq_true rfl) dX7_prove_70 rfl ?_
          obtain ⟨h_73, hf⟩ := zg hf
          refine va_iast hx hb hK hP hD hS 3 0 rfl rfl h_73 dX7_prove_73 (fun H locs hP hD hS => ?_)
          have hP : va_P D vwCl [(am, .inr (7, [.ref am0, .ref am1, .ref am2, .ref am3, .int M_isHeld, .ref am4, .int M_taped, .int M_token, .int M_from, .int M_to, .int M_value, .int M_isWrong, .ref am5, .int M_rowN, .ref am6, .ref am7, .ref am8, .ref am9, .ref am10, .ref am11, .ref am12, .int M_ran, .int M_actKind, .int M_actN, .int M_actA, .int M_isParted])), (am0, .inl (cy 0, 48, .inl r41)), (am2, .inl (cy 0, 48, .inl u_aside)), (am5, .inl (cy 0, 30, .inl (upd (upd u_rows ((3 : Int32) * y3).toNatClampNeg r54) (((3 : Int32) * y3) + (1 : Int32)).toNatClampNeg r70)))] H := hP
          have hD : va_D A [(am, .inr (7, [.ref am0, .ref am1, .ref am2, .ref am3, .int M_isHeld, .ref am4, .int M_taped, .int M_token, .int M_from, .int M_to, .int M_value, .int M_isWrong, .ref am5, .int M_rowN, .ref am6, .ref am7, .ref am8, .ref am9, .ref am10, .ref am11, .ref am12, .int M_ran, .int M_actKind, .int M_actN, .int M_actA, .int M_isParted])), (am0, .inl (cy 0, 48, .inl r41)), (am2, .inl (cy 0, 48, .inl u_aside)), (am5, .inl (cy 0, 30, .inl (upd (upd u_rows ((3 : Int32) * y3).toNatClampNeg r54) (((3 : Int32) * y3) + (1 : Int32)).toNatClampNeg r70)))] := hD
          refine lv_aload_n hx hb dX7_prove_74 rfl (lv_at hl 0 rfl) ?_
          refine va_get (D := D) (ci := 7) (v := .ref am5) (C := RX7) (T := TX7) (N := 26) hx hb hts hin7 hown hK hP 0 rfl rfl 12 (by decide) fl25 (fun _ h9 => h9) rfl dX7_prove_75 ?_
          refine lv_iconst (v := (3 : Int32)) hx hb dX7_prove_78 (by decide) ?_
          refine lv_iload_n hx hb dX7_prove_79 rfl (lv_at hl 3 rfl) ?_
          refine lv_imul hx hb dX7_prove_80 ?_
          refine lv_iconst (v := (2 : Int32)) hx hb dX7_prove_81 (by decide) ?_
          refine lv_iadd hx hb dX7_prove_82 ?_
          refine lv_aload_n hx hb dX7_prove_83 rfl (lv_at hl 0 rfl) ?_
          refine va_get (D := D) (ci := 7) (v := .ref am0) (C := RX7) (T := TX7) (N := 26) hx hb hts hin7 hown hK hP 0 rfl rfl 0 (by decide) fl7 (fun _ h9 => h9) rfl dX7_prove_84 ?_
          refine lv_iconst (v := (3 : Int32)) hx hb dX7_prove_87 (by decide) ?_
          refine va_iald hx hb hK hP 1 0 rfl rfl vi_3_48 dX7_prove_88 ?_
          obtain ⟨h_89, hf⟩ := zg hf
          refine va_iast hx hb hK hP hD hS 3 0 rfl rfl h_89 dX7_prove_89 (fun H locs hP hD hS => ?_)
          have hP : va_P D vwCl [(am, .inr (7, [.ref am0, .ref am1, .ref am2, .ref am3, .int M_isHeld, .ref am4, .int M_taped, .int M_token, .int M_from, .int M_to, .int M_value, .int M_isWrong, .ref am5, .int M_rowN, .ref am6, .ref am7, .ref am8, .ref am9, .ref am10, .ref am11, .ref am12, .int M_ran, .int M_actKind, .int M_actN, .int M_actA, .int M_isParted])), (am0, .inl (cy 0, 48, .inl r41)), (am2, .inl (cy 0, 48, .inl u_aside)), (am5, .inl (cy 0, 30, .inl (upd (upd (upd u_rows ((3 : Int32) * y3).toNatClampNeg r54) (((3 : Int32) * y3) + (1 : Int32)).toNatClampNeg r70) (((3 : Int32) * y3) + (2 : Int32)).toNatClampNeg (r41 (3 : Int32).toNatClampNeg))))] H := hP
          have hD : va_D A [(am, .inr (7, [.ref am0, .ref am1, .ref am2, .ref am3, .int M_isHeld, .ref am4, .int M_taped, .int M_token, .int M_from, .int M_to, .int M_value, .int M_isWrong, .ref am5, .int M_rowN, .ref am6, .ref am7, .ref am8, .ref am9, .ref am10, .ref am11, .ref am12, .int M_ran, .int M_actKind, .int M_actN, .int M_actA, .int M_isParted])), (am0, .inl (cy 0, 48, .inl r41)), (am2, .inl (cy 0, 48, .inl u_aside)), (am5, .inl (cy 0, 30, .inl (upd (upd (upd u_rows ((3 : Int32) * y3).toNatClampNeg r54) (((3 : Int32) * y3) + (1 : Int32)).toNatClampNeg r70) (((3 : Int32) * y3) + (2 : Int32)).toNatClampNeg (r41 (3 : Int32).toNatClampNeg))))] := hD
          refine lv_iinc (v := (y3 + (1 : Int32))) (lv' := [(3, .int (y3 + (1 : Int32))), (0, .ref am), (1, .int x1), (2, .int x2)]) hx hb dX7_prove_90 hl (k := 3) rfl rfl (by decide) rfl (fun ls hl => ?_)
          refine lv_goto (tgt := 35) hx hb dX7_prove_93 (by decide) ?_
          exact hk35 M_isHeld M_taped M_token M_from M_to M_value M_isWrong M_rowN M_ran M_actKind M_actN M_actA M_isParted r41 u_aside (upd (upd (upd u_rows ((3 : Int32) * y3).toNatClampNeg r54) (((3 : Int32) * y3) + (1 : Int32)).toNatClampNeg r70) (((3 : Int32) * y3) + (2 : Int32)).toNatClampNeg (r41 (3 : Int32).toNatClampNeg)) (y3 + (1 : Int32)) hf _ _ hP hD hS _ (lv_sub hl [1, 2, 3, 0] rfl)
      exact fun v35 h9 => hstep v35.1.1 v35.1.2.1 v35.1.2.2.1 v35.1.2.2.2.1 v35.1.2.2.2.2.1 v35.1.2.2.2.2.2.1 v35.1.2.2.2.2.2.2.1 v35.1.2.2.2.2.2.2.2.1 v35.1.2.2.2.2.2.2.2.2.1 v35.1.2.2.2.2.2.2.2.2.2.1 v35.1.2.2.2.2.2.2.2.2.2.2.1 v35.1.2.2.2.2.2.2.2.2.2.2.2.1 v35.1.2.2.2.2.2.2.2.2.2.2.2.2 v35.2.1 v35.2.2.1 v35.2.2.2.1 v35.2.2.2.2 h9
    exact fun n0 M_isHeld M_taped M_token M_from M_to M_value M_isWrong M_rowN M_ran M_actKind M_actN M_actA M_isParted u_s u_aside u_rows y3 h9 => key n0 ((M_isHeld, M_taped, M_token, M_from, M_to, M_value, M_isWrong, M_rowN, M_ran, M_actKind, M_actN, M_actA, M_isParted), u_s, u_aside, u_rows, y3) h9
  have hl := lv_entry ([.ref am, .int x1, .int x2]) (n := 4) (Nat.le_of_ble_eq_true rfl)
  rw [lg_entry_eq]
  generalize (lg_sl ([.ref am, .int x1, .int x2]) ++ List.replicate (4 - (lg_sl ([.ref am, .int x1, .int x2])).length) Slot.unset).toArray = ls at hl ⊢
  have hl : lv_has ls 4 [(0, .ref am), (1, .int x1), (2, .int x2)] := hl
  have hf : ((fX7_isOne n (M_isHeld, M_taped, M_token, M_from, M_to, M_value, M_isWrong, M_rowN, M_ran, M_actKind, M_actN, M_actA, M_isParted) u_s x1).bind fun r2 => if r2 = 0 then (some ((-1 : Int32), (M_isHeld, M_taped, M_token, M_from, M_to, M_value, M_isWrong, M_rowN, M_ran, M_actKind, M_actN, M_actA, M_isParted), u_s, u_aside, u_rows)) else ((fX7_isIn n x2.toInt64 (1 : Int64) (10 : Int64)).bind fun r14 => if r14 = 0 then (some ((-1 : Int32), (M_isHeld, M_taped, M_token, M_from, M_to, M_value, M_isWrong, M_rowN, M_ran, M_actKind, M_actN, M_actA, M_isParted), u_s, u_aside, u_rows)) else ((fX7_copyRow n u_s u_aside).bind fun r30 => lpF (fX7_prove_F35 n x1 x2 ) n ((M_isHeld, M_taped, M_token, M_from, M_to, M_value, M_isWrong, M_rowN, M_ran, M_actKind, M_actN, M_actA, M_isParted), u_s, r30, u_rows, (0 : Int32))))) = some z := hf
  refine lv_aload_n hx hb dX7_prove_0 rfl (lv_at hl 0 rfl) ?_
  refine lv_iload_n hx hb dX7_prove_1 rfl (lv_at hl 1 rfl) ?_
  obtain ⟨r2, hc2, hf⟩ := zb hf
  refine zvr (o := some (.int r2)) (As := [.int x1]) (rest := []) (stk := [.int r2]) ⟨hx, hb, hml, hown, hts⟩ (mX7_isOne l D cy st sk sv B am am0 am1 am2 am3 am4 am5 am6 am7 am8 am9 am10 am11 am12 n M_isHeld M_taped M_token M_from M_to M_value M_isWrong M_rowN M_ran M_actKind M_actN M_actA M_isParted u_s x1 r2 hc2) (cwV 1 hts gX7_prove_X7_isOne rfl rfl rfl (by decide +kernel) ⟨Nat.le_of_ble_eq_true rfl, Nat.le_of_ble_eq_true rfl⟩) hG hS hAB hP [0, 1] rfl 0 7 rfl rfl rfl rfl hl.1 rfl (Nat.le_of_ble_eq_true rfl) dX7_prove_2 rfl ?_
  refine lv_if_eq (tgt := 20) hx hb dX7_prove_5 (by decide) (fun c_5 => ?_) (fun c_5 => ?_)
  · have hf := zp hf c_5
    refine lv_iconst (v := (-1 : Int32)) hx hb dX7_prove_20 (by decide) ?_
    exact W.iret hx hb hr (fun t ht hW => hfin (-1 : Int32) M_isHeld M_taped M_token M_from M_to M_value M_isWrong M_rowN M_ran M_actKind M_actN M_actA M_isParted u_s u_aside u_rows hf _ t ht hP (hS.F ht)) hS.2.2 dX7_prove_21
  · have hf := zn hf c_5
    refine lv_iload_n hx hb dX7_prove_8 rfl (lv_at hl 2 rfl) ?_
    refine lv_i2l hx hb dX7_prove_9 rfl ?_
    refine lv_lconst (v := (1 : Int64)) hx hb dX7_prove_10 (by decide) ?_
    refine lv_ldc2 (v := (10 : Int64)) hx hb hown (hts (.constantLong RX7 268 (10)) (by decide +kernel)) dX7_prove_11 ?_
    obtain ⟨r14, hc14, hf⟩ := zb hf
    refine zsr (o := some (.int r14)) (As := [.long x2.toInt64, .long (1 : Int64), .long (10 : Int64)]) (rest := []) (stk := [.int r14]) ⟨hx, hb, hml, hown, hts⟩ (mX7_isIn l D cy st sk sv B  n x2.toInt64 (1 : Int64) (10 : Int64) r14 hc14) (va_cwS 3 hts gX7_prove_X7_isIn rfl rfl rfl (by decide +kernel) ⟨Nat.le_of_ble_eq_true rfl, Nat.le_of_ble_eq_true rfl⟩) hG hS hAB hP [] rfl rfl hl.1 rfl (Nat.le_of_ble_eq_true rfl) dX7_prove_14 rfl ?_
    refine lv_if_ne (tgt := 22) hx hb dX7_prove_17 (by decide) (fun c_17 => ?_) (fun c_17 => ?_)
    · have hf := zn hf c_17
      refine lv_aload_n hx hb dX7_prove_22 rfl (lv_at hl 0 rfl) ?_
      refine va_get (D := D) (ci := 7) (v := .ref am0) (C := RX7) (T := TX7) (N := 26) hx hb hts hin7 hown hK hP 0 rfl rfl 0 (by decide) fl7 (fun _ h9 => h9) rfl dX7_prove_23 ?_
      refine lv_aload_n hx hb dX7_prove_26 rfl (lv_at hl 0 rfl) ?_
      refine va_get (D := D) (ci := 7) (v := .ref am2) (C := RX7) (T := TX7) (N := 26) hx hb hts hin7 hown hK hP 0 rfl rfl 2 (by decide) fl16 (fun _ h9 => h9) rfl dX7_prove_27 ?_
      obtain ⟨r30, hc30, hf⟩ := zb hf
      refine zsw (o := none) (As := [.ref am0, .ref am2]) (rest := []) (stk := []) ⟨hx, hb, hml, hown, hts⟩ (mX7_copyRow l D cy st sk sv B am0 am2 _ n u_s u_aside r30 hc30) (va_cwS 2 hts gX7_prove_X7_copyRow rfl rfl rfl (by decide +kernel) ⟨Nat.le_of_ble_eq_true rfl, Nat.le_of_ble_eq_true rfl⟩) hG hS hAB hA hP hD [1, 2] (by decide) rfl rfl rfl rfl rfl hl.1 rfl (Nat.le_of_ble_eq_true rfl) dX7_prove_30 rfl (fun H locs hP hD hS => ?_)
      have hP : va_P D vwCl [(am, .inr (7, [.ref am0, .ref am1, .ref am2, .ref am3, .int M_isHeld, .ref am4, .int M_taped, .int M_token, .int M_from, .int M_to, .int M_value, .int M_isWrong, .ref am5, .int M_rowN, .ref am6, .ref am7, .ref am8, .ref am9, .ref am10, .ref am11, .ref am12, .int M_ran, .int M_actKind, .int M_actN, .int M_actA, .int M_isParted])), (am0, .inl (cy 0, 48, .inl u_s)), (am2, .inl (cy 0, 48, .inl r30)), (am5, .inl (cy 0, 30, .inl u_rows))] H := hP
      have hD : va_D A [(am, .inr (7, [.ref am0, .ref am1, .ref am2, .ref am3, .int M_isHeld, .ref am4, .int M_taped, .int M_token, .int M_from, .int M_to, .int M_value, .int M_isWrong, .ref am5, .int M_rowN, .ref am6, .ref am7, .ref am8, .ref am9, .ref am10, .ref am11, .ref am12, .int M_ran, .int M_actKind, .int M_actN, .int M_actA, .int M_isParted])), (am0, .inl (cy 0, 48, .inl u_s)), (am2, .inl (cy 0, 48, .inl r30)), (am5, .inl (cy 0, 30, .inl u_rows))] := hD
      refine lv_iconst (v := (0 : Int32)) hx hb dX7_prove_33 (by decide) ?_
      refine lv_istore_n (lv' := [(3, .int (0 : Int32)), (0, .ref am), (1, .int x1), (2, .int x2)]) hx hb dX7_prove_34 rfl hl (by decide) rfl (fun ls hl => ?_)
      exact hL35 n M_isHeld M_taped M_token M_from M_to M_value M_isWrong M_rowN M_ran M_actKind M_actN M_actA M_isParted u_s r30 u_rows (0 : Int32) hf _ _ hP hD hS _ (lv_sub hl [1, 2, 3, 0] rfl)
    · have hf := zp hf c_17
      refine lv_iconst (v := (-1 : Int32)) hx hb dX7_prove_20 (by decide) ?_
      exact W.iret hx hb hr (fun t ht hW => hfin (-1 : Int32) M_isHeld M_taped M_token M_from M_to M_value M_isWrong M_rowN M_ran M_actKind M_actN M_actA M_isParted u_s u_aside u_rows hf _ t ht hP (hS.F ht)) hS.2.2 dX7_prove_21
set_option maxRecDepth 100000 in
set_option maxHeartbeats 100000000 in
theorem mX7_isRow (l : Launch) (D : va_G) (cy : Nat → ClassId) (st sk sv : Nat → Nat) (B : Nat) (am : Nat) (am0 : Nat) (am1 : Nat) (am2 : Nat) (am3 : Nat) (am4 : Nat) (am5 : Nat) (am6 : Nat) (am7 : Nat) (am8 : Nat) (am9 : Nat) (am10 : Nat) (am11 : Nat) (am12 : Nat) (n : Nat) (M_isHeld : Int32) (M_taped : Int32) (M_token : Int32) (M_from : Int32) (M_to : Int32) (M_value : Int32) (M_isWrong : Int32) (M_rowN : Int32) (M_ran : Int32) (M_actKind : Int32) (M_actN : Int32) (M_actA : Int32) (M_isParted : Int32) (x1 : Int32) (x2 : Int32) (z : Int32) (hf : fX7_isRow n (M_isHeld, M_taped, M_token, M_from, M_to, M_value, M_isWrong, M_rowN, M_ran, M_actKind, M_actN, M_actA, M_isParted) x1 x2 = some z) : Met l yX7_isRow wsX7_isRow ({ frames := 1, cells := 0, slots := 0, locals := 25 }) (PcR [.ref am, .int x1, .int x2] D cy st sk sv B [(am, .inr (7, [.ref am0, .ref am1, .ref am2, .ref am3, .int M_isHeld, .ref am4, .int M_taped, .int M_token, .int M_from, .int M_to, .int M_value, .int M_isWrong, .ref am5, .int M_rowN, .ref am6, .ref am7, .ref am8, .ref am9, .ref am10, .ref am11, .ref am12, .int M_ran, .int M_actKind, .int M_actN, .int M_actA, .int M_isParted]))]) (Qr (some (.int z))) 0 0 (fun _ => False) := by
  refine Met.ofW (cc := cX7_isRow) (maxL := 3) (ret := (some .boolean)) (by decide) rfl ?_
  intro p e s m args below meth c s₁ Bd hml hv
  obtain ⟨rfl, hP, hG⟩ := hv
  have hx := Bd.exec
  have hb := Bd.bytes
  have hr := Bd.returns
  have hts := atoms_spec (ws := wsX7_isRow) Bd.pre
  have hown : s.vm.findClass RX7 = some m.cls := findClass_of_methodNamed Bd.named
  have hlocks := Bd.notSynchronized
  have hK := hG.1
  have hS : va_S (fun q => B ≤ q) s.heap s.heap [] := va_S.rf
  have hAB : ∀ q, (fun q => B ≤ q) q → B ≤ q := fun _ h => h
  have hin7 : ∀ w ∈ u_ws RX7 TX7 26, w ∈ wsX7_isRow := by decide +kernel
  have fl140 := hts (.fieldLink RX7 140 "KinCutleryModel" "rowN" "I") (by decide +kernel)
  have hl := lv_entry ([.ref am, .int x1, .int x2]) (n := 3) (Nat.le_of_ble_eq_true rfl)
  rw [lg_entry_eq]
  generalize (lg_sl ([.ref am, .int x1, .int x2]) ++ List.replicate (3 - (lg_sl ([.ref am, .int x1, .int x2])).length) Slot.unset).toArray = ls at hl ⊢
  have hl : lv_has ls 3 [(0, .ref am), (1, .int x1), (2, .int x2)] := hl
  have hf : ((fX7_isIn n x1.toInt64 (0 : Int64) ((M_rowN - (1 : Int32)).toInt64)).bind fun r10 => if r10 = 0 then (some (0 : Int32)) else ((fX7_isIn n x2.toInt64 (0 : Int64) (2 : Int64)).bind fun r22 => if r22 = 0 then (some (0 : Int32)) else (some (1 : Int32)))) = some z := hf
  refine lv_iload_n hx hb dX7_isRow_0 rfl (lv_at hl 1 rfl) ?_
  refine lv_i2l hx hb dX7_isRow_1 rfl ?_
  refine lv_lconst (v := (0 : Int64)) hx hb dX7_isRow_2 (by decide) ?_
  refine lv_aload_n hx hb dX7_isRow_3 rfl (lv_at hl 0 rfl) ?_
  refine va_get (D := D) (ci := 7) (v := .int M_rowN) (C := RX7) (T := TX7) (N := 26) hx hb hts hin7 hown hK hP 0 rfl rfl 13 (by decide) fl140 (fun _ h9 => h9) rfl dX7_isRow_4 ?_
  refine lv_iconst (v := (1 : Int32)) hx hb dX7_isRow_7 (by decide) ?_
  refine lv_isub hx hb dX7_isRow_8 ?_
  refine lv_i2l hx hb dX7_isRow_9 rfl ?_
  obtain ⟨r10, hc10, hf⟩ := zb hf
  refine zsr (o := some (.int r10)) (As := [.long x1.toInt64, .long (0 : Int64), .long (M_rowN - (1 : Int32)).toInt64]) (rest := []) (stk := [.int r10]) ⟨hx, hb, hml, hown, hts⟩ (mX7_isIn l D cy st sk sv B  n x1.toInt64 (0 : Int64) ((M_rowN - (1 : Int32)).toInt64) r10 hc10) (va_cwS 3 hts gX7_isRow_X7_isIn rfl rfl rfl (by decide +kernel) ⟨Nat.le_of_ble_eq_true rfl, Nat.le_of_ble_eq_true rfl⟩) hG hS hAB hP [] rfl rfl hl.1 rfl (Nat.le_of_ble_eq_true rfl) dX7_isRow_10 rfl ?_
  refine lv_if_eq (tgt := 32) hx hb dX7_isRow_13 (by decide) (fun c_13 => ?_) (fun c_13 => ?_)
  · have hf := zp hf c_13
    refine lv_iconst (v := (0 : Int32)) hx hb dX7_isRow_32 (by decide) ?_
    cases hf
    exact W.zret hx hb hr rfl (fun t ht hW => ⟨rfl, ht⟩) (fun q h => absurd h List.not_mem_nil) dX7_isRow_33
  · have hf := zn hf c_13
    refine lv_iload_n hx hb dX7_isRow_16 rfl (lv_at hl 2 rfl) ?_
    refine lv_i2l hx hb dX7_isRow_17 rfl ?_
    refine lv_lconst (v := (0 : Int64)) hx hb dX7_isRow_18 (by decide) ?_
    refine lv_ldc2 (v := (2 : Int64)) hx hb hown (hts (.constantLong RX7 167 (2)) (by decide +kernel)) dX7_isRow_19 ?_
    obtain ⟨r22, hc22, hf⟩ := zb hf
    refine zsr (o := some (.int r22)) (As := [.long x2.toInt64, .long (0 : Int64), .long (2 : Int64)]) (rest := []) (stk := [.int r22]) ⟨hx, hb, hml, hown, hts⟩ (mX7_isIn l D cy st sk sv B  n x2.toInt64 (0 : Int64) (2 : Int64) r22 hc22) (va_cwS 3 hts gX7_isRow_X7_isIn rfl rfl rfl (by decide +kernel) ⟨Nat.le_of_ble_eq_true rfl, Nat.le_of_ble_eq_true rfl⟩) hG hS hAB hP [] rfl rfl hl.1 rfl (Nat.le_of_ble_eq_true rfl) dX7_isRow_22 rfl ?_
    refine lv_if_eq (tgt := 32) hx hb dX7_isRow_25 (by decide) (fun c_25 => ?_) (fun c_25 => ?_)
    · have hf := zp hf c_25
      refine lv_iconst (v := (0 : Int32)) hx hb dX7_isRow_32 (by decide) ?_
      cases hf
      exact W.zret hx hb hr rfl (fun t ht hW => ⟨rfl, ht⟩) (fun q h => absurd h List.not_mem_nil) dX7_isRow_33
    · have hf := zn hf c_25
      refine lv_iconst (v := (1 : Int32)) hx hb dX7_isRow_28 (by decide) ?_
      refine lv_goto (tgt := 33) hx hb dX7_isRow_29 (by decide) ?_
      cases hf
      exact W.zret hx hb hr rfl (fun t ht hW => ⟨rfl, ht⟩) (fun q h => absurd h List.not_mem_nil) dX7_isRow_33
