set_option maxRecDepth 100000 in
set_option maxHeartbeats 100000000 in
theorem mX7_minds (l : Launch) (D : va_G) (cy : Nat → ClassId) (st sk sv : Nat → Nat) (B : Nat) (am : Nat) (am0 : Nat) (am1 : Nat) (am2 : Nat) (am3 : Nat) (am4 : Nat) (am5 : Nat) (am6 : Nat) (am7 : Nat) (am8 : Nat) (am9 : Nat) (am10 : Nat) (am11 : Nat) (am12 : Nat) (sz : Nat) (n : Nat) (M_isHeld : Int32) (M_taped : Int32) (M_token : Int32) (M_from : Int32) (M_to : Int32) (M_value : Int32) (M_isWrong : Int32) (M_rowN : Int32) (M_ran : Int32) (M_actKind : Int32) (M_actN : Int32) (M_actA : Int32) (M_isParted : Int32) (u_s : (Nat → Int32)) (u_sortOf : (Nat → Int32)) (u_sizeOf : (Nat → Int32)) (u_numbers : (Nat → Int32)) (x1 : Int32) (x2 : Int32) (x3 : Int32) (x4 : Int32) (z : Int32 × (Nat → Int32)) (hf : fX7_minds n (M_isHeld, M_taped, M_token, M_from, M_to, M_value, M_isWrong, M_rowN, M_ran, M_actKind, M_actN, M_actA, M_isParted) u_s u_sortOf u_sizeOf u_numbers x1 x2 x3 x4 = some z) : Met l yX7_minds wsX7_minds ({ frames := 2, cells := 0, slots := 0, locals := 45 }) (PcW [.ref am, .int x1, .int x2, .int x3, .int x4] D cy st sk sv B sz [(am, .inr (7, [.ref am0, .ref am1, .ref am2, .ref am3, .int M_isHeld, .ref am4, .int M_taped, .int M_token, .int M_from, .int M_to, .int M_value, .int M_isWrong, .ref am5, .int M_rowN, .ref am6, .ref am7, .ref am8, .ref am9, .ref am10, .ref am11, .ref am12, .int M_ran, .int M_actKind, .int M_actN, .int M_actA, .int M_isParted])), (am0, .inl (cy 0, 48, .inl u_s)), (am6, .inl (cy 0, 4, .inl u_sortOf)), (am7, .inl (cy 0, 4, .inl u_sizeOf)), (am8, .inl (cy 0, 160, .inl u_numbers))]) (Qw (some (.int z.1)) D [(am, .inr (7, [.ref am0, .ref am1, .ref am2, .ref am3, .int M_isHeld, .ref am4, .int M_taped, .int M_token, .int M_from, .int M_to, .int M_value, .int M_isWrong, .ref am5, .int M_rowN, .ref am6, .ref am7, .ref am8, .ref am9, .ref am10, .ref am11, .ref am12, .int M_ran, .int M_actKind, .int M_actN, .int M_actA, .int M_isParted])), (am0, .inl (cy 0, 48, .inl z.2)), (am6, .inl (cy 0, 4, .inl u_sortOf)), (am7, .inl (cy 0, 4, .inl u_sizeOf)), (am8, .inl (cy 0, 160, .inl u_numbers))] (va_A [(am, .inr (7, [.ref am0, .ref am1, .ref am2, .ref am3, .int M_isHeld, .ref am4, .int M_taped, .int M_token, .int M_from, .int M_to, .int M_value, .int M_isWrong, .ref am5, .int M_rowN, .ref am6, .ref am7, .ref am8, .ref am9, .ref am10, .ref am11, .ref am12, .int M_ran, .int M_actKind, .int M_actN, .int M_actA, .int M_isParted])), (am0, .inl (cy 0, 48, .inl u_s)), (am6, .inl (cy 0, 4, .inl u_sortOf)), (am7, .inl (cy 0, 4, .inl u_sizeOf)), (am8, .inl (cy 0, 160, .inl u_numbers))] sz)) 0 0 (va_A [(am, .inr (7, [.ref am0, .ref am1, .ref am2, .ref am3, .int M_isHeld, .ref am4, .int M_taped, .int M_token, .int M_from, .int M_to, .int M_value, .int M_isWrong, .ref am5, .int M_rowN, .ref am6, .ref am7, .ref am8, .ref am9, .ref am10, .ref am11, .ref am12, .int M_ran, .int M_actKind, .int M_actN, .int M_actA, .int M_isParted])), (am0, .inl (cy 0, 48, .inl u_s)), (am6, .inl (cy 0, 4, .inl u_sortOf)), (am7, .inl (cy 0, 4, .inl u_sizeOf)), (am8, .inl (cy 0, 160, .inl u_numbers))] sz) := by
  refine Met.ofW (cc := cX7_minds) (maxL := 6) (ret := (some .int)) (by decide) rfl ?_
  intro p e s m args below meth c s₁ Bd hml hv
  obtain ⟨rfl, hsz, hP, hD0, hBs, hG⟩ := hv
  have hx := Bd.exec
  have hb := Bd.bytes
  have hr := Bd.returns
  have hts := atoms_spec (ws := wsX7_minds) Bd.pre
  have hown : s.vm.findClass RX7 = some m.cls := findClass_of_methodNamed Bd.named
  have hlocks := Bd.notSynchronized
  have hK := hG.1
  subst hsz
  have hD := hD0.self (sz := s.heap.size)
  have hAB0 := zA hD0 hBs
  generalize hAe : va_A [(am, .inr (7, [.ref am0, .ref am1, .ref am2, .ref am3, .int M_isHeld, .ref am4, .int M_taped, .int M_token, .int M_from, .int M_to, .int M_value, .int M_isWrong, .ref am5, .int M_rowN, .ref am6, .ref am7, .ref am8, .ref am9, .ref am10, .ref am11, .ref am12, .int M_ran, .int M_actKind, .int M_actN, .int M_actA, .int M_isParted])), (am0, .inl (cy 0, 48, .inl u_s)), (am6, .inl (cy 0, 4, .inl u_sortOf)), (am7, .inl (cy 0, 4, .inl u_sizeOf)), (am8, .inl (cy 0, 160, .inl u_numbers))] s.heap.size = A at hD hAB0 ⊢
  have hA : ∀ q : Nat, s.heap.size ≤ q → A q := fun q h => by rw [← hAe]; exact Or.inr h
  have hAB : ∀ q, A q → B ≤ q := hAB0
  have hS : va_S A s.heap s.heap [] := va_S.rf
  have hfin : ∀ (z0 : Int32) (u_s : (Nat → Int32)), some (z0, u_s) = some z → ∀ (H : Heap) (t : State), t.heap = H → va_P D vwCl [(am, .inr (7, [.ref am0, .ref am1, .ref am2, .ref am3, .int M_isHeld, .ref am4, .int M_taped, .int M_token, .int M_from, .int M_to, .int M_value, .int M_isWrong, .ref am5, .int M_rowN, .ref am6, .ref am7, .ref am8, .ref am9, .ref am10, .ref am11, .ref am12, .int M_ran, .int M_actKind, .int M_actN, .int M_actA, .int M_isParted])), (am0, .inl (cy 0, 48, .inl u_s)), (am6, .inl (cy 0, 4, .inl u_sortOf)), (am7, .inl (cy 0, 4, .inl u_sizeOf)), (am8, .inl (cy 0, 160, .inl u_numbers))] H → va_F A s t → Qw (some (.int z.1)) D [(am, .inr (7, [.ref am0, .ref am1, .ref am2, .ref am3, .int M_isHeld, .ref am4, .int M_taped, .int M_token, .int M_from, .int M_to, .int M_value, .int M_isWrong, .ref am5, .int M_rowN, .ref am6, .ref am7, .ref am8, .ref am9, .ref am10, .ref am11, .ref am12, .int M_ran, .int M_actKind, .int M_actN, .int M_actA, .int M_isParted])), (am0, .inl (cy 0, 48, .inl z.2)), (am6, .inl (cy 0, 4, .inl u_sortOf)), (am7, .inl (cy 0, 4, .inl u_sizeOf)), (am8, .inl (cy 0, 160, .inl u_numbers))] A ([.ref am, .int x1, .int x2, .int x3, .int x4] : List Value).toArray s (.returned (some (.int z0))) t := by
    intro z0 u_s h9 H t ht hP hF
    cases h9
    exact ⟨rfl, by rw [ht]; exact hP, hF⟩
  have hin7 : ∀ w ∈ u_ws RX7 TX7 26, w ∈ wsX7_minds := by decide +kernel
  have fl7 := hts (.fieldLink RX7 7 "KinCutleryModel" "s" "[I") (by decide +kernel)
  have fl31 := hts (.fieldLink RX7 31 "KinCutleryModel" "sizeOf" "[I") (by decide +kernel)
  have fl34 := hts (.fieldLink RX7 34 "KinCutleryModel" "numbers" "[I") (by decide +kernel)
  have hL98 : ∀ (n0 : Nat) (u_s : (Nat → Int32)) (y5 : Int32), lpF (fX7_minds_F98 n (M_isHeld, M_taped, M_token, M_from, M_to, M_value, M_isWrong, M_rowN, M_ran, M_actKind, M_actN, M_actA, M_isParted) u_sortOf u_sizeOf u_numbers x1 x2 x3 x4 ) n0 (u_s, y5) = some z → ∀ (H : Heap) (locs : List Loc), va_P D vwCl [(am, .inr (7, [.ref am0, .ref am1, .ref am2, .ref am3, .int M_isHeld, .ref am4, .int M_taped, .int M_token, .int M_from, .int M_to, .int M_value, .int M_isWrong, .ref am5, .int M_rowN, .ref am6, .ref am7, .ref am8, .ref am9, .ref am10, .ref am11, .ref am12, .int M_ran, .int M_actKind, .int M_actN, .int M_actA, .int M_isParted])), (am0, .inl (cy 0, 48, .inl u_s)), (am6, .inl (cy 0, 4, .inl u_sortOf)), (am7, .inl (cy 0, 4, .inl u_sizeOf)), (am8, .inl (cy 0, 160, .inl u_numbers))] H → va_D A [(am, .inr (7, [.ref am0, .ref am1, .ref am2, .ref am3, .int M_isHeld, .ref am4, .int M_taped, .int M_token, .int M_from, .int M_to, .int M_value, .int M_isWrong, .ref am5, .int M_rowN, .ref am6, .ref am7, .ref am8, .ref am9, .ref am10, .ref am11, .ref am12, .int M_ran, .int M_actKind, .int M_actN, .int M_actA, .int M_isParted])), (am0, .inl (cy 0, 48, .inl u_s)), (am6, .inl (cy 0, 4, .inl u_sortOf)), (am7, .inl (cy 0, 4, .inl u_sizeOf)), (am8, .inl (cy 0, 160, .inl u_numbers))] → va_S A s.heap H locs → ∀ (ls : Array Slot), lv_has ls 6 [(0, .ref am), (1, .int x1), (2, .int x2), (3, .int x3), (4, .int x4), (5, .int y5)] → W p l e (headSpec wsX7_minds ({ frames := 2, cells := 0, slots := 0, locals := 45 })).room s m ([.ref am, .int x1, .int x2, .int x3, .int x4] : List Value).toArray below meth c H locs 0 0 (MQ below (Qw (some (.int z.1)) D [(am, .inr (7, [.ref am0, .ref am1, .ref am2, .ref am3, .int M_isHeld, .ref am4, .int M_taped, .int M_token, .int M_from, .int M_to, .int M_value, .int M_isWrong, .ref am5, .int M_rowN, .ref am6, .ref am7, .ref am8, .ref am9, .ref am10, .ref am11, .ref am12, .int M_ran, .int M_actKind, .int M_actN, .int M_actA, .int M_isParted])), (am0, .inl (cy 0, 48, .inl z.2)), (am6, .inl (cy 0, 4, .inl u_sortOf)), (am7, .inl (cy 0, 4, .inl u_sizeOf)), (am8, .inl (cy 0, 160, .inl u_numbers))] A) ([.ref am, .int x1, .int x2, .int x3, .int x4] : List Value).toArray s 0 0 A) (F0 m 98 ls []) := by
    have key : ∀ (n0 : Nat) (v98 : (Nat → Int32) × Int32), lpF (fX7_minds_F98 n (M_isHeld, M_taped, M_token, M_from, M_to, M_value, M_isWrong, M_rowN, M_ran, M_actKind, M_actN, M_actA, M_isParted) u_sortOf u_sizeOf u_numbers x1 x2 x3 x4 ) n0 v98 = some z → ∀ (H : Heap) (locs : List Loc), va_P D vwCl [(am, .inr (7, [.ref am0, .ref am1, .ref am2, .ref am3, .int M_isHeld, .ref am4, .int M_taped, .int M_token, .int M_from, .int M_to, .int M_value, .int M_isWrong, .ref am5, .int M_rowN, .ref am6, .ref am7, .ref am8, .ref am9, .ref am10, .ref am11, .ref am12, .int M_ran, .int M_actKind, .int M_actN, .int M_actA, .int M_isParted])), (am0, .inl (cy 0, 48, .inl v98.1)), (am6, .inl (cy 0, 4, .inl u_sortOf)), (am7, .inl (cy 0, 4, .inl u_sizeOf)), (am8, .inl (cy 0, 160, .inl u_numbers))] H → va_D A [(am, .inr (7, [.ref am0, .ref am1, .ref am2, .ref am3, .int M_isHeld, .ref am4, .int M_taped, .int M_token, .int M_from, .int M_to, .int M_value, .int M_isWrong, .ref am5, .int M_rowN, .ref am6, .ref am7, .ref am8, .ref am9, .ref am10, .ref am11, .ref am12, .int M_ran, .int M_actKind, .int M_actN, .int M_actA, .int M_isParted])), (am0, .inl (cy 0, 48, .inl v98.1)), (am6, .inl (cy 0, 4, .inl u_sortOf)), (am7, .inl (cy 0, 4, .inl u_sizeOf)), (am8, .inl (cy 0, 160, .inl u_numbers))] → va_S A s.heap H locs → ∀ (ls : Array Slot), lv_has ls 6 [(0, .ref am), (1, .int x1), (2, .int x2), (3, .int x3), (4, .int x4), (5, .int v98.2)] → W p l e (headSpec wsX7_minds ({ frames := 2, cells := 0, slots := 0, locals := 45 })).room s m ([.ref am, .int x1, .int x2, .int x3, .int x4] : List Value).toArray below meth c H locs 0 0 (MQ below (Qw (some (.int z.1)) D [(am, .inr (7, [.ref am0, .ref am1, .ref am2, .ref am3, .int M_isHeld, .ref am4, .int M_taped, .int M_token, .int M_from, .int M_to, .int M_value, .int M_isWrong, .ref am5, .int M_rowN, .ref am6, .ref am7, .ref am8, .ref am9, .ref am10, .ref am11, .ref am12, .int M_ran, .int M_actKind, .int M_actN, .int M_actA, .int M_isParted])), (am0, .inl (cy 0, 48, .inl z.2)), (am6, .inl (cy 0, 4, .inl u_sortOf)), (am7, .inl (cy 0, 4, .inl u_sizeOf)), (am8, .inl (cy 0, 160, .inl u_numbers))] A) ([.ref am, .int x1, .int x2, .int x3, .int x4] : List Value).toArray s 0 0 A) (F0 m 98 ls []) := by
      refine lpW ?_
      intro k98 hk980
      have hk98 : ∀ (u_s : (Nat → Int32)) (y5 : Int32), k98 (u_s, y5) = some z → ∀ (H : Heap) (locs : List Loc), va_P D vwCl [(am, .inr (7, [.ref am0, .ref am1, .ref am2, .ref am3, .int M_isHeld, .ref am4, .int M_taped, .int M_token, .int M_from, .int M_to, .int M_value, .int M_isWrong, .ref am5, .int M_rowN, .ref am6, .ref am7, .ref am8, .ref am9, .ref am10, .ref am11, .ref am12, .int M_ran, .int M_actKind, .int M_actN, .int M_actA, .int M_isParted])), (am0, .inl (cy 0, 48, .inl u_s)), (am6, .inl (cy 0, 4, .inl u_sortOf)), (am7, .inl (cy 0, 4, .inl u_sizeOf)), (am8, .inl (cy 0, 160, .inl u_numbers))] H → va_D A [(am, .inr (7, [.ref am0, .ref am1, .ref am2, .ref am3, .int M_isHeld, .ref am4, .int M_taped, .int M_token, .int M_from, .int M_to, .int M_value, .int M_isWrong, .ref am5, .int M_rowN, .ref am6, .ref am7, .ref am8, .ref am9, .ref am10, .ref am11, .ref am12, .int M_ran, .int M_actKind, .int M_actN, .int M_actA, .int M_isParted])), (am0, .inl (cy 0, 48, .inl u_s)), (am6, .inl (cy 0, 4, .inl u_sortOf)), (am7, .inl (cy 0, 4, .inl u_sizeOf)), (am8, .inl (cy 0, 160, .inl u_numbers))] → va_S A s.heap H locs → ∀ (ls : Array Slot), lv_has ls 6 [(0, .ref am), (1, .int x1), (2, .int x2), (3, .int x3), (4, .int x4), (5, .int y5)] → W p l e (headSpec wsX7_minds ({ frames := 2, cells := 0, slots := 0, locals := 45 })).room s m ([.ref am, .int x1, .int x2, .int x3, .int x4] : List Value).toArray below meth c H locs 0 0 (MQ below (Qw (some (.int z.1)) D [(am, .inr (7, [.ref am0, .ref am1, .ref am2, .ref am3, .int M_isHeld, .ref am4, .int M_taped, .int M_token, .int M_from, .int M_to, .int M_value, .int M_isWrong, .ref am5, .int M_rowN, .ref am6, .ref am7, .ref am8, .ref am9, .ref am10, .ref am11, .ref am12, .int M_ran, .int M_actKind, .int M_actN, .int M_actA, .int M_isParted])), (am0, .inl (cy 0, 48, .inl z.2)), (am6, .inl (cy 0, 4, .inl u_sortOf)), (am7, .inl (cy 0, 4, .inl u_sizeOf)), (am8, .inl (cy 0, 160, .inl u_numbers))] A) ([.ref am, .int x1, .int x2, .int x3, .int x4] : List Value).toArray s 0 0 A) (F0 m 98 ls []) := fun u_s y5 h9 => hk980 (u_s, y5) h9
      have hstep : ∀ (u_s : (Nat → Int32)) (y5 : Int32), fX7_minds_F98 n (M_isHeld, M_taped, M_token, M_from, M_to, M_value, M_isWrong, M_rowN, M_ran, M_actKind, M_actN, M_actA, M_isParted) u_sortOf u_sizeOf u_numbers x1 x2 x3 x4  k98 (u_s, y5) = some z → ∀ (H : Heap) (locs : List Loc), va_P D vwCl [(am, .inr (7, [.ref am0, .ref am1, .ref am2, .ref am3, .int M_isHeld, .ref am4, .int M_taped, .int M_token, .int M_from, .int M_to, .int M_value, .int M_isWrong, .ref am5, .int M_rowN, .ref am6, .ref am7, .ref am8, .ref am9, .ref am10, .ref am11, .ref am12, .int M_ran, .int M_actKind, .int M_actN, .int M_actA, .int M_isParted])), (am0, .inl (cy 0, 48, .inl u_s)), (am6, .inl (cy 0, 4, .inl u_sortOf)), (am7, .inl (cy 0, 4, .inl u_sizeOf)), (am8, .inl (cy 0, 160, .inl u_numbers))] H → va_D A [(am, .inr (7, [.ref am0, .ref am1, .ref am2, .ref am3, .int M_isHeld, .ref am4, .int M_taped, .int M_token, .int M_from, .int M_to, .int M_value, .int M_isWrong, .ref am5, .int M_rowN, .ref am6, .ref am7, .ref am8, .ref am9, .ref am10, .ref am11, .ref am12, .int M_ran, .int M_actKind, .int M_actN, .int M_actA, .int M_isParted])), (am0, .inl (cy 0, 48, .inl u_s)), (am6, .inl (cy 0, 4, .inl u_sortOf)), (am7, .inl (cy 0, 4, .inl u_sizeOf)), (am8, .inl (cy 0, 160, .inl u_numbers))] → va_S A s.heap H locs → ∀ (ls : Array Slot), lv_has ls 6 [(0, .ref am), (1, .int x1), (2, .int x2), (3, .int x3), (4, .int x4), (5, .int y5)] → W p l e (headSpec wsX7_minds ({ frames := 2, cells := 0, slots := 0, locals := 45 })).room s m ([.ref am, .int x1, .int x2, .int x3, .int x4] : List Value).toArray below meth c H locs 0 0 (MQ below (Qw (some (.int z.1)) D [(am, .inr (7, [.ref am0, .ref am1, .ref am2, .ref am3, .int M_isHeld, .ref am4, .int M_taped, .int M_token, .int M_from, .int M_to, .int M_value, .int M_isWrong, .ref am5, .int M_rowN, .ref am6, .ref am7, .ref am8, .ref am9, .ref am10, .ref am11, .ref am12, .int M_ran, .int M_actKind, .int M_actN, .int M_actA, .int M_isParted])), (am0, .inl (cy 0, 48, .inl z.2)), (am6, .inl (cy 0, 4, .inl u_sortOf)), (am7, .inl (cy 0, 4, .inl u_sizeOf)), (am8, .inl (cy 0, 160, .inl u_numbers))] A) ([.ref am, .int x1, .int x2, .int x3, .int x4] : List Value).toArray s 0 0 A) (F0 m 98 ls []) := by
        intro u_s y5 hf H locs hP hD hS ls hl
        have hf : (if x4 ≤ y5 then (some (x4, u_s)) else (if ((((40 : Int32) * x1) + x2) + y5) < 0 ∨ 160 ≤ ((((40 : Int32) * x1) + x2) + y5).toNatClampNeg then none else (fX7_within n (u_numbers ((((40 : Int32) * x1) + x2) + y5).toNatClampNeg)).bind fun r134 => if (((8 : Int32) + ((5 : Int32) * (x3 + y5))) + (2 : Int32)) < 0 ∨ 48 ≤ (((8 : Int32) + ((5 : Int32) * (x3 + y5))) + (2 : Int32)).toNatClampNeg then none else k98 ((upd u_s (((8 : Int32) + ((5 : Int32) * (x3 + y5))) + (2 : Int32)).toNatClampNeg r134), (y5 + (1 : Int32))))) = some z := hf
        refine lv_iload hx hb dX7_minds_98 (lv_at hl 5 rfl) ?_
        refine lv_iload hx hb dX7_minds_100 (lv_at hl 4 rfl) ?_
        refine lv_icmp_ge (tgt := 144) hx hb dX7_minds_102 (by decide) (fun c_102 => ?_) (fun c_102 => ?_)
        · have hf := zp hf c_102
          refine lv_iload hx hb dX7_minds_144 (lv_at hl 4 rfl) ?_
          exact W.iret hx hb hr (fun t ht hW => hfin x4 u_s hf _ t ht hP (hS.F ht)) hS.2.2 dX7_minds_146
        · have hf := zn hf c_102
          refine lv_aload_n hx hb dX7_minds_105 rfl (lv_at hl 0 rfl) ?_
          refine va_get (D := D) (ci := 7) (v := .ref am0) (C := RX7) (T := TX7) (N := 26) hx hb hts hin7 hown hK hP 0 rfl rfl 0 (by decide) fl7 (fun _ h9 => h9) rfl dX7_minds_106 ?_
          refine lv_bipush (v := (8 : Int32)) hx hb dX7_minds_109 (by decide) ?_
          refine lv_iconst (v := (5 : Int32)) hx hb dX7_minds_111 (by decide) ?_
          refine lv_iload_n hx hb dX7_minds_112 rfl (lv_at hl 3 rfl) ?_
          refine lv_iload hx hb dX7_minds_113 (lv_at hl 5 rfl) ?_
          refine lv_iadd hx hb dX7_minds_115 ?_
          refine lv_imul hx hb dX7_minds_116 ?_
          refine lv_iadd hx hb dX7_minds_117 ?_
          refine lv_iconst (v := (2 : Int32)) hx hb dX7_minds_118 (by decide) ?_
          refine lv_iadd hx hb dX7_minds_119 ?_
          refine lv_aload_n hx hb dX7_minds_120 rfl (lv_at hl 0 rfl) ?_
          refine va_get (D := D) (ci := 7) (v := .ref am8) (C := RX7) (T := TX7) (N := 26) hx hb hts hin7 hown hK hP 0 rfl rfl 16 (by decide) fl34 (fun _ h9 => h9) rfl dX7_minds_121 ?_
          refine lv_bipush (v := (40 : Int32)) hx hb dX7_minds_124 (by decide) ?_
          refine lv_iload_n hx hb dX7_minds_126 rfl (lv_at hl 1 rfl) ?_
          refine lv_imul hx hb dX7_minds_127 ?_
          refine lv_iload_n hx hb dX7_minds_128 rfl (lv_at hl 2 rfl) ?_
          refine lv_iadd hx hb dX7_minds_129 ?_
          refine lv_iload hx hb dX7_minds_130 (lv_at hl 5 rfl) ?_
          refine lv_iadd hx hb dX7_minds_132 ?_
          obtain ⟨h_133, hf⟩ := zg hf
          refine va_iald hx hb hK hP 4 0 rfl rfl h_133 dX7_minds_133 ?_
          obtain ⟨r134, hc134, hf⟩ := zb hf
          refine zsr (o := some (.int r134)) (As := [.int (u_numbers ((((40 : Int32) * x1) + x2) + y5).toNatClampNeg)]) (rest := [.int (((8 : Int32) + ((5 : Int32) * (x3 + y5))) + (2 : Int32)), .ref am0]) (stk := [.int r134, .int (((8 : Int32) + ((5 : Int32) * (x3 + y5))) + (2 : Int32)), .ref am0]) ⟨hx, hb, hml, hown, hts⟩ (mX7_within l D cy st sk sv B  n (u_numbers ((((40 : Int32) * x1) + x2) + y5).toNatClampNeg) r134 hc134) (va_cwS 1 hts gX7_minds_X7_within rfl rfl rfl (by decide +kernel) ⟨Nat.le_of_ble_eq_true rfl, Nat.le_of_ble_eq_true rfl⟩) hG hS hAB hP [] rfl rfl hl.1 rfl (Nat.le_of_ble_eq_true rfl) dX7_minds_134 rfl ?_
          obtain ⟨h_137, hf⟩ := zg hf
          refine va_iast hx hb hK hP hD hS 1 0 rfl rfl h_137 dX7_minds_137 (fun H locs hP hD hS => ?_)
          have hP : va_P D vwCl [(am, .inr (7, [.ref am0, .ref am1, .ref am2, .ref am3, .int M_isHeld, .ref am4, .int M_taped, .int M_token, .int M_from, .int M_to, .int M_value, .int M_isWrong, .ref am5, .int M_rowN, .ref am6, .ref am7, .ref am8, .ref am9, .ref am10, .ref am11, .ref am12, .int M_ran, .int M_actKind, .int M_actN, .int M_actA, .int M_isParted])), (am0, .inl (cy 0, 48, .inl (upd u_s (((8 : Int32) + ((5 : Int32) * (x3 + y5))) + (2 : Int32)).toNatClampNeg r134))), (am6, .inl (cy 0, 4, .inl u_sortOf)), (am7, .inl (cy 0, 4, .inl u_sizeOf)), (am8, .inl (cy 0, 160, .inl u_numbers))] H := hP
          have hD : va_D A [(am, .inr (7, [.ref am0, .ref am1, .ref am2, .ref am3, .int M_isHeld, .ref am4, .int M_taped, .int M_token, .int M_from, .int M_to, .int M_value, .int M_isWrong, .ref am5, .int M_rowN, .ref am6, .ref am7, .ref am8, .ref am9, .ref am10, .ref am11, .ref am12, .int M_ran, .int M_actKind, .int M_actN, .int M_actA, .int M_isParted])), (am0, .inl (cy 0, 48, .inl (upd u_s (((8 : Int32) + ((5 : Int32) * (x3 + y5))) + (2 : Int32)).toNatClampNeg r134))), (am6, .inl (cy 0, 4, .inl u_sortOf)), (am7, .inl (cy 0, 4, .inl u_sizeOf)), (am8, .inl (cy 0, 160, .inl u_numbers))] := hD
          refine lv_iinc (v := (y5 + (1 : Int32))) (lv' := [(5, .int (y5 + (1 : Int32))), (0, .ref am), (1, .int x1), (2, .int x2), (3, .int x3), (4, .int x4)]) hx hb dX7_minds_138 hl (k := 5) rfl rfl (by decide) rfl (fun ls hl => ?_)
          refine lv_goto (tgt := 98) hx hb dX7_minds_141 (by decide) ?_
          exact hk98 (upd u_s (((8 : Int32) + ((5 : Int32) * (x3 + y5))) + (2 : Int32)).toNatClampNeg r134) (y5 + (1 : Int32)) hf _ _ hP hD hS _ (lv_sub hl [1, 2, 3, 4, 5, 0] rfl)
      exact fun v98 h9 => hstep v98.1 v98.2 h9
    exact fun n0 u_s y5 h9 => key n0 (u_s, y5) h9
  have hl := lv_entry ([.ref am, .int x1, .int x2, .int x3, .int x4]) (n := 6) (Nat.le_of_ble_eq_true rfl)
  rw [lg_entry_eq]
  generalize (lg_sl ([.ref am, .int x1, .int x2, .int x3, .int x4]) ++ List.replicate (6 - (lg_sl ([.ref am, .int x1, .int x2, .int x3, .int x4])).length) Slot.unset).toArray = ls at hl ⊢
  have hl : lv_has ls 6 [(0, .ref am), (1, .int x1), (2, .int x2), (3, .int x3), (4, .int x4)] := hl
  have hf : ((fX7_isSheet n x1).bind fun r1 => if r1 = 0 then (some ((-1 : Int32), u_s)) else ((fX7_isOne n (M_isHeld, M_taped, M_token, M_from, M_to, M_value, M_isWrong, M_rowN, M_ran, M_actKind, M_actN, M_actA, M_isParted) u_s x3).bind fun r9 => if r9 = 0 then (some ((-1 : Int32), u_s)) else ((fX7_isIn n x4.toInt64 (0 : Int64) (8 : Int64)).bind fun r22 => if r22 = 0 then (some ((-1 : Int32), u_s)) else (if (x3 + x4) ≤ (u_s (0 : Int32).toNatClampNeg) then ((fX7_lacks n (M_isHeld, M_taped, M_token, M_from, M_to, M_value, M_isWrong, M_rowN, M_ran, M_actKind, M_actN, M_actA, M_isParted) u_sortOf x1 (0 : Int32)).bind fun r46 => if r46 = 0 then (if x1 < 0 ∨ 4 ≤ x1.toNatClampNeg then none else (fX7_isIn n x2.toInt64 (0 : Int64) ((u_sizeOf x1.toNatClampNeg).toInt64)).bind fun r69 => if r69 = 0 then (some ((-12 : Int32), u_s)) else (if x1 < 0 ∨ 4 ≤ x1.toNatClampNeg then none else if (lg_cmp (x2.toInt64 + x4.toInt64) (u_sizeOf x1.toNatClampNeg).toInt64) ≤ 0 then (lpF (fX7_minds_F98 n (M_isHeld, M_taped, M_token, M_from, M_to, M_value, M_isWrong, M_rowN, M_ran, M_actKind, M_actN, M_actA, M_isParted) u_sortOf u_sizeOf u_numbers x1 x2 x3 x4 ) n (u_s, (0 : Int32))) else (some ((-12 : Int32), u_s)))) else ((fX7_lacks n (M_isHeld, M_taped, M_token, M_from, M_to, M_value, M_isWrong, M_rowN, M_ran, M_actKind, M_actN, M_actA, M_isParted) u_sortOf x1 (0 : Int32)).bind fun r55 => some (r55, u_s))) else (some ((-1 : Int32), u_s)))))) = some z := hf
  refine lv_iload_n hx hb dX7_minds_0 rfl (lv_at hl 1 rfl) ?_
  obtain ⟨r1, hc1, hf⟩ := zb hf
  refine zsr (o := some (.int r1)) (As := [.int x1]) (rest := []) (stk := [.int r1]) ⟨hx, hb, hml, hown, hts⟩ (mX7_isSheet l D cy st sk sv B  n x1 r1 hc1) (va_cwS 1 hts gX7_minds_X7_isSheet rfl rfl rfl (by decide +kernel) ⟨Nat.le_of_ble_eq_true rfl, Nat.le_of_ble_eq_true rfl⟩) hG hS hAB hP [] rfl rfl hl.1 rfl (Nat.le_of_ble_eq_true rfl) dX7_minds_1 rfl ?_
  refine lv_if_eq (tgt := 41) hx hb dX7_minds_4 (by decide) (fun c_4 => ?_) (fun c_4 => ?_)
  · have hf := zp hf c_4
    refine lv_iconst (v := (-1 : Int32)) hx hb dX7_minds_41 (by decide) ?_
    exact W.iret hx hb hr (fun t ht hW => hfin (-1 : Int32) u_s hf _ t ht hP (hS.F ht)) hS.2.2 dX7_minds_42
  · have hf := zn hf c_4
    refine lv_aload_n hx hb dX7_minds_7 rfl (lv_at hl 0 rfl) ?_
    refine lv_iload_n hx hb dX7_minds_8 rfl (lv_at hl 3 rfl) ?_
    obtain ⟨r9, hc9, hf⟩ := zb hf
    refine zvr (o := some (.int r9)) (As := [.int x3]) (rest := []) (stk := [.int r9]) ⟨hx, hb, hml, hown, hts⟩ (mX7_isOne l D cy st sk sv B am am0 am1 am2 am3 am4 am5 am6 am7 am8 am9 am10 am11 am12 n M_isHeld M_taped M_token M_from M_to M_value M_isWrong M_rowN M_ran M_actKind M_actN M_actA M_isParted u_s x3 r9 hc9) (cwV 1 hts gX7_minds_X7_isOne rfl rfl rfl (by decide +kernel) ⟨Nat.le_of_ble_eq_true rfl, Nat.le_of_ble_eq_true rfl⟩) hG hS hAB hP [0, 1] rfl 0 7 rfl rfl rfl rfl hl.1 rfl (Nat.le_of_ble_eq_true rfl) dX7_minds_9 rfl ?_
    refine lv_if_eq (tgt := 41) hx hb dX7_minds_12 (by decide) (fun c_12 => ?_) (fun c_12 => ?_)
    · have hf := zp hf c_12
      refine lv_iconst (v := (-1 : Int32)) hx hb dX7_minds_41 (by decide) ?_
      exact W.iret hx hb hr (fun t ht hW => hfin (-1 : Int32) u_s hf _ t ht hP (hS.F ht)) hS.2.2 dX7_minds_42
    · have hf := zn hf c_12
      refine lv_iload hx hb dX7_minds_15 (lv_at hl 4 rfl) ?_
      refine lv_i2l hx hb dX7_minds_17 rfl ?_
      refine lv_lconst (v := (0 : Int64)) hx hb dX7_minds_18 (by decide) ?_
      refine lv_ldc2 (v := (8 : Int64)) hx hb hown (hts (.constantLong RX7 52 (8)) (by decide +kernel)) dX7_minds_19 ?_
      obtain ⟨r22, hc22, hf⟩ := zb hf
      refine zsr (o := some (.int r22)) (As := [.long x4.toInt64, .long (0 : Int64), .long (8 : Int64)]) (rest := []) (stk := [.int r22]) ⟨hx, hb, hml, hown, hts⟩ (mX7_isIn l D cy st sk sv B  n x4.toInt64 (0 : Int64) (8 : Int64) r22 hc22) (va_cwS 3 hts gX7_minds_X7_isIn rfl rfl rfl (by decide +kernel) ⟨Nat.le_of_ble_eq_true rfl, Nat.le_of_ble_eq_true rfl⟩) hG hS hAB hP [] rfl rfl hl.1 rfl (Nat.le_of_ble_eq_true rfl) dX7_minds_22 rfl ?_
      refine lv_if_eq (tgt := 41) hx hb dX7_minds_25 (by decide) (fun c_25 => ?_) (fun c_25 => ?_)
      · have hf := zp hf c_25
        refine lv_iconst (v := (-1 : Int32)) hx hb dX7_minds_41 (by decide) ?_
        exact W.iret hx hb hr (fun t ht hW => hfin (-1 : Int32) u_s hf _ t ht hP (hS.F ht)) hS.2.2 dX7_minds_42
      · have hf := zn hf c_25
        refine lv_iload_n hx hb dX7_minds_28 rfl (lv_at hl 3 rfl) ?_
        refine lv_iload hx hb dX7_minds_29 (lv_at hl 4 rfl) ?_
        refine lv_iadd hx hb dX7_minds_31 ?_
        refine lv_aload_n hx hb dX7_minds_32 rfl (lv_at hl 0 rfl) ?_
        refine va_get (D := D) (ci := 7) (v := .ref am0) (C := RX7) (T := TX7) (N := 26) hx hb hts hin7 hown hK hP 0 rfl rfl 0 (by decide) fl7 (fun _ h9 => h9) rfl dX7_minds_33 ?_
        refine lv_iconst (v := (0 : Int32)) hx hb dX7_minds_36 (by decide) ?_
        refine va_iald hx hb hK hP 1 0 rfl rfl vi_0_48 dX7_minds_37 ?_
        refine lv_icmp_le (tgt := 43) hx hb dX7_minds_38 (by decide) (fun c_38 => ?_) (fun c_38 => ?_)
        · have hf := zp hf c_38
          refine lv_aload_n hx hb dX7_minds_43 rfl (lv_at hl 0 rfl) ?_
          refine lv_iload_n hx hb dX7_minds_44 rfl (lv_at hl 1 rfl) ?_
          refine lv_iconst (v := (0 : Int32)) hx hb dX7_minds_45 (by decide) ?_
          obtain ⟨r46, hc46, hf⟩ := zb hf
          refine zvr (o := some (.int r46)) (As := [.int x1, .int (0 : Int32)]) (rest := []) (stk := [.int r46]) ⟨hx, hb, hml, hown, hts⟩ (mX7_lacks l D cy st sk sv B am am0 am1 am2 am3 am4 am5 am6 am7 am8 am9 am10 am11 am12 n M_isHeld M_taped M_token M_from M_to M_value M_isWrong M_rowN M_ran M_actKind M_actN M_actA M_isParted u_sortOf x1 (0 : Int32) r46 hc46) (cwV 2 hts gX7_minds_X7_lacks rfl rfl rfl (by decide +kernel) ⟨Nat.le_of_ble_eq_true rfl, Nat.le_of_ble_eq_true rfl⟩) hG hS hAB hP [0, 2] rfl 0 7 rfl rfl rfl rfl hl.1 rfl (Nat.le_of_ble_eq_true rfl) dX7_minds_46 rfl ?_
          refine lv_if_eq (tgt := 59) hx hb dX7_minds_49 (by decide) (fun c_49 => ?_) (fun c_49 => ?_)
          · have hf := zp hf c_49
            refine lv_iload_n hx hb dX7_minds_59 rfl (lv_at hl 2 rfl) ?_
            refine lv_i2l hx hb dX7_minds_60 rfl ?_
            refine lv_lconst (v := (0 : Int64)) hx hb dX7_minds_61 (by decide) ?_
            refine lv_aload_n hx hb dX7_minds_62 rfl (lv_at hl 0 rfl) ?_
            refine va_get (D := D) (ci := 7) (v := .ref am7) (C := RX7) (T := TX7) (N := 26) hx hb hts hin7 hown hK hP 0 rfl rfl 15 (by decide) fl31 (fun _ h9 => h9) rfl dX7_minds_63 ?_
            refine lv_iload_n hx hb dX7_minds_66 rfl (lv_at hl 1 rfl) ?_
            obtain ⟨h_67, hf⟩ := zg hf
            refine va_iald hx hb hK hP 3 0 rfl rfl h_67 dX7_minds_67 ?_
            refine lv_i2l hx hb dX7_minds_68 rfl ?_
            obtain ⟨r69, hc69, hf⟩ := zb hf
            refine zsr (o := some (.int r69)) (As := [.long x2.toInt64, .long (0 : Int64), .long (u_sizeOf x1.toNatClampNeg).toInt64]) (rest := []) (stk := [.int r69]) ⟨hx, hb, hml, hown, hts⟩ (mX7_isIn l D cy st sk sv B  n x2.toInt64 (0 : Int64) ((u_sizeOf x1.toNatClampNeg).toInt64) r69 hc69) (va_cwS 3 hts gX7_minds_X7_isIn rfl rfl rfl (by decide +kernel) ⟨Nat.le_of_ble_eq_true rfl, Nat.le_of_ble_eq_true rfl⟩) hG hS hAB hP [] rfl rfl hl.1 rfl (Nat.le_of_ble_eq_true rfl) dX7_minds_69 rfl ?_
            refine lv_if_eq (tgt := 92) hx hb dX7_minds_72 (by decide) (fun c_72 => ?_) (fun c_72 => ?_)
            · have hf := zp hf c_72
              refine lv_bipush (v := (-12 : Int32)) hx hb dX7_minds_92 (by decide) ?_
              exact W.iret hx hb hr (fun t ht hW => hfin (-12 : Int32) u_s hf _ t ht hP (hS.F ht)) hS.2.2 dX7_minds_94
            · have hf := zn hf c_72
              refine lv_iload_n hx hb dX7_minds_75 rfl (lv_at hl 2 rfl) ?_
              refine lv_i2l hx hb dX7_minds_76 rfl ?_
              refine lv_iload hx hb dX7_minds_77 (lv_at hl 4 rfl) ?_
              refine lv_i2l hx hb dX7_minds_79 rfl ?_
              refine lv_ladd hx hb dX7_minds_80 ?_
              refine lv_aload_n hx hb dX7_minds_81 rfl (lv_at hl 0 rfl) ?_
              refine va_get (D := D) (ci := 7) (v := .ref am7) (C := RX7) (T := TX7) (N := 26) hx hb hts hin7 hown hK hP 0 rfl rfl 15 (by decide) fl31 (fun _ h9 => h9) rfl dX7_minds_82 ?_
              refine lv_iload_n hx hb dX7_minds_85 rfl (lv_at hl 1 rfl) ?_
              obtain ⟨h_86, hf⟩ := zg hf
              refine va_iald hx hb hK hP 3 0 rfl rfl h_86 dX7_minds_86 ?_
              refine lv_i2l hx hb dX7_minds_87 rfl ?_
              refine W.lcmp hx hb dX7_minds_88 ?_
              refine lv_if_le (tgt := 95) hx hb dX7_minds_89 (by decide) (fun c_89 => ?_) (fun c_89 => ?_)
              · have hf := zp hf c_89
                refine lv_iconst (v := (0 : Int32)) hx hb dX7_minds_95 (by decide) ?_
                refine lv_istore (lv' := [(5, .int (0 : Int32)), (0, .ref am), (1, .int x1), (2, .int x2), (3, .int x3), (4, .int x4)]) hx hb dX7_minds_96 hl (by decide) rfl (fun ls hl => ?_)
                exact hL98 n u_s (0 : Int32) hf _ _ hP hD hS _ (lv_sub hl [1, 2, 3, 4, 5, 0] rfl)
              · have hf := zn hf c_89
                refine lv_bipush (v := (-12 : Int32)) hx hb dX7_minds_92 (by decide) ?_
                exact W.iret hx hb hr (fun t ht hW => hfin (-12 : Int32) u_s hf _ t ht hP (hS.F ht)) hS.2.2 dX7_minds_94
          · have hf := zn hf c_49
            refine lv_aload_n hx hb dX7_minds_52 rfl (lv_at hl 0 rfl) ?_
            refine lv_iload_n hx hb dX7_minds_53 rfl (lv_at hl 1 rfl) ?_
            refine lv_iconst (v := (0 : Int32)) hx hb dX7_minds_54 (by decide) ?_
            obtain ⟨r55, hc55, hf⟩ := zb hf
            refine zvr (o := some (.int r55)) (As := [.int x1, .int (0 : Int32)]) (rest := []) (stk := [.int r55]) ⟨hx, hb, hml, hown, hts⟩ (mX7_lacks l D cy st sk sv B am am0 am1 am2 am3 am4 am5 am6 am7 am8 am9 am10 am11 am12 n M_isHeld M_taped M_token M_from M_to M_value M_isWrong M_rowN M_ran M_actKind M_actN M_actA M_isParted u_sortOf x1 (0 : Int32) r55 hc55) (cwV 2 hts gX7_minds_X7_lacks rfl rfl rfl (by decide +kernel) ⟨Nat.le_of_ble_eq_true rfl, Nat.le_of_ble_eq_true rfl⟩) hG hS hAB hP [0, 2] rfl 0 7 rfl rfl rfl rfl hl.1 rfl (Nat.le_of_ble_eq_true rfl) dX7_minds_55 rfl ?_
            exact W.iret hx hb hr (fun t ht hW => hfin r55 u_s hf _ t ht hP (hS.F ht)) hS.2.2 dX7_minds_58
        · have hf := zn hf c_38
          refine lv_iconst (v := (-1 : Int32)) hx hb dX7_minds_41 (by decide) ?_
          exact W.iret hx hb hr (fun t ht hW => hfin (-1 : Int32) u_s hf _ t ht hP (hS.F ht)) hS.2.2 dX7_minds_42
set_option maxRecDepth 100000 in
set_option maxHeartbeats 100000000 in
theorem mX7_shelf (l : Launch) (D : va_G) (cy : Nat → ClassId) (st sk sv : Nat → Nat) (B : Nat) (am : Nat) (am0 : Nat) (am1 : Nat) (am2 : Nat) (am3 : Nat) (am4 : Nat) (am5 : Nat) (am6 : Nat) (am7 : Nat) (am8 : Nat) (am9 : Nat) (am10 : Nat) (am11 : Nat) (am12 : Nat) (sz : Nat) (n : Nat) (M_isHeld : Int32) (M_taped : Int32) (M_token : Int32) (M_from : Int32) (M_to : Int32) (M_value : Int32) (M_isWrong : Int32) (M_rowN : Int32) (M_ran : Int32) (M_actKind : Int32) (M_actN : Int32) (M_actA : Int32) (M_isParted : Int32) (u_s : (Nat → Int32)) (u_sortOf : (Nat → Int32)) (u_sizeOf : (Nat → Int32)) (u_holdsWhat : (Nat → Int32)) (u_holdsWhich : (Nat → Int32)) (u_holdsMany : (Nat → Int32)) (x1 : Int32) (x2 : Int32) (x3 : Int32) (z : Int32 × (Nat → Int32) × (Nat → Int32) × (Nat → Int32)) (hf : fX7_shelf n (M_isHeld, M_taped, M_token, M_from, M_to, M_value, M_isWrong, M_rowN, M_ran, M_actKind, M_actN, M_actA, M_isParted) u_s u_sortOf u_sizeOf u_holdsWhat u_holdsWhich u_holdsMany x1 x2 x3 = some z) : Met l yX7_shelf wsX7_shelf ({ frames := 2, cells := 0, slots := 0, locals := 45 }) (PcW [.ref am, .int x1, .int x2, .int x3] D cy st sk sv B sz [(am, .inr (7, [.ref am0, .ref am1, .ref am2, .ref am3, .int M_isHeld, .ref am4, .int M_taped, .int M_token, .int M_from, .int M_to, .int M_value, .int M_isWrong, .ref am5, .int M_rowN, .ref am6, .ref am7, .ref am8, .ref am9, .ref am10, .ref am11, .ref am12, .int M_ran, .int M_actKind, .int M_actN, .int M_actA, .int M_isParted])), (am0, .inl (cy 0, 48, .inl u_s)), (am6, .inl (cy 0, 4, .inl u_sortOf)), (am7, .inl (cy 0, 4, .inl u_sizeOf)), (am9, .inl (cy 0, 4, .inl u_holdsWhat)), (am10, .inl (cy 0, 4, .inl u_holdsWhich)), (am11, .inl (cy 0, 4, .inl u_holdsMany))]) (Qw (some (.int z.1)) D [(am, .inr (7, [.ref am0, .ref am1, .ref am2, .ref am3, .int M_isHeld, .ref am4, .int M_taped, .int M_token, .int M_from, .int M_to, .int M_value, .int M_isWrong, .ref am5, .int M_rowN, .ref am6, .ref am7, .ref am8, .ref am9, .ref am10, .ref am11, .ref am12, .int M_ran, .int M_actKind, .int M_actN, .int M_actA, .int M_isParted])), (am0, .inl (cy 0, 48, .inl u_s)), (am6, .inl (cy 0, 4, .inl u_sortOf)), (am7, .inl (cy 0, 4, .inl u_sizeOf)), (am9, .inl (cy 0, 4, .inl z.2.1)), (am10, .inl (cy 0, 4, .inl z.2.2.1)), (am11, .inl (cy 0, 4, .inl z.2.2.2))] (va_A [(am, .inr (7, [.ref am0, .ref am1, .ref am2, .ref am3, .int M_isHeld, .ref am4, .int M_taped, .int M_token, .int M_from, .int M_to, .int M_value, .int M_isWrong, .ref am5, .int M_rowN, .ref am6, .ref am7, .ref am8, .ref am9, .ref am10, .ref am11, .ref am12, .int M_ran, .int M_actKind, .int M_actN, .int M_actA, .int M_isParted])), (am0, .inl (cy 0, 48, .inl u_s)), (am6, .inl (cy 0, 4, .inl u_sortOf)), (am7, .inl (cy 0, 4, .inl u_sizeOf)), (am9, .inl (cy 0, 4, .inl u_holdsWhat)), (am10, .inl (cy 0, 4, .inl u_holdsWhich)), (am11, .inl (cy 0, 4, .inl u_holdsMany))] sz)) 0 0 (va_A [(am, .inr (7, [.ref am0, .ref am1, .ref am2, .ref am3, .int M_isHeld, .ref am4, .int M_taped, .int M_token, .int M_from, .int M_to, .int M_value, .int M_isWrong, .ref am5, .int M_rowN, .ref am6, .ref am7, .ref am8, .ref am9, .ref am10, .ref am11, .ref am12, .int M_ran, .int M_actKind, .int M_actN, .int M_actA, .int M_isParted])), (am0, .inl (cy 0, 48, .inl u_s)), (am6, .inl (cy 0, 4, .inl u_sortOf)), (am7, .inl (cy 0, 4, .inl u_sizeOf)), (am9, .inl (cy 0, 4, .inl u_holdsWhat)), (am10, .inl (cy 0, 4, .inl u_holdsWhich)), (am11, .inl (cy 0, 4, .inl u_holdsMany))] sz) := by
  refine Met.ofW (cc := cX7_shelf) (maxL := 5) (ret := (some .int)) (by decide) rfl ?_
  intro p e s m args below meth c s₁ Bd hml hv
  obtain ⟨rfl, hsz, hP, hD0, hBs, hG⟩ := hv
  have hx := Bd.exec
  have hb := Bd.bytes
  have hr := Bd.returns
  have hts := atoms_spec (ws := wsX7_shelf) Bd.pre
  have hown : s.vm.findClass RX7 = some m.cls := findClass_of_methodNamed Bd.named
  have hlocks := Bd.notSynchronized
  have hK := hG.1
  subst hsz
  have hD := hD0.self (sz := s.heap.size)
  have hAB0 := zA hD0 hBs
  generalize hAe : va_A [(am, .inr (7, [.ref am0, .ref am1, .ref am2, .ref am3, .int M_isHeld, .ref am4, .int M_taped, .int M_token, .int M_from, .int M_to, .int M_value, .int M_isWrong, .ref am5, .int M_rowN, .ref am6, .ref am7, .ref am8, .ref am9, .ref am10, .ref am11, .ref am12, .int M_ran, .int M_actKind, .int M_actN, .int M_actA, .int M_isParted])), (am0, .inl (cy 0, 48, .inl u_s)), (am6, .inl (cy 0, 4, .inl u_sortOf)), (am7, .inl (cy 0, 4, .inl u_sizeOf)), (am9, .inl (cy 0, 4, .inl u_holdsWhat)), (am10, .inl (cy 0, 4, .inl u_holdsWhich)), (am11, .inl (cy 0, 4, .inl u_holdsMany))] s.heap.size = A at hD hAB0 ⊢
  have hA : ∀ q : Nat, s.heap.size ≤ q → A q := fun q h => by rw [← hAe]; exact Or.inr h
  have hAB : ∀ q, A q → B ≤ q := hAB0
  have hS : va_S A s.heap s.heap [] := va_S.rf
  have hfin : ∀ (z0 : Int32) (u_holdsWhat : (Nat → Int32)) (u_holdsWhich : (Nat → Int32)) (u_holdsMany : (Nat → Int32)), some (z0, u_holdsWhat, u_holdsWhich, u_holdsMany) = some z → ∀ (H : Heap) (t : State), t.heap = H → va_P D vwCl [(am, .inr (7, [.ref am0, .ref am1, .ref am2, .ref am3, .int M_isHeld, .ref am4, .int M_taped, .int M_token, .int M_from, .int M_to, .int M_value, .int M_isWrong, .ref am5, .int M_rowN, .ref am6, .ref am7, .ref am8, .ref am9, .ref am10, .ref am11, .ref am12, .int M_ran, .int M_actKind, .int M_actN, .int M_actA, .int M_isParted])), (am0, .inl (cy 0, 48, .inl u_s)), (am6, .inl (cy 0, 4, .inl u_sortOf)), (am7, .inl (cy 0, 4, .inl u_sizeOf)), (am9, .inl (cy 0, 4, .inl u_holdsWhat)), (am10, .inl (cy 0, 4, .inl u_holdsWhich)), (am11, .inl (cy 0, 4, .inl u_holdsMany))] H → va_F A s t → Qw (some (.int z.1)) D [(am, .inr (7, [.ref am0, .ref am1, .ref am2, .ref am3, .int M_isHeld, .ref am4, .int M_taped, .int M_token, .int M_from, .int M_to, .int M_value, .int M_isWrong, .ref am5, .int M_rowN, .ref am6, .ref am7, .ref am8, .ref am9, .ref am10, .ref am11, .ref am12, .int M_ran, .int M_actKind, .int M_actN, .int M_actA, .int M_isParted])), (am0, .inl (cy 0, 48, .inl u_s)), (am6, .inl (cy 0, 4, .inl u_sortOf)), (am7, .inl (cy 0, 4, .inl u_sizeOf)), (am9, .inl (cy 0, 4, .inl z.2.1)), (am10, .inl (cy 0, 4, .inl z.2.2.1)), (am11, .inl (cy 0, 4, .inl z.2.2.2))] A ([.ref am, .int x1, .int x2, .int x3] : List Value).toArray s (.returned (some (.int z0))) t := by
    intro z0 u_holdsWhat u_holdsWhich u_holdsMany h9 H t ht hP hF
    cases h9
    exact ⟨rfl, by rw [ht]; exact hP, hF⟩
  have hin7 : ∀ w ∈ u_ws RX7 TX7 26, w ∈ wsX7_shelf := by decide +kernel
  have fl28 := hts (.fieldLink RX7 28 "KinCutleryModel" "sortOf" "[I") (by decide +kernel)
  have fl31 := hts (.fieldLink RX7 31 "KinCutleryModel" "sizeOf" "[I") (by decide +kernel)
  have fl37 := hts (.fieldLink RX7 37 "KinCutleryModel" "holdsWhat" "[I") (by decide +kernel)
  have fl40 := hts (.fieldLink RX7 40 "KinCutleryModel" "holdsWhich" "[I") (by decide +kernel)
  have fl43 := hts (.fieldLink RX7 43 "KinCutleryModel" "holdsMany" "[I") (by decide +kernel)
  have hB118 : ∀ (u_holdsWhat : (Nat → Int32)) (u_holdsWhich : (Nat → Int32)) (u_holdsMany : (Nat → Int32)) (y4 : Int32) (w1 : Int32) (w2 : Int32), fX7_shelf_b118 n (M_isHeld, M_taped, M_token, M_from, M_to, M_value, M_isWrong, M_rowN, M_ran, M_actKind, M_actN, M_actA, M_isParted) u_s u_sortOf u_sizeOf x1 x2 x3  u_holdsWhat u_holdsWhich u_holdsMany y4 w1 w2 = some z → ∀ (H : Heap) (locs : List Loc), va_P D vwCl [(am, .inr (7, [.ref am0, .ref am1, .ref am2, .ref am3, .int M_isHeld, .ref am4, .int M_taped, .int M_token, .int M_from, .int M_to, .int M_value, .int M_isWrong, .ref am5, .int M_rowN, .ref am6, .ref am7, .ref am8, .ref am9, .ref am10, .ref am11, .ref am12, .int M_ran, .int M_actKind, .int M_actN, .int M_actA, .int M_isParted])), (am0, .inl (cy 0, 48, .inl u_s)), (am6, .inl (cy 0, 4, .inl u_sortOf)), (am7, .inl (cy 0, 4, .inl u_sizeOf)), (am9, .inl (cy 0, 4, .inl u_holdsWhat)), (am10, .inl (cy 0, 4, .inl u_holdsWhich)), (am11, .inl (cy 0, 4, .inl u_holdsMany))] H → va_D A [(am, .inr (7, [.ref am0, .ref am1, .ref am2, .ref am3, .int M_isHeld, .ref am4, .int M_taped, .int M_token, .int M_from, .int M_to, .int M_value, .int M_isWrong, .ref am5, .int M_rowN, .ref am6, .ref am7, .ref am8, .ref am9, .ref am10, .ref am11, .ref am12, .int M_ran, .int M_actKind, .int M_actN, .int M_actA, .int M_isParted])), (am0, .inl (cy 0, 48, .inl u_s)), (am6, .inl (cy 0, 4, .inl u_sortOf)), (am7, .inl (cy 0, 4, .inl u_sizeOf)), (am9, .inl (cy 0, 4, .inl u_holdsWhat)), (am10, .inl (cy 0, 4, .inl u_holdsWhich)), (am11, .inl (cy 0, 4, .inl u_holdsMany))] → va_S A s.heap H locs → ∀ (ls : Array Slot), lv_has ls 5 [(0, .ref am), (1, .int x1), (2, .int x2), (3, .int x3), (4, .int y4)] → W p l e (headSpec wsX7_shelf ({ frames := 2, cells := 0, slots := 0, locals := 45 })).room s m ([.ref am, .int x1, .int x2, .int x3] : List Value).toArray below meth c H locs 0 0 (MQ below (Qw (some (.int z.1)) D [(am, .inr (7, [.ref am0, .ref am1, .ref am2, .ref am3, .int M_isHeld, .ref am4, .int M_taped, .int M_token, .int M_from, .int M_to, .int M_value, .int M_isWrong, .ref am5, .int M_rowN, .ref am6, .ref am7, .ref am8, .ref am9, .ref am10, .ref am11, .ref am12, .int M_ran, .int M_actKind, .int M_actN, .int M_actA, .int M_isParted])), (am0, .inl (cy 0, 48, .inl u_s)), (am6, .inl (cy 0, 4, .inl u_sortOf)), (am7, .inl (cy 0, 4, .inl u_sizeOf)), (am9, .inl (cy 0, 4, .inl z.2.1)), (am10, .inl (cy 0, 4, .inl z.2.2.1)), (am11, .inl (cy 0, 4, .inl z.2.2.2))] A) ([.ref am, .int x1, .int x2, .int x3] : List Value).toArray s 0 0 A) (F0 m 118 ls [.int w2, .int w1, .ref am10]) := by
    intro u_holdsWhat u_holdsWhich u_holdsMany y4 w1 w2 hf H locs hP hD hS ls hl
    have hf : (if w1 < 0 ∨ 4 ≤ w1.toNatClampNeg then none else if y4 = 0 then (if x1 < 0 ∨ 4 ≤ x1.toNatClampNeg then none else some ((1 : Int32), u_holdsWhat, (upd u_holdsWhich w1.toNatClampNeg w2), (upd u_holdsMany x1.toNatClampNeg (0 : Int32)))) else (if x3 < 0 ∨ 4 ≤ x3.toNatClampNeg then none else if x1 < 0 ∨ 4 ≤ x1.toNatClampNeg then none else some ((1 : Int32), u_holdsWhat, (upd u_holdsWhich w1.toNatClampNeg w2), (upd u_holdsMany x1.toNatClampNeg (u_sizeOf x3.toNatClampNeg))))) = some z := hf
    obtain ⟨h_118, hf⟩ := zg hf
    refine va_iast hx hb hK hP hD hS 5 0 rfl rfl h_118 dX7_shelf_118 (fun H locs hP hD hS => ?_)
    have hP : va_P D vwCl [(am, .inr (7, [.ref am0, .ref am1, .ref am2, .ref am3, .int M_isHeld, .ref am4, .int M_taped, .int M_token, .int M_from, .int M_to, .int M_value, .int M_isWrong, .ref am5, .int M_rowN, .ref am6, .ref am7, .ref am8, .ref am9, .ref am10, .ref am11, .ref am12, .int M_ran, .int M_actKind, .int M_actN, .int M_actA, .int M_isParted])), (am0, .inl (cy 0, 48, .inl u_s)), (am6, .inl (cy 0, 4, .inl u_sortOf)), (am7, .inl (cy 0, 4, .inl u_sizeOf)), (am9, .inl (cy 0, 4, .inl u_holdsWhat)), (am10, .inl (cy 0, 4, .inl (upd u_holdsWhich w1.toNatClampNeg w2))), (am11, .inl (cy 0, 4, .inl u_holdsMany))] H := hP
    have hD : va_D A [(am, .inr (7, [.ref am0, .ref am1, .ref am2, .ref am3, .int M_isHeld, .ref am4, .int M_taped, .int M_token, .int M_from, .int M_to, .int M_value, .int M_isWrong, .ref am5, .int M_rowN, .ref am6, .ref am7, .ref am8, .ref am9, .ref am10, .ref am11, .ref am12, .int M_ran, .int M_actKind, .int M_actN, .int M_actA, .int M_isParted])), (am0, .inl (cy 0, 48, .inl u_s)), (am6, .inl (cy 0, 4, .inl u_sortOf)), (am7, .inl (cy 0, 4, .inl u_sizeOf)), (am9, .inl (cy 0, 4, .inl u_holdsWhat)), (am10, .inl (cy 0, 4, .inl (upd u_holdsWhich w1.toNatClampNeg w2))), (am11, .inl (cy 0, 4, .inl u_holdsMany))] := hD
    refine lv_aload_n hx hb dX7_shelf_119 rfl (lv_at hl 0 rfl) ?_
    refine va_get (D := D) (ci := 7) (v := .ref am11) (C := RX7) (T := TX7) (N := 26) hx hb hts hin7 hown hK hP 0 rfl rfl 19 (by decide) fl43 (fun _ h9 => h9) rfl dX7_shelf_120 ?_
    refine lv_iload_n hx hb dX7_shelf_123 rfl (lv_at hl 1 rfl) ?_
    refine lv_iload hx hb dX7_shelf_124 (lv_at hl 4 rfl) ?_
    refine lv_if_eq (tgt := 138) hx hb dX7_shelf_126 (by decide) (fun c_126 => ?_) (fun c_126 => ?_)
    · have hf := zp hf c_126
      refine lv_iconst (v := (0 : Int32)) hx hb dX7_shelf_138 (by decide) ?_
      obtain ⟨h_139, hf⟩ := zg hf
      refine va_iast hx hb hK hP hD hS 6 0 rfl rfl h_139 dX7_shelf_139 (fun H locs hP hD hS => ?_)
      have hP : va_P D vwCl [(am, .inr (7, [.ref am0, .ref am1, .ref am2, .ref am3, .int M_isHeld, .ref am4, .int M_taped, .int M_token, .int M_from, .int M_to, .int M_value, .int M_isWrong, .ref am5, .int M_rowN, .ref am6, .ref am7, .ref am8, .ref am9, .ref am10, .ref am11, .ref am12, .int M_ran, .int M_actKind, .int M_actN, .int M_actA, .int M_isParted])), (am0, .inl (cy 0, 48, .inl u_s)), (am6, .inl (cy 0, 4, .inl u_sortOf)), (am7, .inl (cy 0, 4, .inl u_sizeOf)), (am9, .inl (cy 0, 4, .inl u_holdsWhat)), (am10, .inl (cy 0, 4, .inl (upd u_holdsWhich w1.toNatClampNeg w2))), (am11, .inl (cy 0, 4, .inl (upd u_holdsMany x1.toNatClampNeg (0 : Int32))))] H := hP
      have hD : va_D A [(am, .inr (7, [.ref am0, .ref am1, .ref am2, .ref am3, .int M_isHeld, .ref am4, .int M_taped, .int M_token, .int M_from, .int M_to, .int M_value, .int M_isWrong, .ref am5, .int M_rowN, .ref am6, .ref am7, .ref am8, .ref am9, .ref am10, .ref am11, .ref am12, .int M_ran, .int M_actKind, .int M_actN, .int M_actA, .int M_isParted])), (am0, .inl (cy 0, 48, .inl u_s)), (am6, .inl (cy 0, 4, .inl u_sortOf)), (am7, .inl (cy 0, 4, .inl u_sizeOf)), (am9, .inl (cy 0, 4, .inl u_holdsWhat)), (am10, .inl (cy 0, 4, .inl (upd u_holdsWhich w1.toNatClampNeg w2))), (am11, .inl (cy 0, 4, .inl (upd u_holdsMany x1.toNatClampNeg (0 : Int32))))] := hD
      refine lv_iconst (v := (1 : Int32)) hx hb dX7_shelf_140 (by decide) ?_
      exact W.iret hx hb hr (fun t ht hW => hfin (1 : Int32) u_holdsWhat (upd u_holdsWhich w1.toNatClampNeg w2) (upd u_holdsMany x1.toNatClampNeg (0 : Int32)) hf _ t ht hP (hS.F ht)) hS.2.2 dX7_shelf_141
    · have hf := zn hf c_126
      refine lv_aload_n hx hb dX7_shelf_129 rfl (lv_at hl 0 rfl) ?_
      refine va_get (D := D) (ci := 7) (v := .ref am7) (C := RX7) (T := TX7) (N := 26) hx hb hts hin7 hown hK hP 0 rfl rfl 15 (by decide) fl31 (fun _ h9 => h9) rfl dX7_shelf_130 ?_
      refine lv_iload_n hx hb dX7_shelf_133 rfl (lv_at hl 3 rfl) ?_
      obtain ⟨h_134, hf⟩ := zg hf
      refine va_iald hx hb hK hP 3 0 rfl rfl h_134 dX7_shelf_134 ?_
      refine lv_goto (tgt := 139) hx hb dX7_shelf_135 (by decide) ?_
      obtain ⟨h_139, hf⟩ := zg hf
      refine va_iast hx hb hK hP hD hS 6 0 rfl rfl h_139 dX7_shelf_139 (fun H locs hP hD hS => ?_)
      have hP : va_P D vwCl [(am, .inr (7, [.ref am0, .ref am1, .ref am2, .ref am3, .int M_isHeld, .ref am4, .int M_taped, .int M_token, .int M_from, .int M_to, .int M_value, .int M_isWrong, .ref am5, .int M_rowN, .ref am6, .ref am7, .ref am8, .ref am9, .ref am10, .ref am11, .ref am12, .int M_ran, .int M_actKind, .int M_actN, .int M_actA, .int M_isParted])), (am0, .inl (cy 0, 48, .inl u_s)), (am6, .inl (cy 0, 4, .inl u_sortOf)), (am7, .inl (cy 0, 4, .inl u_sizeOf)), (am9, .inl (cy 0, 4, .inl u_holdsWhat)), (am10, .inl (cy 0, 4, .inl (upd u_holdsWhich w1.toNatClampNeg w2))), (am11, .inl (cy 0, 4, .inl (upd u_holdsMany x1.toNatClampNeg (u_sizeOf x3.toNatClampNeg))))] H := hP
      have hD : va_D A [(am, .inr (7, [.ref am0, .ref am1, .ref am2, .ref am3, .int M_isHeld, .ref am4, .int M_taped, .int M_token, .int M_from, .int M_to, .int M_value, .int M_isWrong, .ref am5, .int M_rowN, .ref am6, .ref am7, .ref am8, .ref am9, .ref am10, .ref am11, .ref am12, .int M_ran, .int M_actKind, .int M_actN, .int M_actA, .int M_isParted])), (am0, .inl (cy 0, 48, .inl u_s)), (am6, .inl (cy 0, 4, .inl u_sortOf)), (am7, .inl (cy 0, 4, .inl u_sizeOf)), (am9, .inl (cy 0, 4, .inl u_holdsWhat)), (am10, .inl (cy 0, 4, .inl (upd u_holdsWhich w1.toNatClampNeg w2))), (am11, .inl (cy 0, 4, .inl (upd u_holdsMany x1.toNatClampNeg (u_sizeOf x3.toNatClampNeg))))] := hD
      refine lv_iconst (v := (1 : Int32)) hx hb dX7_shelf_140 (by decide) ?_
      exact W.iret hx hb hr (fun t ht hW => hfin (1 : Int32) u_holdsWhat (upd u_holdsWhich w1.toNatClampNeg w2) (upd u_holdsMany x1.toNatClampNeg (u_sizeOf x3.toNatClampNeg)) hf _ t ht hP (hS.F ht)) hS.2.2 dX7_shelf_141
  have hB89 : ∀ (u_holdsWhat : (Nat → Int32)) (u_holdsWhich : (Nat → Int32)) (u_holdsMany : (Nat → Int32)) (y4 : Int32) (w1 : Int32) (w2 : Int32), fX7_shelf_b89 n (M_isHeld, M_taped, M_token, M_from, M_to, M_value, M_isWrong, M_rowN, M_ran, M_actKind, M_actN, M_actA, M_isParted) u_s u_sortOf u_sizeOf x1 x2 x3  u_holdsWhat u_holdsWhich u_holdsMany y4 w1 w2 = some z → ∀ (H : Heap) (locs : List Loc), va_P D vwCl [(am, .inr (7, [.ref am0, .ref am1, .ref am2, .ref am3, .int M_isHeld, .ref am4, .int M_taped, .int M_token, .int M_from, .int M_to, .int M_value, .int M_isWrong, .ref am5, .int M_rowN, .ref am6, .ref am7, .ref am8, .ref am9, .ref am10, .ref am11, .ref am12, .int M_ran, .int M_actKind, .int M_actN, .int M_actA, .int M_isParted])), (am0, .inl (cy 0, 48, .inl u_s)), (am6, .inl (cy 0, 4, .inl u_sortOf)), (am7, .inl (cy 0, 4, .inl u_sizeOf)), (am9, .inl (cy 0, 4, .inl u_holdsWhat)), (am10, .inl (cy 0, 4, .inl u_holdsWhich)), (am11, .inl (cy 0, 4, .inl u_holdsMany))] H → va_D A [(am, .inr (7, [.ref am0, .ref am1, .ref am2, .ref am3, .int M_isHeld, .ref am4, .int M_taped, .int M_token, .int M_from, .int M_to, .int M_value, .int M_isWrong, .ref am5, .int M_rowN, .ref am6, .ref am7, .ref am8, .ref am9, .ref am10, .ref am11, .ref am12, .int M_ran, .int M_actKind, .int M_actN, .int M_actA, .int M_isParted])), (am0, .inl (cy 0, 48, .inl u_s)), (am6, .inl (cy 0, 4, .inl u_sortOf)), (am7, .inl (cy 0, 4, .inl u_sizeOf)), (am9, .inl (cy 0, 4, .inl u_holdsWhat)), (am10, .inl (cy 0, 4, .inl u_holdsWhich)), (am11, .inl (cy 0, 4, .inl u_holdsMany))] → va_S A s.heap H locs → ∀ (ls : Array Slot), lv_has ls 5 [(0, .ref am), (1, .int x1), (2, .int x2), (3, .int x3), (4, .int y4)] → W p l e (headSpec wsX7_shelf ({ frames := 2, cells := 0, slots := 0, locals := 45 })).room s m ([.ref am, .int x1, .int x2, .int x3] : List Value).toArray below meth c H locs 0 0 (MQ below (Qw (some (.int z.1)) D [(am, .inr (7, [.ref am0, .ref am1, .ref am2, .ref am3, .int M_isHeld, .ref am4, .int M_taped, .int M_token, .int M_from, .int M_to, .int M_value, .int M_isWrong, .ref am5, .int M_rowN, .ref am6, .ref am7, .ref am8, .ref am9, .ref am10, .ref am11, .ref am12, .int M_ran, .int M_actKind, .int M_actN, .int M_actA, .int M_isParted])), (am0, .inl (cy 0, 48, .inl u_s)), (am6, .inl (cy 0, 4, .inl u_sortOf)), (am7, .inl (cy 0, 4, .inl u_sizeOf)), (am9, .inl (cy 0, 4, .inl z.2.1)), (am10, .inl (cy 0, 4, .inl z.2.2.1)), (am11, .inl (cy 0, 4, .inl z.2.2.2))] A) ([.ref am, .int x1, .int x2, .int x3] : List Value).toArray s 0 0 A) (F0 m 89 ls [.int w2, .int w1, .ref am9]) := by
    intro u_holdsWhat u_holdsWhich u_holdsMany y4 w1 w2 hf H locs hP hD hS ls hl
    have hf : (if w1 < 0 ∨ 4 ≤ w1.toNatClampNeg then none else if x2 = 0 then (fX7_shelf_b118 n (M_isHeld, M_taped, M_token, M_from, M_to, M_value, M_isWrong, M_rowN, M_ran, M_actKind, M_actN, M_actA, M_isParted) u_s u_sortOf u_sizeOf x1 x2 x3  (upd u_holdsWhat w1.toNatClampNeg w2) u_holdsWhich u_holdsMany y4 x1 x3) else (if y4 = 0 then (fX7_shelf_b118 n (M_isHeld, M_taped, M_token, M_from, M_to, M_value, M_isWrong, M_rowN, M_ran, M_actKind, M_actN, M_actA, M_isParted) u_s u_sortOf u_sizeOf x1 x2 x3  (upd u_holdsWhat w1.toNatClampNeg w2) u_holdsWhich u_holdsMany y4 x1 (0 : Int32)) else (if x3 < 0 ∨ 4 ≤ x3.toNatClampNeg then none else fX7_shelf_b118 n (M_isHeld, M_taped, M_token, M_from, M_to, M_value, M_isWrong, M_rowN, M_ran, M_actKind, M_actN, M_actA, M_isParted) u_s u_sortOf u_sizeOf x1 x2 x3  (upd u_holdsWhat w1.toNatClampNeg w2) u_holdsWhich u_holdsMany y4 x1 (u_sortOf x3.toNatClampNeg)))) = some z := hf
    obtain ⟨h_89, hf⟩ := zg hf
    refine va_iast hx hb hK hP hD hS 4 0 rfl rfl h_89 dX7_shelf_89 (fun H locs hP hD hS => ?_)
    have hP : va_P D vwCl [(am, .inr (7, [.ref am0, .ref am1, .ref am2, .ref am3, .int M_isHeld, .ref am4, .int M_taped, .int M_token, .int M_from, .int M_to, .int M_value, .int M_isWrong, .ref am5, .int M_rowN, .ref am6, .ref am7, .ref am8, .ref am9, .ref am10, .ref am11, .ref am12, .int M_ran, .int M_actKind, .int M_actN, .int M_actA, .int M_isParted])), (am0, .inl (cy 0, 48, .inl u_s)), (am6, .inl (cy 0, 4, .inl u_sortOf)), (am7, .inl (cy 0, 4, .inl u_sizeOf)), (am9, .inl (cy 0, 4, .inl (upd u_holdsWhat w1.toNatClampNeg w2))), (am10, .inl (cy 0, 4, .inl u_holdsWhich)), (am11, .inl (cy 0, 4, .inl u_holdsMany))] H := hP
    have hD : va_D A [(am, .inr (7, [.ref am0, .ref am1, .ref am2, .ref am3, .int M_isHeld, .ref am4, .int M_taped, .int M_token, .int M_from, .int M_to, .int M_value, .int M_isWrong, .ref am5, .int M_rowN, .ref am6, .ref am7, .ref am8, .ref am9, .ref am10, .ref am11, .ref am12, .int M_ran, .int M_actKind, .int M_actN, .int M_actA, .int M_isParted])), (am0, .inl (cy 0, 48, .inl u_s)), (am6, .inl (cy 0, 4, .inl u_sortOf)), (am7, .inl (cy 0, 4, .inl u_sizeOf)), (am9, .inl (cy 0, 4, .inl (upd u_holdsWhat w1.toNatClampNeg w2))), (am10, .inl (cy 0, 4, .inl u_holdsWhich)), (am11, .inl (cy 0, 4, .inl u_holdsMany))] := hD
    refine lv_aload_n hx hb dX7_shelf_90 rfl (lv_at hl 0 rfl) ?_
    refine va_get (D := D) (ci := 7) (v := .ref am10) (C := RX7) (T := TX7) (N := 26) hx hb hts hin7 hown hK hP 0 rfl rfl 18 (by decide) fl40 (fun _ h9 => h9) rfl dX7_shelf_91 ?_
    refine lv_iload_n hx hb dX7_shelf_94 rfl (lv_at hl 1 rfl) ?_
    refine lv_iload_n hx hb dX7_shelf_95 rfl (lv_at hl 2 rfl) ?_
    refine lv_if_ne (tgt := 103) hx hb dX7_shelf_96 (by decide) (fun c_96 => ?_) (fun c_96 => ?_)
    · have hf := zn hf c_96
      refine lv_iload hx hb dX7_shelf_103 (lv_at hl 4 rfl) ?_
      refine lv_if_eq (tgt := 117) hx hb dX7_shelf_105 (by decide) (fun c_105 => ?_) (fun c_105 => ?_)
      · have hf := zp hf c_105
        refine lv_iconst (v := (0 : Int32)) hx hb dX7_shelf_117 (by decide) ?_
        exact hB118 (upd u_holdsWhat w1.toNatClampNeg w2) u_holdsWhich u_holdsMany y4 x1 (0 : Int32) hf _ _ hP hD hS _ (lv_sub hl [0, 1, 2, 3, 4] rfl)
      · have hf := zn hf c_105
        refine lv_aload_n hx hb dX7_shelf_108 rfl (lv_at hl 0 rfl) ?_
        refine va_get (D := D) (ci := 7) (v := .ref am6) (C := RX7) (T := TX7) (N := 26) hx hb hts hin7 hown hK hP 0 rfl rfl 14 (by decide) fl28 (fun _ h9 => h9) rfl dX7_shelf_109 ?_
        refine lv_iload_n hx hb dX7_shelf_112 rfl (lv_at hl 3 rfl) ?_
        obtain ⟨h_113, hf⟩ := zg hf
        refine va_iald hx hb hK hP 2 0 rfl rfl h_113 dX7_shelf_113 ?_
        refine lv_goto (tgt := 118) hx hb dX7_shelf_114 (by decide) ?_
        exact hB118 (upd u_holdsWhat w1.toNatClampNeg w2) u_holdsWhich u_holdsMany y4 x1 (u_sortOf x3.toNatClampNeg) hf _ _ hP hD hS _ (lv_sub hl [0, 1, 2, 3, 4] rfl)
    · have hf := zp hf c_96
      refine lv_iload_n hx hb dX7_shelf_99 rfl (lv_at hl 3 rfl) ?_
      refine lv_goto (tgt := 118) hx hb dX7_shelf_100 (by decide) ?_
      exact hB118 (upd u_holdsWhat w1.toNatClampNeg w2) u_holdsWhich u_holdsMany y4 x1 x3 hf _ _ hP hD hS _ (lv_sub hl [0, 1, 2, 3, 4] rfl)
  have hB64 : ∀ (u_holdsWhat : (Nat → Int32)) (u_holdsWhich : (Nat → Int32)) (u_holdsMany : (Nat → Int32)) (w0 : Int32), fX7_shelf_b64 n (M_isHeld, M_taped, M_token, M_from, M_to, M_value, M_isWrong, M_rowN, M_ran, M_actKind, M_actN, M_actA, M_isParted) u_s u_sortOf u_sizeOf x1 x2 x3  u_holdsWhat u_holdsWhich u_holdsMany w0 = some z → ∀ (H : Heap) (locs : List Loc), va_P D vwCl [(am, .inr (7, [.ref am0, .ref am1, .ref am2, .ref am3, .int M_isHeld, .ref am4, .int M_taped, .int M_token, .int M_from, .int M_to, .int M_value, .int M_isWrong, .ref am5, .int M_rowN, .ref am6, .ref am7, .ref am8, .ref am9, .ref am10, .ref am11, .ref am12, .int M_ran, .int M_actKind, .int M_actN, .int M_actA, .int M_isParted])), (am0, .inl (cy 0, 48, .inl u_s)), (am6, .inl (cy 0, 4, .inl u_sortOf)), (am7, .inl (cy 0, 4, .inl u_sizeOf)), (am9, .inl (cy 0, 4, .inl u_holdsWhat)), (am10, .inl (cy 0, 4, .inl u_holdsWhich)), (am11, .inl (cy 0, 4, .inl u_holdsMany))] H → va_D A [(am, .inr (7, [.ref am0, .ref am1, .ref am2, .ref am3, .int M_isHeld, .ref am4, .int M_taped, .int M_token, .int M_from, .int M_to, .int M_value, .int M_isWrong, .ref am5, .int M_rowN, .ref am6, .ref am7, .ref am8, .ref am9, .ref am10, .ref am11, .ref am12, .int M_ran, .int M_actKind, .int M_actN, .int M_actA, .int M_isParted])), (am0, .inl (cy 0, 48, .inl u_s)), (am6, .inl (cy 0, 4, .inl u_sortOf)), (am7, .inl (cy 0, 4, .inl u_sizeOf)), (am9, .inl (cy 0, 4, .inl u_holdsWhat)), (am10, .inl (cy 0, 4, .inl u_holdsWhich)), (am11, .inl (cy 0, 4, .inl u_holdsMany))] → va_S A s.heap H locs → ∀ (ls : Array Slot), lv_has ls 5 [(0, .ref am), (1, .int x1), (2, .int x2), (3, .int x3)] → W p l e (headSpec wsX7_shelf ({ frames := 2, cells := 0, slots := 0, locals := 45 })).room s m ([.ref am, .int x1, .int x2, .int x3] : List Value).toArray below meth c H locs 0 0 (MQ below (Qw (some (.int z.1)) D [(am, .inr (7, [.ref am0, .ref am1, .ref am2, .ref am3, .int M_isHeld, .ref am4, .int M_taped, .int M_token, .int M_from, .int M_to, .int M_value, .int M_isWrong, .ref am5, .int M_rowN, .ref am6, .ref am7, .ref am8, .ref am9, .ref am10, .ref am11, .ref am12, .int M_ran, .int M_actKind, .int M_actN, .int M_actA, .int M_isParted])), (am0, .inl (cy 0, 48, .inl u_s)), (am6, .inl (cy 0, 4, .inl u_sortOf)), (am7, .inl (cy 0, 4, .inl u_sizeOf)), (am9, .inl (cy 0, 4, .inl z.2.1)), (am10, .inl (cy 0, 4, .inl z.2.2.1)), (am11, .inl (cy 0, 4, .inl z.2.2.2))] A) ([.ref am, .int x1, .int x2, .int x3] : List Value).toArray s 0 0 A) (F0 m 64 ls [.int w0]) := by
    intro u_holdsWhat u_holdsWhich u_holdsMany w0 hf H locs hP hD hS ls hl
    have hf : (if x2 = 0 then (fX7_shelf_b89 n (M_isHeld, M_taped, M_token, M_from, M_to, M_value, M_isWrong, M_rowN, M_ran, M_actKind, M_actN, M_actA, M_isParted) u_s u_sortOf u_sizeOf x1 x2 x3  u_holdsWhat u_holdsWhich u_holdsMany w0 x1 (1 : Int32)) else (if w0 = 0 then (fX7_shelf_b89 n (M_isHeld, M_taped, M_token, M_from, M_to, M_value, M_isWrong, M_rowN, M_ran, M_actKind, M_actN, M_actA, M_isParted) u_s u_sortOf u_sizeOf x1 x2 x3  u_holdsWhat u_holdsWhich u_holdsMany w0 x1 (0 : Int32)) else (fX7_shelf_b89 n (M_isHeld, M_taped, M_token, M_from, M_to, M_value, M_isWrong, M_rowN, M_ran, M_actKind, M_actN, M_actA, M_isParted) u_s u_sortOf u_sizeOf x1 x2 x3  u_holdsWhat u_holdsWhich u_holdsMany w0 x1 (2 : Int32)))) = some z := hf
    refine lv_istore (lv' := [(4, .int w0), (0, .ref am), (1, .int x1), (2, .int x2), (3, .int x3)]) hx hb dX7_shelf_64 hl (by decide) rfl (fun ls hl => ?_)
    refine lv_aload_n hx hb dX7_shelf_66 rfl (lv_at hl 1 rfl) ?_
    refine va_get (D := D) (ci := 7) (v := .ref am9) (C := RX7) (T := TX7) (N := 26) hx hb hts hin7 hown hK hP 0 rfl rfl 17 (by decide) fl37 (fun _ h9 => h9) rfl dX7_shelf_67 ?_
    refine lv_iload_n hx hb dX7_shelf_70 rfl (lv_at hl 2 rfl) ?_
    refine lv_iload_n hx hb dX7_shelf_71 rfl (lv_at hl 3 rfl) ?_
    refine lv_if_ne (tgt := 79) hx hb dX7_shelf_72 (by decide) (fun c_72 => ?_) (fun c_72 => ?_)
    · have hf := zn hf c_72
      refine lv_iload hx hb dX7_shelf_79 (lv_at hl 0 rfl) ?_
      refine lv_if_eq (tgt := 88) hx hb dX7_shelf_81 (by decide) (fun c_81 => ?_) (fun c_81 => ?_)
      · have hf := zp hf c_81
        refine lv_iconst (v := (0 : Int32)) hx hb dX7_shelf_88 (by decide) ?_
        exact hB89 u_holdsWhat u_holdsWhich u_holdsMany w0 x1 (0 : Int32) hf _ _ hP hD hS _ (lv_sub hl [1, 2, 3, 4, 0] rfl)
      · have hf := zn hf c_81
        refine lv_iconst (v := (2 : Int32)) hx hb dX7_shelf_84 (by decide) ?_
        refine lv_goto (tgt := 89) hx hb dX7_shelf_85 (by decide) ?_
        exact hB89 u_holdsWhat u_holdsWhich u_holdsMany w0 x1 (2 : Int32) hf _ _ hP hD hS _ (lv_sub hl [1, 2, 3, 4, 0] rfl)
    · have hf := zp hf c_72
      refine lv_iconst (v := (1 : Int32)) hx hb dX7_shelf_75 (by decide) ?_
      refine lv_goto (tgt := 89) hx hb dX7_shelf_76 (by decide) ?_
      exact hB89 u_holdsWhat u_holdsWhich u_holdsMany w0 x1 (1 : Int32) hf _ _ hP hD hS _ (lv_sub hl [1, 2, 3, 4, 0] rfl)
  have hB63 : ∀ (u_holdsWhat : (Nat → Int32)) (u_holdsWhich : (Nat → Int32)) (u_holdsMany : (Nat → Int32)), fX7_shelf_b63 n (M_isHeld, M_taped, M_token, M_from, M_to, M_value, M_isWrong, M_rowN, M_ran, M_actKind, M_actN, M_actA, M_isParted) u_s u_sortOf u_sizeOf x1 x2 x3  u_holdsWhat u_holdsWhich u_holdsMany = some z → ∀ (H : Heap) (locs : List Loc), va_P D vwCl [(am, .inr (7, [.ref am0, .ref am1, .ref am2, .ref am3, .int M_isHeld, .ref am4, .int M_taped, .int M_token, .int M_from, .int M_to, .int M_value, .int M_isWrong, .ref am5, .int M_rowN, .ref am6, .ref am7, .ref am8, .ref am9, .ref am10, .ref am11, .ref am12, .int M_ran, .int M_actKind, .int M_actN, .int M_actA, .int M_isParted])), (am0, .inl (cy 0, 48, .inl u_s)), (am6, .inl (cy 0, 4, .inl u_sortOf)), (am7, .inl (cy 0, 4, .inl u_sizeOf)), (am9, .inl (cy 0, 4, .inl u_holdsWhat)), (am10, .inl (cy 0, 4, .inl u_holdsWhich)), (am11, .inl (cy 0, 4, .inl u_holdsMany))] H → va_D A [(am, .inr (7, [.ref am0, .ref am1, .ref am2, .ref am3, .int M_isHeld, .ref am4, .int M_taped, .int M_token, .int M_from, .int M_to, .int M_value, .int M_isWrong, .ref am5, .int M_rowN, .ref am6, .ref am7, .ref am8, .ref am9, .ref am10, .ref am11, .ref am12, .int M_ran, .int M_actKind, .int M_actN, .int M_actA, .int M_isParted])), (am0, .inl (cy 0, 48, .inl u_s)), (am6, .inl (cy 0, 4, .inl u_sortOf)), (am7, .inl (cy 0, 4, .inl u_sizeOf)), (am9, .inl (cy 0, 4, .inl u_holdsWhat)), (am10, .inl (cy 0, 4, .inl u_holdsWhich)), (am11, .inl (cy 0, 4, .inl u_holdsMany))] → va_S A s.heap H locs → ∀ (ls : Array Slot), lv_has ls 5 [(0, .ref am), (1, .int x1), (2, .int x2), (3, .int x3)] → W p l e (headSpec wsX7_shelf ({ frames := 2, cells := 0, slots := 0, locals := 45 })).room s m ([.ref am, .int x1, .int x2, .int x3] : List Value).toArray below meth c H locs 0 0 (MQ below (Qw (some (.int z.1)) D [(am, .inr (7, [.ref am0, .ref am1, .ref am2, .ref am3, .int M_isHeld, .ref am4, .int M_taped, .int M_token, .int M_from, .int M_to, .int M_value, .int M_isWrong, .ref am5, .int M_rowN, .ref am6, .ref am7, .ref am8, .ref am9, .ref am10, .ref am11, .ref am12, .int M_ran, .int M_actKind, .int M_actN, .int M_actA, .int M_isParted])), (am0, .inl (cy 0, 48, .inl u_s)), (am6, .inl (cy 0, 4, .inl u_sortOf)), (am7, .inl (cy 0, 4, .inl u_sizeOf)), (am9, .inl (cy 0, 4, .inl z.2.1)), (am10, .inl (cy 0, 4, .inl z.2.2.1)), (am11, .inl (cy 0, 4, .inl z.2.2.2))] A) ([.ref am, .int x1, .int x2, .int x3] : List Value).toArray s 0 0 A) (F0 m 63 ls []) := by
    intro u_holdsWhat u_holdsWhich u_holdsMany hf H locs hP hD hS ls hl
    have hf : (fX7_shelf_b64 n (M_isHeld, M_taped, M_token, M_from, M_to, M_value, M_isWrong, M_rowN, M_ran, M_actKind, M_actN, M_actA, M_isParted) u_s u_sortOf u_sizeOf x1 x2 x3  u_holdsWhat u_holdsWhich u_holdsMany (0 : Int32)) = some z := hf
    refine lv_iconst (v := (0 : Int32)) hx hb dX7_shelf_63 (by decide) ?_
    exact hB64 u_holdsWhat u_holdsWhich u_holdsMany (0 : Int32) hf _ _ hP hD hS _ (lv_sub hl [0, 1, 2, 3] rfl)
  have hB45 : ∀ (u_holdsWhat : (Nat → Int32)) (u_holdsWhich : (Nat → Int32)) (u_holdsMany : (Nat → Int32)), fX7_shelf_b45 n (M_isHeld, M_taped, M_token, M_from, M_to, M_value, M_isWrong, M_rowN, M_ran, M_actKind, M_actN, M_actA, M_isParted) u_s u_sortOf u_sizeOf x1 x2 x3  u_holdsWhat u_holdsWhich u_holdsMany = some z → ∀ (H : Heap) (locs : List Loc), va_P D vwCl [(am, .inr (7, [.ref am0, .ref am1, .ref am2, .ref am3, .int M_isHeld, .ref am4, .int M_taped, .int M_token, .int M_from, .int M_to, .int M_value, .int M_isWrong, .ref am5, .int M_rowN, .ref am6, .ref am7, .ref am8, .ref am9, .ref am10, .ref am11, .ref am12, .int M_ran, .int M_actKind, .int M_actN, .int M_actA, .int M_isParted])), (am0, .inl (cy 0, 48, .inl u_s)), (am6, .inl (cy 0, 4, .inl u_sortOf)), (am7, .inl (cy 0, 4, .inl u_sizeOf)), (am9, .inl (cy 0, 4, .inl u_holdsWhat)), (am10, .inl (cy 0, 4, .inl u_holdsWhich)), (am11, .inl (cy 0, 4, .inl u_holdsMany))] H → va_D A [(am, .inr (7, [.ref am0, .ref am1, .ref am2, .ref am3, .int M_isHeld, .ref am4, .int M_taped, .int M_token, .int M_from, .int M_to, .int M_value, .int M_isWrong, .ref am5, .int M_rowN, .ref am6, .ref am7, .ref am8, .ref am9, .ref am10, .ref am11, .ref am12, .int M_ran, .int M_actKind, .int M_actN, .int M_actA, .int M_isParted])), (am0, .inl (cy 0, 48, .inl u_s)), (am6, .inl (cy 0, 4, .inl u_sortOf)), (am7, .inl (cy 0, 4, .inl u_sizeOf)), (am9, .inl (cy 0, 4, .inl u_holdsWhat)), (am10, .inl (cy 0, 4, .inl u_holdsWhich)), (am11, .inl (cy 0, 4, .inl u_holdsMany))] → va_S A s.heap H locs → ∀ (ls : Array Slot), lv_has ls 5 [(0, .ref am), (1, .int x1), (2, .int x2), (3, .int x3)] → W p l e (headSpec wsX7_shelf ({ frames := 2, cells := 0, slots := 0, locals := 45 })).room s m ([.ref am, .int x1, .int x2, .int x3] : List Value).toArray below meth c H locs 0 0 (MQ below (Qw (some (.int z.1)) D [(am, .inr (7, [.ref am0, .ref am1, .ref am2, .ref am3, .int M_isHeld, .ref am4, .int M_taped, .int M_token, .int M_from, .int M_to, .int M_value, .int M_isWrong, .ref am5, .int M_rowN, .ref am6, .ref am7, .ref am8, .ref am9, .ref am10, .ref am11, .ref am12, .int M_ran, .int M_actKind, .int M_actN, .int M_actA, .int M_isParted])), (am0, .inl (cy 0, 48, .inl u_s)), (am6, .inl (cy 0, 4, .inl u_sortOf)), (am7, .inl (cy 0, 4, .inl u_sizeOf)), (am9, .inl (cy 0, 4, .inl z.2.1)), (am10, .inl (cy 0, 4, .inl z.2.2.1)), (am11, .inl (cy 0, 4, .inl z.2.2.2))] A) ([.ref am, .int x1, .int x2, .int x3] : List Value).toArray s 0 0 A) (F0 m 45 ls []) := by
    intro u_holdsWhat u_holdsWhich u_holdsMany hf H locs hP hD hS ls hl
    have hf : (if x2 = (1 : Int32) then (if x3 < 0 ∨ 4 ≤ x3.toNatClampNeg then none else if (u_sortOf x3.toNatClampNeg) < 0 then (fX7_shelf_b63 n (M_isHeld, M_taped, M_token, M_from, M_to, M_value, M_isWrong, M_rowN, M_ran, M_actKind, M_actN, M_actA, M_isParted) u_s u_sortOf u_sizeOf x1 x2 x3  u_holdsWhat u_holdsWhich u_holdsMany) else (fX7_shelf_b64 n (M_isHeld, M_taped, M_token, M_from, M_to, M_value, M_isWrong, M_rowN, M_ran, M_actKind, M_actN, M_actA, M_isParted) u_s u_sortOf u_sizeOf x1 x2 x3  u_holdsWhat u_holdsWhich u_holdsMany (1 : Int32))) else (fX7_shelf_b63 n (M_isHeld, M_taped, M_token, M_from, M_to, M_value, M_isWrong, M_rowN, M_ran, M_actKind, M_actN, M_actA, M_isParted) u_s u_sortOf u_sizeOf x1 x2 x3  u_holdsWhat u_holdsWhich u_holdsMany)) = some z := hf
    refine lv_iload_n hx hb dX7_shelf_45 rfl (lv_at hl 2 rfl) ?_
    refine lv_iconst (v := (1 : Int32)) hx hb dX7_shelf_46 (by decide) ?_
    refine lv_icmp_ne (tgt := 63) hx hb dX7_shelf_47 (by decide) (fun c_47 => ?_) (fun c_47 => ?_)
    · have hf := zn hf c_47
      exact hB63 u_holdsWhat u_holdsWhich u_holdsMany hf _ _ hP hD hS _ (lv_sub hl [0, 1, 2, 3] rfl)
    · have hf := zp hf c_47
      refine lv_aload_n hx hb dX7_shelf_50 rfl (lv_at hl 0 rfl) ?_
      refine va_get (D := D) (ci := 7) (v := .ref am6) (C := RX7) (T := TX7) (N := 26) hx hb hts hin7 hown hK hP 0 rfl rfl 14 (by decide) fl28 (fun _ h9 => h9) rfl dX7_shelf_51 ?_
      refine lv_iload_n hx hb dX7_shelf_54 rfl (lv_at hl 3 rfl) ?_
      obtain ⟨h_55, hf⟩ := zg hf
      refine va_iald hx hb hK hP 2 0 rfl rfl h_55 dX7_shelf_55 ?_
      refine lv_if_lt (tgt := 63) hx hb dX7_shelf_56 (by decide) (fun c_56 => ?_) (fun c_56 => ?_)
      · have hf := zp hf c_56
        exact hB63 u_holdsWhat u_holdsWhich u_holdsMany hf _ _ hP hD hS _ (lv_sub hl [0, 1, 2, 3] rfl)
      · have hf := zn hf c_56
        refine lv_iconst (v := (1 : Int32)) hx hb dX7_shelf_59 (by decide) ?_
        refine lv_goto (tgt := 64) hx hb dX7_shelf_60 (by decide) ?_
        exact hB64 u_holdsWhat u_holdsWhich u_holdsMany (1 : Int32) hf _ _ hP hD hS _ (lv_sub hl [0, 1, 2, 3] rfl)
  have hB31 : ∀ (u_holdsWhat : (Nat → Int32)) (u_holdsWhich : (Nat → Int32)) (u_holdsMany : (Nat → Int32)), fX7_shelf_b31 n (M_isHeld, M_taped, M_token, M_from, M_to, M_value, M_isWrong, M_rowN, M_ran, M_actKind, M_actN, M_actA, M_isParted) u_s u_sortOf u_sizeOf x1 x2 x3  u_holdsWhat u_holdsWhich u_holdsMany = some z → ∀ (H : Heap) (locs : List Loc), va_P D vwCl [(am, .inr (7, [.ref am0, .ref am1, .ref am2, .ref am3, .int M_isHeld, .ref am4, .int M_taped, .int M_token, .int M_from, .int M_to, .int M_value, .int M_isWrong, .ref am5, .int M_rowN, .ref am6, .ref am7, .ref am8, .ref am9, .ref am10, .ref am11, .ref am12, .int M_ran, .int M_actKind, .int M_actN, .int M_actA, .int M_isParted])), (am0, .inl (cy 0, 48, .inl u_s)), (am6, .inl (cy 0, 4, .inl u_sortOf)), (am7, .inl (cy 0, 4, .inl u_sizeOf)), (am9, .inl (cy 0, 4, .inl u_holdsWhat)), (am10, .inl (cy 0, 4, .inl u_holdsWhich)), (am11, .inl (cy 0, 4, .inl u_holdsMany))] H → va_D A [(am, .inr (7, [.ref am0, .ref am1, .ref am2, .ref am3, .int M_isHeld, .ref am4, .int M_taped, .int M_token, .int M_from, .int M_to, .int M_value, .int M_isWrong, .ref am5, .int M_rowN, .ref am6, .ref am7, .ref am8, .ref am9, .ref am10, .ref am11, .ref am12, .int M_ran, .int M_actKind, .int M_actN, .int M_actA, .int M_isParted])), (am0, .inl (cy 0, 48, .inl u_s)), (am6, .inl (cy 0, 4, .inl u_sortOf)), (am7, .inl (cy 0, 4, .inl u_sizeOf)), (am9, .inl (cy 0, 4, .inl u_holdsWhat)), (am10, .inl (cy 0, 4, .inl u_holdsWhich)), (am11, .inl (cy 0, 4, .inl u_holdsMany))] → va_S A s.heap H locs → ∀ (ls : Array Slot), lv_has ls 5 [(0, .ref am), (1, .int x1), (2, .int x2), (3, .int x3)] → W p l e (headSpec wsX7_shelf ({ frames := 2, cells := 0, slots := 0, locals := 45 })).room s m ([.ref am, .int x1, .int x2, .int x3] : List Value).toArray below meth c H locs 0 0 (MQ below (Qw (some (.int z.1)) D [(am, .inr (7, [.ref am0, .ref am1, .ref am2, .ref am3, .int M_isHeld, .ref am4, .int M_taped, .int M_token, .int M_from, .int M_to, .int M_value, .int M_isWrong, .ref am5, .int M_rowN, .ref am6, .ref am7, .ref am8, .ref am9, .ref am10, .ref am11, .ref am12, .int M_ran, .int M_actKind, .int M_actN, .int M_actA, .int M_isParted])), (am0, .inl (cy 0, 48, .inl u_s)), (am6, .inl (cy 0, 4, .inl u_sortOf)), (am7, .inl (cy 0, 4, .inl u_sizeOf)), (am9, .inl (cy 0, 4, .inl z.2.1)), (am10, .inl (cy 0, 4, .inl z.2.2.1)), (am11, .inl (cy 0, 4, .inl z.2.2.2))] A) ([.ref am, .int x1, .int x2, .int x3] : List Value).toArray s 0 0 A) (F0 m 31 ls []) := by
    intro u_holdsWhat u_holdsWhich u_holdsMany hf H locs hP hD hS ls hl
    have hf : (if x2 = (1 : Int32) then ((fX7_isSheet n x3).bind fun r37 => if r37 = 0 then (some ((-1 : Int32), u_holdsWhat, u_holdsWhich, u_holdsMany)) else (fX7_shelf_b45 n (M_isHeld, M_taped, M_token, M_from, M_to, M_value, M_isWrong, M_rowN, M_ran, M_actKind, M_actN, M_actA, M_isParted) u_s u_sortOf u_sizeOf x1 x2 x3  u_holdsWhat u_holdsWhich u_holdsMany)) else (fX7_shelf_b45 n (M_isHeld, M_taped, M_token, M_from, M_to, M_value, M_isWrong, M_rowN, M_ran, M_actKind, M_actN, M_actA, M_isParted) u_s u_sortOf u_sizeOf x1 x2 x3  u_holdsWhat u_holdsWhich u_holdsMany)) = some z := hf
    refine lv_iload_n hx hb dX7_shelf_31 rfl (lv_at hl 2 rfl) ?_
    refine lv_iconst (v := (1 : Int32)) hx hb dX7_shelf_32 (by decide) ?_
    refine lv_icmp_ne (tgt := 45) hx hb dX7_shelf_33 (by decide) (fun c_33 => ?_) (fun c_33 => ?_)
    · have hf := zn hf c_33
      exact hB45 u_holdsWhat u_holdsWhich u_holdsMany hf _ _ hP hD hS _ (lv_sub hl [0, 1, 2, 3] rfl)
    · have hf := zp hf c_33
      refine lv_iload_n hx hb dX7_shelf_36 rfl (lv_at hl 3 rfl) ?_
      obtain ⟨r37, hc37, hf⟩ := zb hf
      refine zsr (o := some (.int r37)) (As := [.int x3]) (rest := []) (stk := [.int r37]) ⟨hx, hb, hml, hown, hts⟩ (mX7_isSheet l D cy st sk sv B  n x3 r37 hc37) (va_cwS 1 hts gX7_shelf_X7_isSheet rfl rfl rfl (by decide +kernel) ⟨Nat.le_of_ble_eq_true rfl, Nat.le_of_ble_eq_true rfl⟩) hG hS hAB hP [] rfl rfl hl.1 rfl (Nat.le_of_ble_eq_true rfl) dX7_shelf_37 rfl ?_
      refine lv_if_ne (tgt := 45) hx hb dX7_shelf_40 (by decide) (fun c_40 => ?_) (fun c_40 => ?_)
      · have hf := zn hf c_40
        exact hB45 u_holdsWhat u_holdsWhich u_holdsMany hf _ _ hP hD hS _ (lv_sub hl [0, 1, 2, 3] rfl)
      · have hf := zp hf c_40
        refine lv_iconst (v := (-1 : Int32)) hx hb dX7_shelf_43 (by decide) ?_
        exact W.iret hx hb hr (fun t ht hW => hfin (-1 : Int32) u_holdsWhat u_holdsWhich u_holdsMany hf _ t ht hP (hS.F ht)) hS.2.2 dX7_shelf_44
  have hl := lv_entry ([.ref am, .int x1, .int x2, .int x3]) (n := 5) (Nat.le_of_ble_eq_true rfl)
  rw [lg_entry_eq]
  generalize (lg_sl ([.ref am, .int x1, .int x2, .int x3]) ++ List.replicate (5 - (lg_sl ([.ref am, .int x1, .int x2, .int x3])).length) Slot.unset).toArray = ls at hl ⊢
  have hl : lv_has ls 5 [(0, .ref am), (1, .int x1), (2, .int x2), (3, .int x3)] := hl
  have hf : ((fX7_isShelf n x1).bind fun r1 => if r1 = 0 then (some ((-1 : Int32), u_holdsWhat, u_holdsWhich, u_holdsMany)) else ((fX7_isIn n x2.toInt64 (0 : Int64) (2 : Int64)).bind fun r13 => if r13 = 0 then (some ((-1 : Int32), u_holdsWhat, u_holdsWhich, u_holdsMany)) else (if x2 = 0 then ((fX7_isOne n (M_isHeld, M_taped, M_token, M_from, M_to, M_value, M_isWrong, M_rowN, M_ran, M_actKind, M_actN, M_actA, M_isParted) u_s x3).bind fun r25 => if r25 = 0 then (some ((-1 : Int32), u_holdsWhat, u_holdsWhich, u_holdsMany)) else (fX7_shelf_b31 n (M_isHeld, M_taped, M_token, M_from, M_to, M_value, M_isWrong, M_rowN, M_ran, M_actKind, M_actN, M_actA, M_isParted) u_s u_sortOf u_sizeOf x1 x2 x3  u_holdsWhat u_holdsWhich u_holdsMany)) else (fX7_shelf_b31 n (M_isHeld, M_taped, M_token, M_from, M_to, M_value, M_isWrong, M_rowN, M_ran, M_actKind, M_actN, M_actA, M_isParted) u_s u_sortOf u_sizeOf x1 x2 x3  u_holdsWhat u_holdsWhich u_holdsMany)))) = some z := hf
  refine lv_iload_n hx hb dX7_shelf_0 rfl (lv_at hl 1 rfl) ?_
  obtain ⟨r1, hc1, hf⟩ := zb hf
  refine zsr (o := some (.int r1)) (As := [.int x1]) (rest := []) (stk := [.int r1]) ⟨hx, hb, hml, hown, hts⟩ (mX7_isShelf l D cy st sk sv B  n x1 r1 hc1) (va_cwS 1 hts gX7_shelf_X7_isShelf rfl rfl rfl (by decide +kernel) ⟨Nat.le_of_ble_eq_true rfl, Nat.le_of_ble_eq_true rfl⟩) hG hS hAB hP [] rfl rfl hl.1 rfl (Nat.le_of_ble_eq_true rfl) dX7_shelf_1 rfl ?_
  refine lv_if_eq (tgt := 43) hx hb dX7_shelf_4 (by decide) (fun c_4 => ?_) (fun c_4 => ?_)
  · have hf := zp hf c_4
    refine lv_iconst (v := (-1 : Int32)) hx hb dX7_shelf_43 (by decide) ?_
    exact W.iret hx hb hr (fun t ht hW => hfin (-1 : Int32) u_holdsWhat u_holdsWhich u_holdsMany hf _ t ht hP (hS.F ht)) hS.2.2 dX7_shelf_44
  · have hf := zn hf c_4
    refine lv_iload_n hx hb dX7_shelf_7 rfl (lv_at hl 2 rfl) ?_
    refine lv_i2l hx hb dX7_shelf_8 rfl ?_
    refine lv_lconst (v := (0 : Int64)) hx hb dX7_shelf_9 (by decide) ?_
    refine lv_ldc2 (v := (2 : Int64)) hx hb hown (hts (.constantLong RX7 167 (2)) (by decide +kernel)) dX7_shelf_10 ?_
    obtain ⟨r13, hc13, hf⟩ := zb hf
    refine zsr (o := some (.int r13)) (As := [.long x2.toInt64, .long (0 : Int64), .long (2 : Int64)]) (rest := []) (stk := [.int r13]) ⟨hx, hb, hml, hown, hts⟩ (mX7_isIn l D cy st sk sv B  n x2.toInt64 (0 : Int64) (2 : Int64) r13 hc13) (va_cwS 3 hts gX7_shelf_X7_isIn rfl rfl rfl (by decide +kernel) ⟨Nat.le_of_ble_eq_true rfl, Nat.le_of_ble_eq_true rfl⟩) hG hS hAB hP [] rfl rfl hl.1 rfl (Nat.le_of_ble_eq_true rfl) dX7_shelf_13 rfl ?_
    refine lv_if_eq (tgt := 43) hx hb dX7_shelf_16 (by decide) (fun c_16 => ?_) (fun c_16 => ?_)
    · have hf := zp hf c_16
      refine lv_iconst (v := (-1 : Int32)) hx hb dX7_shelf_43 (by decide) ?_
      exact W.iret hx hb hr (fun t ht hW => hfin (-1 : Int32) u_holdsWhat u_holdsWhich u_holdsMany hf _ t ht hP (hS.F ht)) hS.2.2 dX7_shelf_44
    · have hf := zn hf c_16
      refine lv_iload_n hx hb dX7_shelf_19 rfl (lv_at hl 2 rfl) ?_
      refine lv_if_ne (tgt := 31) hx hb dX7_shelf_20 (by decide) (fun c_20 => ?_) (fun c_20 => ?_)
      · have hf := zn hf c_20
        exact hB31 u_holdsWhat u_holdsWhich u_holdsMany hf _ _ hP hD hS _ (lv_sub hl [0, 1, 2, 3] rfl)
      · have hf := zp hf c_20
        refine lv_aload_n hx hb dX7_shelf_23 rfl (lv_at hl 0 rfl) ?_
        refine lv_iload_n hx hb dX7_shelf_24 rfl (lv_at hl 3 rfl) ?_
        obtain ⟨r25, hc25, hf⟩ := zb hf
        refine zvr (o := some (.int r25)) (As := [.int x3]) (rest := []) (stk := [.int r25]) ⟨hx, hb, hml, hown, hts⟩ (mX7_isOne l D cy st sk sv B am am0 am1 am2 am3 am4 am5 am6 am7 am8 am9 am10 am11 am12 n M_isHeld M_taped M_token M_from M_to M_value M_isWrong M_rowN M_ran M_actKind M_actN M_actA M_isParted u_s x3 r25 hc25) (cwV 1 hts gX7_shelf_X7_isOne rfl rfl rfl (by decide +kernel) ⟨Nat.le_of_ble_eq_true rfl, Nat.le_of_ble_eq_true rfl⟩) hG hS hAB hP [0, 1] rfl 0 7 rfl rfl rfl rfl hl.1 rfl (Nat.le_of_ble_eq_true rfl) dX7_shelf_25 rfl ?_
        refine lv_if_eq (tgt := 43) hx hb dX7_shelf_28 (by decide) (fun c_28 => ?_) (fun c_28 => ?_)
        · have hf := zp hf c_28
          refine lv_iconst (v := (-1 : Int32)) hx hb dX7_shelf_43 (by decide) ?_
          exact W.iret hx hb hr (fun t ht hW => hfin (-1 : Int32) u_holdsWhat u_holdsWhich u_holdsMany hf _ t ht hP (hS.F ht)) hS.2.2 dX7_shelf_44
        · have hf := zn hf c_28
          exact hB31 u_holdsWhat u_holdsWhich u_holdsMany hf _ _ hP hD hS _ (lv_sub hl [0, 1, 2, 3] rfl)
set_option maxRecDepth 100000 in
set_option maxHeartbeats 100000000 in
theorem mX7_heldOn (l : Launch) (D : va_G) (cy : Nat → ClassId) (st sk sv : Nat → Nat) (B : Nat) (am : Nat) (am0 : Nat) (am1 : Nat) (am2 : Nat) (am3 : Nat) (am4 : Nat) (am5 : Nat) (am6 : Nat) (am7 : Nat) (am8 : Nat) (am9 : Nat) (am10 : Nat) (am11 : Nat) (am12 : Nat) (n : Nat) (M_isHeld : Int32) (M_taped : Int32) (M_token : Int32) (M_from : Int32) (M_to : Int32) (M_value : Int32) (M_isWrong : Int32) (M_rowN : Int32) (M_ran : Int32) (M_actKind : Int32) (M_actN : Int32) (M_actA : Int32) (M_isParted : Int32) (u_s : (Nat → Int32)) (u_holdsWhat : (Nat → Int32)) (u_holdsWhich : (Nat → Int32)) (x1 : Int32) (z : Int32) (hf : fX7_heldOn n (M_isHeld, M_taped, M_token, M_from, M_to, M_value, M_isWrong, M_rowN, M_ran, M_actKind, M_actN, M_actA, M_isParted) u_s u_holdsWhat u_holdsWhich x1 = some z) : Met l yX7_heldOn wsX7_heldOn ({ frames := 1, cells := 0, slots := 0, locals := 21 }) (PcR [.ref am, .int x1] D cy st sk sv B [(am, .inr (7, [.ref am0, .ref am1, .ref am2, .ref am3, .int M_isHeld, .ref am4, .int M_taped, .int M_token, .int M_from, .int M_to, .int M_value, .int M_isWrong, .ref am5, .int M_rowN, .ref am6, .ref am7, .ref am8, .ref am9, .ref am10, .ref am11, .ref am12, .int M_ran, .int M_actKind, .int M_actN, .int M_actA, .int M_isParted])), (am0, .inl (cy 0, 48, .inl u_s)), (am9, .inl (cy 0, 4, .inl u_holdsWhat)), (am10, .inl (cy 0, 4, .inl u_holdsWhich))]) (Qr (some (.int z))) 0 0 (fun _ => False) := by
  refine Met.ofW (cc := cX7_heldOn) (maxL := 2) (ret := (some .int)) (by decide) rfl ?_
  intro p e s m args below meth c s₁ Bd hml hv
  obtain ⟨rfl, hP, hG⟩ := hv
  have hx := Bd.exec
  have hb := Bd.bytes
  have hr := Bd.returns
  have hts := atoms_spec (ws := wsX7_heldOn) Bd.pre
  have hown : s.vm.findClass RX7 = some m.cls := findClass_of_methodNamed Bd.named
  have hlocks := Bd.notSynchronized
  have hK := hG.1
  have hS : va_S (fun q => B ≤ q) s.heap s.heap [] := va_S.rf
  have hAB : ∀ q, (fun q => B ≤ q) q → B ≤ q := fun _ h => h
  have hin7 : ∀ w ∈ u_ws RX7 TX7 26, w ∈ wsX7_heldOn := by decide +kernel
  have fl37 := hts (.fieldLink RX7 37 "KinCutleryModel" "holdsWhat" "[I") (by decide +kernel)
  have fl40 := hts (.fieldLink RX7 40 "KinCutleryModel" "holdsWhich" "[I") (by decide +kernel)
  have hB27 : fX7_heldOn_b27 n (M_isHeld, M_taped, M_token, M_from, M_to, M_value, M_isWrong, M_rowN, M_ran, M_actKind, M_actN, M_actA, M_isParted) u_s u_holdsWhat u_holdsWhich x1   = some z → ∀ (ls : Array Slot), lv_has ls 2 [(0, .ref am), (1, .int x1)] → W p l e (headSpec wsX7_heldOn ({ frames := 1, cells := 0, slots := 0, locals := 21 })).room s m ([.ref am, .int x1] : List Value).toArray below meth c s.heap [] 0 0 (MQ below (Qr (some (.int z))) ([.ref am, .int x1] : List Value).toArray s 0 0 (fun _ => False)) (F0 m 27 ls []) := by
    intro  hf ls hl
    have hf : (if x1 < 0 ∨ 4 ≤ x1.toNatClampNeg then none else some (u_holdsWhat x1.toNatClampNeg)) = some z := hf
    refine lv_aload_n hx hb dX7_heldOn_27 rfl (lv_at hl 0 rfl) ?_
    refine va_get (D := D) (ci := 7) (v := .ref am9) (C := RX7) (T := TX7) (N := 26) hx hb hts hin7 hown hK hP 0 rfl rfl 17 (by decide) fl37 (fun _ h9 => h9) rfl dX7_heldOn_28 ?_
    refine lv_iload_n hx hb dX7_heldOn_31 rfl (lv_at hl 1 rfl) ?_
    obtain ⟨h_32, hf⟩ := zg hf
    refine va_iald hx hb hK hP 2 0 rfl rfl h_32 dX7_heldOn_32 ?_
    cases hf
    exact W.iret hx hb hr (fun t ht hW => ⟨rfl, ht⟩) (fun q h => absurd h List.not_mem_nil) dX7_heldOn_33
  have hl := lv_entry ([.ref am, .int x1]) (n := 2) (Nat.le_of_ble_eq_true rfl)
  rw [lg_entry_eq]
  generalize (lg_sl ([.ref am, .int x1]) ++ List.replicate (2 - (lg_sl ([.ref am, .int x1])).length) Slot.unset).toArray = ls at hl ⊢
  have hl : lv_has ls 2 [(0, .ref am), (1, .int x1)] := hl
  have hf : (if x1 < 0 ∨ 4 ≤ x1.toNatClampNeg then none else if (u_holdsWhat x1.toNatClampNeg) = (1 : Int32) then (if x1 < 0 ∨ 4 ≤ x1.toNatClampNeg then none else (fX7_isOne n (M_isHeld, M_taped, M_token, M_from, M_to, M_value, M_isWrong, M_rowN, M_ran, M_actKind, M_actN, M_actA, M_isParted) u_s (u_holdsWhich x1.toNatClampNeg)).bind fun r17 => if r17 = 0 then (some (0 : Int32)) else (fX7_heldOn_b27 n (M_isHeld, M_taped, M_token, M_from, M_to, M_value, M_isWrong, M_rowN, M_ran, M_actKind, M_actN, M_actA, M_isParted) u_s u_holdsWhat u_holdsWhich x1  )) else (fX7_heldOn_b27 n (M_isHeld, M_taped, M_token, M_from, M_to, M_value, M_isWrong, M_rowN, M_ran, M_actKind, M_actN, M_actA, M_isParted) u_s u_holdsWhat u_holdsWhich x1  )) = some z := hf
  refine lv_aload_n hx hb dX7_heldOn_0 rfl (lv_at hl 0 rfl) ?_
  refine va_get (D := D) (ci := 7) (v := .ref am9) (C := RX7) (T := TX7) (N := 26) hx hb hts hin7 hown hK hP 0 rfl rfl 17 (by decide) fl37 (fun _ h9 => h9) rfl dX7_heldOn_1 ?_
  refine lv_iload_n hx hb dX7_heldOn_4 rfl (lv_at hl 1 rfl) ?_
  obtain ⟨h_5, hf⟩ := zg hf
  refine va_iald hx hb hK hP 2 0 rfl rfl h_5 dX7_heldOn_5 ?_
  refine lv_iconst (v := (1 : Int32)) hx hb dX7_heldOn_6 (by decide) ?_
  refine lv_icmp_ne (tgt := 27) hx hb dX7_heldOn_7 (by decide) (fun c_7 => ?_) (fun c_7 => ?_)
  · have hf := zn hf c_7
    exact hB27  hf _ (lv_sub hl [0, 1] rfl)
  · have hf := zp hf c_7
    refine lv_aload_n hx hb dX7_heldOn_10 rfl (lv_at hl 0 rfl) ?_
    refine lv_aload_n hx hb dX7_heldOn_11 rfl (lv_at hl 0 rfl) ?_
    refine va_get (D := D) (ci := 7) (v := .ref am10) (C := RX7) (T := TX7) (N := 26) hx hb hts hin7 hown hK hP 0 rfl rfl 18 (by decide) fl40 (fun _ h9 => h9) rfl dX7_heldOn_12 ?_
    refine lv_iload_n hx hb dX7_heldOn_15 rfl (lv_at hl 1 rfl) ?_
    obtain ⟨h_16, hf⟩ := zg hf
    refine va_iald hx hb hK hP 3 0 rfl rfl h_16 dX7_heldOn_16 ?_
    obtain ⟨r17, hc17, hf⟩ := zb hf
    refine zvr (o := some (.int r17)) (As := [.int (u_holdsWhich x1.toNatClampNeg)]) (rest := []) (stk := [.int r17]) ⟨hx, hb, hml, hown, hts⟩ (mX7_isOne l D cy st sk sv B am am0 am1 am2 am3 am4 am5 am6 am7 am8 am9 am10 am11 am12 n M_isHeld M_taped M_token M_from M_to M_value M_isWrong M_rowN M_ran M_actKind M_actN M_actA M_isParted u_s (u_holdsWhich x1.toNatClampNeg) r17 hc17) (cwV 1 hts gX7_heldOn_X7_isOne rfl rfl rfl (by decide +kernel) ⟨Nat.le_of_ble_eq_true rfl, Nat.le_of_ble_eq_true rfl⟩) hG hS hAB hP [0, 1] rfl 0 7 rfl rfl rfl rfl hl.1 rfl (Nat.le_of_ble_eq_true rfl) dX7_heldOn_17 rfl ?_
    refine lv_if_ne (tgt := 27) hx hb dX7_heldOn_20 (by decide) (fun c_20 => ?_) (fun c_20 => ?_)
    · have hf := zn hf c_20
      exact hB27  hf _ (lv_sub hl [0, 1] rfl)
    · have hf := zp hf c_20
      refine lv_iconst (v := (0 : Int32)) hx hb dX7_heldOn_23 (by decide) ?_
      refine lv_goto (tgt := 33) hx hb dX7_heldOn_24 (by decide) ?_
      cases hf
      exact W.iret hx hb hr (fun t ht hW => ⟨rfl, ht⟩) (fun q h => absurd h List.not_mem_nil) dX7_heldOn_33
set_option maxRecDepth 100000 in
set_option maxHeartbeats 100000000 in
theorem mX7_taken (l : Launch) (D : va_G) (cy : Nat → ClassId) (st sk sv : Nat → Nat) (B : Nat) (am : Nat) (am0 : Nat) (am1 : Nat) (am2 : Nat) (am3 : Nat) (am4 : Nat) (am5 : Nat) (am6 : Nat) (am7 : Nat) (am8 : Nat) (am9 : Nat) (am10 : Nat) (am11 : Nat) (am12 : Nat) (n : Nat) (M_isHeld : Int32) (M_taped : Int32) (M_token : Int32) (M_from : Int32) (M_to : Int32) (M_value : Int32) (M_isWrong : Int32) (M_rowN : Int32) (M_ran : Int32) (M_actKind : Int32) (M_actN : Int32) (M_actA : Int32) (M_isParted : Int32) (u_s : (Nat → Int32)) (u_holdsWhat : (Nat → Int32)) (u_holdsWhich : (Nat → Int32)) (u_holdsMany : (Nat → Int32)) (x1 : Int32) (x2 : Int32) (z : Int32) (hf : fX7_taken n (M_isHeld, M_taped, M_token, M_from, M_to, M_value, M_isWrong, M_rowN, M_ran, M_actKind, M_actN, M_actA, M_isParted) u_s u_holdsWhat u_holdsWhich u_holdsMany x1 x2 = some z) : Met l yX7_taken wsX7_taken ({ frames := 2, cells := 0, slots := 0, locals := 45 }) (PcR [.ref am, .int x1, .int x2] D cy st sk sv B [(am, .inr (7, [.ref am0, .ref am1, .ref am2, .ref am3, .int M_isHeld, .ref am4, .int M_taped, .int M_token, .int M_from, .int M_to, .int M_value, .int M_isWrong, .ref am5, .int M_rowN, .ref am6, .ref am7, .ref am8, .ref am9, .ref am10, .ref am11, .ref am12, .int M_ran, .int M_actKind, .int M_actN, .int M_actA, .int M_isParted])), (am0, .inl (cy 0, 48, .inl u_s)), (am9, .inl (cy 0, 4, .inl u_holdsWhat)), (am10, .inl (cy 0, 4, .inl u_holdsWhich)), (am11, .inl (cy 0, 4, .inl u_holdsMany))]) (Qr (some (.int z))) 0 0 (fun _ => False) := by
  refine Met.ofW (cc := cX7_taken) (maxL := 4) (ret := (some .int)) (by decide) rfl ?_
  intro p e s m args below meth c s₁ Bd hml hv
  obtain ⟨rfl, hP, hG⟩ := hv
  have hx := Bd.exec
  have hb := Bd.bytes
  have hr := Bd.returns
  have hts := atoms_spec (ws := wsX7_taken) Bd.pre
  have hown : s.vm.findClass RX7 = some m.cls := findClass_of_methodNamed Bd.named
  have hlocks := Bd.notSynchronized
  have hK := hG.1
  have hS : va_S (fun q => B ≤ q) s.heap s.heap [] := va_S.rf
  have hAB : ∀ q, (fun q => B ≤ q) q → B ≤ q := fun _ h => h
  have hin7 : ∀ w ∈ u_ws RX7 TX7 26, w ∈ wsX7_taken := by decide +kernel
  have fl40 := hts (.fieldLink RX7 40 "KinCutleryModel" "holdsWhich" "[I") (by decide +kernel)
  have fl43 := hts (.fieldLink RX7 43 "KinCutleryModel" "holdsMany" "[I") (by decide +kernel)
  have hl := lv_entry ([.ref am, .int x1, .int x2]) (n := 4) (Nat.le_of_ble_eq_true rfl)
  rw [lg_entry_eq]
  generalize (lg_sl ([.ref am, .int x1, .int x2]) ++ List.replicate (4 - (lg_sl ([.ref am, .int x1, .int x2])).length) Slot.unset).toArray = ls at hl ⊢
  have hl : lv_has ls 4 [(0, .ref am), (1, .int x1), (2, .int x2)] := hl
  have hf : ((fX7_isShelf n x1).bind fun r1 => if r1 = 0 then (some (-1 : Int32)) else ((fX7_isIn n x2.toInt64 (0 : Int64) (13 : Int64)).bind fun r13 => if r13 = 0 then (some (-1 : Int32)) else ((fX7_isIn n x2.toInt64 (6 : Int64) (9 : Int64)).bind fun r27 => if r27 = 0 then ((fX7_heldOn n (M_isHeld, M_taped, M_token, M_from, M_to, M_value, M_isWrong, M_rowN, M_ran, M_actKind, M_actN, M_actA, M_isParted) u_s u_holdsWhat u_holdsWhich x1).bind fun r37 => if r37 = 0 then (some (-11 : Int32)) else (if (10 : Int32) ≤ x2 then (if r37 = (2 : Int32) then (if x1 < 0 ∨ 4 ≤ x1.toNatClampNeg then none else if (u_holdsWhich x1.toNatClampNeg) = (x2 - (10 : Int32)) then (if x1 < 0 ∨ 4 ≤ x1.toNatClampNeg then none else some (u_holdsMany x1.toNatClampNeg)) else (some (-13 : Int32))) else (some (-13 : Int32))) else (if r37 = (1 : Int32) then (if x1 < 0 ∨ 4 ≤ x1.toNatClampNeg then none else (fX7_its n (M_isHeld, M_taped, M_token, M_from, M_to, M_value, M_isWrong, M_rowN, M_ran, M_actKind, M_actN, M_actA, M_isParted) u_s (u_holdsWhich x1.toNatClampNeg) (0 : Int32)).bind fun r67 => (fX7_isUnder n r67 x2).bind fun r71 => if r71 = 0 then (some (-13 : Int32)) else (if x1 < 0 ∨ 4 ≤ x1.toNatClampNeg then none else some (u_holdsWhich x1.toNatClampNeg))) else (some (-13 : Int32))))) else (some (-1 : Int32))))) = some z := hf
  refine lv_iload_n hx hb dX7_taken_0 rfl (lv_at hl 1 rfl) ?_
  obtain ⟨r1, hc1, hf⟩ := zb hf
  refine zsr (o := some (.int r1)) (As := [.int x1]) (rest := []) (stk := [.int r1]) ⟨hx, hb, hml, hown, hts⟩ (mX7_isShelf l D cy st sk sv B  n x1 r1 hc1) (va_cwS 1 hts gX7_taken_X7_isShelf rfl rfl rfl (by decide +kernel) ⟨Nat.le_of_ble_eq_true rfl, Nat.le_of_ble_eq_true rfl⟩) hG hS hAB hP [] rfl rfl hl.1 rfl (Nat.le_of_ble_eq_true rfl) dX7_taken_1 rfl ?_
  refine lv_if_eq (tgt := 33) hx hb dX7_taken_4 (by decide) (fun c_4 => ?_) (fun c_4 => ?_)
  · have hf := zp hf c_4
    refine lv_iconst (v := (-1 : Int32)) hx hb dX7_taken_33 (by decide) ?_
    cases hf
    exact W.iret hx hb hr (fun t ht hW => ⟨rfl, ht⟩) (fun q h => absurd h List.not_mem_nil) dX7_taken_34
  · have hf := zn hf c_4
    refine lv_iload_n hx hb dX7_taken_7 rfl (lv_at hl 2 rfl) ?_
    refine lv_i2l hx hb dX7_taken_8 rfl ?_
    refine lv_lconst (v := (0 : Int64)) hx hb dX7_taken_9 (by decide) ?_
    refine lv_ldc2 (v := (13 : Int64)) hx hb hown (hts (.constantLong RX7 280 (13)) (by decide +kernel)) dX7_taken_10 ?_
    obtain ⟨r13, hc13, hf⟩ := zb hf
    refine zsr (o := some (.int r13)) (As := [.long x2.toInt64, .long (0 : Int64), .long (13 : Int64)]) (rest := []) (stk := [.int r13]) ⟨hx, hb, hml, hown, hts⟩ (mX7_isIn l D cy st sk sv B  n x2.toInt64 (0 : Int64) (13 : Int64) r13 hc13) (va_cwS 3 hts gX7_taken_X7_isIn rfl rfl rfl (by decide +kernel) ⟨Nat.le_of_ble_eq_true rfl, Nat.le_of_ble_eq_true rfl⟩) hG hS hAB hP [] rfl rfl hl.1 rfl (Nat.le_of_ble_eq_true rfl) dX7_taken_13 rfl ?_
    refine lv_if_eq (tgt := 33) hx hb dX7_taken_16 (by decide) (fun c_16 => ?_) (fun c_16 => ?_)
    · have hf := zp hf c_16
      refine lv_iconst (v := (-1 : Int32)) hx hb dX7_taken_33 (by decide) ?_
      cases hf
      exact W.iret hx hb hr (fun t ht hW => ⟨rfl, ht⟩) (fun q h => absurd h List.not_mem_nil) dX7_taken_34
    · have hf := zn hf c_16
      refine lv_iload_n hx hb dX7_taken_19 rfl (lv_at hl 2 rfl) ?_
      refine lv_i2l hx hb dX7_taken_20 rfl ?_
      refine lv_ldc2 (v := (6 : Int64)) hx hb hown (hts (.constantLong RX7 282 (6)) (by decide +kernel)) dX7_taken_21 ?_
      refine lv_ldc2 (v := (9 : Int64)) hx hb hown (hts (.constantLong RX7 284 (9)) (by decide +kernel)) dX7_taken_24 ?_
      obtain ⟨r27, hc27, hf⟩ := zb hf
      refine zsr (o := some (.int r27)) (As := [.long x2.toInt64, .long (6 : Int64), .long (9 : Int64)]) (rest := []) (stk := [.int r27]) ⟨hx, hb, hml, hown, hts⟩ (mX7_isIn l D cy st sk sv B  n x2.toInt64 (6 : Int64) (9 : Int64) r27 hc27) (va_cwS 3 hts gX7_taken_X7_isIn rfl rfl rfl (by decide +kernel) ⟨Nat.le_of_ble_eq_true rfl, Nat.le_of_ble_eq_true rfl⟩) hG hS hAB hP [] rfl rfl hl.1 rfl (Nat.le_of_ble_eq_true rfl) dX7_taken_27 rfl ?_
      refine lv_if_eq (tgt := 35) hx hb dX7_taken_30 (by decide) (fun c_30 => ?_) (fun c_30 => ?_)
      · have hf := zp hf c_30
        refine lv_aload_n hx hb dX7_taken_35 rfl (lv_at hl 0 rfl) ?_
        refine lv_iload_n hx hb dX7_taken_36 rfl (lv_at hl 1 rfl) ?_
        obtain ⟨r37, hc37, hf⟩ := zb hf
        refine zvr (o := some (.int r37)) (As := [.int x1]) (rest := []) (stk := [.int r37]) ⟨hx, hb, hml, hown, hts⟩ (mX7_heldOn l D cy st sk sv B am am0 am1 am2 am3 am4 am5 am6 am7 am8 am9 am10 am11 am12 n M_isHeld M_taped M_token M_from M_to M_value M_isWrong M_rowN M_ran M_actKind M_actN M_actA M_isParted u_s u_holdsWhat u_holdsWhich x1 r37 hc37) (cwV 1 hts gX7_taken_X7_heldOn rfl rfl rfl (by decide +kernel) ⟨Nat.le_of_ble_eq_true rfl, Nat.le_of_ble_eq_true rfl⟩) hG hS hAB hP [0, 1, 2, 3] rfl 0 7 rfl rfl rfl rfl hl.1 rfl (Nat.le_of_ble_eq_true rfl) dX7_taken_37 rfl ?_
        refine lv_istore_n (lv' := [(3, .int r37), (0, .ref am), (1, .int x1), (2, .int x2)]) hx hb dX7_taken_40 rfl hl (by decide) rfl (fun ls hl => ?_)
        refine lv_iload_n hx hb dX7_taken_41 rfl (lv_at hl 0 rfl) ?_
        refine lv_if_ne (tgt := 48) hx hb dX7_taken_42 (by decide) (fun c_42 => ?_) (fun c_42 => ?_)
        · have hf := zn hf c_42
          refine lv_iload_n hx hb dX7_taken_48 rfl (lv_at hl 3 rfl) ?_
          refine lv_bipush (v := (10 : Int32)) hx hb dX7_taken_49 (by decide) ?_
          refine lv_icmp_ge (tgt := 89) hx hb dX7_taken_51 (by decide) (fun c_51 => ?_) (fun c_51 => ?_)
          · have hf := zp hf c_51
            refine lv_iload_n hx hb dX7_taken_89 rfl (lv_at hl 0 rfl) ?_
            refine lv_iconst (v := (2 : Int32)) hx hb dX7_taken_90 (by decide) ?_
            refine lv_icmp_ne (tgt := 116) hx hb dX7_taken_91 (by decide) (fun c_91 => ?_) (fun c_91 => ?_)
            · have hf := zn hf c_91
              refine lv_bipush (v := (-13 : Int32)) hx hb dX7_taken_116 (by decide) ?_
              cases hf
              exact W.iret hx hb hr (fun t ht hW => ⟨rfl, ht⟩) (fun q h => absurd h List.not_mem_nil) dX7_taken_118
            · have hf := zp hf c_91
              refine lv_aload_n hx hb dX7_taken_94 rfl (lv_at hl 1 rfl) ?_
              refine va_get (D := D) (ci := 7) (v := .ref am10) (C := RX7) (T := TX7) (N := 26) hx hb hts hin7 hown hK hP 0 rfl rfl 18 (by decide) fl40 (fun _ h9 => h9) rfl dX7_taken_95 ?_
              refine lv_iload_n hx hb dX7_taken_98 rfl (lv_at hl 2 rfl) ?_
              obtain ⟨h_99, hf⟩ := zg hf
              refine va_iald hx hb hK hP 3 0 rfl rfl h_99 dX7_taken_99 ?_
              refine lv_iload_n hx hb dX7_taken_100 rfl (lv_at hl 3 rfl) ?_
              refine lv_bipush (v := (10 : Int32)) hx hb dX7_taken_101 (by decide) ?_
              refine lv_isub hx hb dX7_taken_103 ?_
              refine lv_icmp_ne (tgt := 116) hx hb dX7_taken_104 (by decide) (fun c_104 => ?_) (fun c_104 => ?_)
              · have hf := zn hf c_104
                refine lv_bipush (v := (-13 : Int32)) hx hb dX7_taken_116 (by decide) ?_
                cases hf
                exact W.iret hx hb hr (fun t ht hW => ⟨rfl, ht⟩) (fun q h => absurd h List.not_mem_nil) dX7_taken_118
              · have hf := zp hf c_104
                refine lv_aload_n hx hb dX7_taken_107 rfl (lv_at hl 1 rfl) ?_
                refine va_get (D := D) (ci := 7) (v := .ref am11) (C := RX7) (T := TX7) (N := 26) hx hb hts hin7 hown hK hP 0 rfl rfl 19 (by decide) fl43 (fun _ h9 => h9) rfl dX7_taken_108 ?_
                refine lv_iload_n hx hb dX7_taken_111 rfl (lv_at hl 2 rfl) ?_
                obtain ⟨h_112, hf⟩ := zg hf
                refine va_iald hx hb hK hP 4 0 rfl rfl h_112 dX7_taken_112 ?_
                refine lv_goto (tgt := 118) hx hb dX7_taken_113 (by decide) ?_
                cases hf
                exact W.iret hx hb hr (fun t ht hW => ⟨rfl, ht⟩) (fun q h => absurd h List.not_mem_nil) dX7_taken_118
          · have hf := zn hf c_51
            refine lv_iload_n hx hb dX7_taken_54 rfl (lv_at hl 0 rfl) ?_
            refine lv_iconst (v := (1 : Int32)) hx hb dX7_taken_55 (by decide) ?_
            refine lv_icmp_ne (tgt := 86) hx hb dX7_taken_56 (by decide) (fun c_56 => ?_) (fun c_56 => ?_)
            · have hf := zn hf c_56
              refine lv_bipush (v := (-13 : Int32)) hx hb dX7_taken_86 (by decide) ?_
              cases hf
              exact W.iret hx hb hr (fun t ht hW => ⟨rfl, ht⟩) (fun q h => absurd h List.not_mem_nil) dX7_taken_88
            · have hf := zp hf c_56
              refine lv_aload_n hx hb dX7_taken_59 rfl (lv_at hl 1 rfl) ?_
              refine lv_aload_n hx hb dX7_taken_60 rfl (lv_at hl 1 rfl) ?_
              refine va_get (D := D) (ci := 7) (v := .ref am10) (C := RX7) (T := TX7) (N := 26) hx hb hts hin7 hown hK hP 0 rfl rfl 18 (by decide) fl40 (fun _ h9 => h9) rfl dX7_taken_61 ?_
              refine lv_iload_n hx hb dX7_taken_64 rfl (lv_at hl 2 rfl) ?_
              obtain ⟨h_65, hf⟩ := zg hf
              refine va_iald hx hb hK hP 3 0 rfl rfl h_65 dX7_taken_65 ?_
              refine lv_iconst (v := (0 : Int32)) hx hb dX7_taken_66 (by decide) ?_
              obtain ⟨r67, hc67, hf⟩ := zb hf
              refine zvr (o := some (.int r67)) (As := [.int (u_holdsWhich x1.toNatClampNeg), .int (0 : Int32)]) (rest := []) (stk := [.int r67]) ⟨hx, hb, hml, hown, hts⟩ (mX7_its l D cy st sk sv B am am0 am1 am2 am3 am4 am5 am6 am7 am8 am9 am10 am11 am12 n M_isHeld M_taped M_token M_from M_to M_value M_isWrong M_rowN M_ran M_actKind M_actN M_actA M_isParted u_s (u_holdsWhich x1.toNatClampNeg) (0 : Int32) r67 hc67) (cwV 2 hts gX7_taken_X7_its rfl rfl rfl (by decide +kernel) ⟨Nat.le_of_ble_eq_true rfl, Nat.le_of_ble_eq_true rfl⟩) hG hS hAB hP [0, 1] rfl 0 7 rfl rfl rfl rfl hl.1 rfl (Nat.le_of_ble_eq_true rfl) dX7_taken_67 rfl ?_
              refine lv_iload_n hx hb dX7_taken_70 rfl (lv_at hl 3 rfl) ?_
              obtain ⟨r71, hc71, hf⟩ := zb hf
              refine zsr (o := some (.int r71)) (As := [.int r67, .int x2]) (rest := []) (stk := [.int r71]) ⟨hx, hb, hml, hown, hts⟩ (mX7_isUnder l D cy st sk sv B  n r67 x2 r71 hc71) (va_cwS 2 hts gX7_taken_X7_isUnder rfl rfl rfl (by decide +kernel) ⟨Nat.le_of_ble_eq_true rfl, Nat.le_of_ble_eq_true rfl⟩) hG hS hAB hP [] rfl rfl hl.1 rfl (Nat.le_of_ble_eq_true rfl) dX7_taken_71 rfl ?_
              refine lv_if_eq (tgt := 86) hx hb dX7_taken_74 (by decide) (fun c_74 => ?_) (fun c_74 => ?_)
              · have hf := zp hf c_74
                refine lv_bipush (v := (-13 : Int32)) hx hb dX7_taken_86 (by decide) ?_
                cases hf
                exact W.iret hx hb hr (fun t ht hW => ⟨rfl, ht⟩) (fun q h => absurd h List.not_mem_nil) dX7_taken_88
              · have hf := zn hf c_74
                refine lv_aload_n hx hb dX7_taken_77 rfl (lv_at hl 1 rfl) ?_
                refine va_get (D := D) (ci := 7) (v := .ref am10) (C := RX7) (T := TX7) (N := 26) hx hb hts hin7 hown hK hP 0 rfl rfl 18 (by decide) fl40 (fun _ h9 => h9) rfl dX7_taken_78 ?_
                refine lv_iload_n hx hb dX7_taken_81 rfl (lv_at hl 2 rfl) ?_
                obtain ⟨h_82, hf⟩ := zg hf
                refine va_iald hx hb hK hP 3 0 rfl rfl h_82 dX7_taken_82 ?_
                refine lv_goto (tgt := 88) hx hb dX7_taken_83 (by decide) ?_
                cases hf
                exact W.iret hx hb hr (fun t ht hW => ⟨rfl, ht⟩) (fun q h => absurd h List.not_mem_nil) dX7_taken_88
        · have hf := zp hf c_42
          refine lv_bipush (v := (-11 : Int32)) hx hb dX7_taken_45 (by decide) ?_
          cases hf
          exact W.iret hx hb hr (fun t ht hW => ⟨rfl, ht⟩) (fun q h => absurd h List.not_mem_nil) dX7_taken_47
      · have hf := zn hf c_30
        refine lv_iconst (v := (-1 : Int32)) hx hb dX7_taken_33 (by decide) ?_
        cases hf
        exact W.iret hx hb hr (fun t ht hW => ⟨rfl, ht⟩) (fun q h => absurd h List.not_mem_nil) dX7_taken_34
set_option maxRecDepth 100000 in
set_option maxHeartbeats 100000000 in
theorem mX7_runs (l : Launch) (D : va_G) (cy : Nat → ClassId) (st sk sv : Nat → Nat) (B : Nat) (am : Nat) (am0 : Nat) (am1 : Nat) (am2 : Nat) (am3 : Nat) (am4 : Nat) (am5 : Nat) (am6 : Nat) (am7 : Nat) (am8 : Nat) (am9 : Nat) (am10 : Nat) (am11 : Nat) (am12 : Nat) (sz : Nat) (n : Nat) (M_isHeld : Int32) (M_taped : Int32) (M_token : Int32) (M_from : Int32) (M_to : Int32) (M_value : Int32) (M_isWrong : Int32) (M_rowN : Int32) (M_ran : Int32) (M_actKind : Int32) (M_actN : Int32) (M_actA : Int32) (M_isParted : Int32) (u_bodies : (Nat → Int32)) (x1 : Int32) (z : MO × (Nat → Int32)) (hf : fX7_runs n (M_isHeld, M_taped, M_token, M_from, M_to, M_value, M_isWrong, M_rowN, M_ran, M_actKind, M_actN, M_actA, M_isParted) u_bodies x1 = some z) : Met l yX7_runs wsX7_runs ({ frames := 0, cells := 0, slots := 0, locals := 0 }) (PcW [.ref am, .int x1] D cy st sk sv B sz [(am, .inr (7, [.ref am0, .ref am1, .ref am2, .ref am3, .int M_isHeld, .ref am4, .int M_taped, .int M_token, .int M_from, .int M_to, .int M_value, .int M_isWrong, .ref am5, .int M_rowN, .ref am6, .ref am7, .ref am8, .ref am9, .ref am10, .ref am11, .ref am12, .int M_ran, .int M_actKind, .int M_actN, .int M_actA, .int M_isParted])), (am12, .inl (cy 0, 30, .inl u_bodies))]) (Qw (none) D [(am, .inr (7, [.ref am0, .ref am1, .ref am2, .ref am3, .int z.1.1, .ref am4, .int z.1.2.1, .int z.1.2.2.1, .int z.1.2.2.2.1, .int z.1.2.2.2.2.1, .int z.1.2.2.2.2.2.1, .int z.1.2.2.2.2.2.2.1, .ref am5, .int z.1.2.2.2.2.2.2.2.1, .ref am6, .ref am7, .ref am8, .ref am9, .ref am10, .ref am11, .ref am12, .int z.1.2.2.2.2.2.2.2.2.1, .int z.1.2.2.2.2.2.2.2.2.2.1, .int z.1.2.2.2.2.2.2.2.2.2.2.1, .int z.1.2.2.2.2.2.2.2.2.2.2.2.1, .int z.1.2.2.2.2.2.2.2.2.2.2.2.2])), (am12, .inl (cy 0, 30, .inl z.2))] (va_A [(am, .inr (7, [.ref am0, .ref am1, .ref am2, .ref am3, .int M_isHeld, .ref am4, .int M_taped, .int M_token, .int M_from, .int M_to, .int M_value, .int M_isWrong, .ref am5, .int M_rowN, .ref am6, .ref am7, .ref am8, .ref am9, .ref am10, .ref am11, .ref am12, .int M_ran, .int M_actKind, .int M_actN, .int M_actA, .int M_isParted])), (am12, .inl (cy 0, 30, .inl u_bodies))] sz)) 0 0 (va_A [(am, .inr (7, [.ref am0, .ref am1, .ref am2, .ref am3, .int M_isHeld, .ref am4, .int M_taped, .int M_token, .int M_from, .int M_to, .int M_value, .int M_isWrong, .ref am5, .int M_rowN, .ref am6, .ref am7, .ref am8, .ref am9, .ref am10, .ref am11, .ref am12, .int M_ran, .int M_actKind, .int M_actN, .int M_actA, .int M_isParted])), (am12, .inl (cy 0, 30, .inl u_bodies))] sz) := by
  refine Met.ofW (cc := cX7_runs) (maxL := 2) (ret := none) (by decide) rfl ?_
  intro p e s m args below meth c s₁ Bd hml hv
  obtain ⟨rfl, hsz, hP, hD0, hBs, hG⟩ := hv
  have hx := Bd.exec
  have hb := Bd.bytes
  have hr := Bd.returns
  have hts := atoms_spec (ws := wsX7_runs) Bd.pre
  have hown : s.vm.findClass RX7 = some m.cls := findClass_of_methodNamed Bd.named
  have hlocks := Bd.notSynchronized
  have hK := hG.1
  subst hsz
  have hD := hD0.self (sz := s.heap.size)
  have hAB0 := zA hD0 hBs
  generalize hAe : va_A [(am, .inr (7, [.ref am0, .ref am1, .ref am2, .ref am3, .int M_isHeld, .ref am4, .int M_taped, .int M_token, .int M_from, .int M_to, .int M_value, .int M_isWrong, .ref am5, .int M_rowN, .ref am6, .ref am7, .ref am8, .ref am9, .ref am10, .ref am11, .ref am12, .int M_ran, .int M_actKind, .int M_actN, .int M_actA, .int M_isParted])), (am12, .inl (cy 0, 30, .inl u_bodies))] s.heap.size = A at hD hAB0 ⊢
  have hA : ∀ q : Nat, s.heap.size ≤ q → A q := fun q h => by rw [← hAe]; exact Or.inr h
  have hAB : ∀ q, A q → B ≤ q := hAB0
  have hS : va_S A s.heap s.heap [] := va_S.rf
  have hfin : ∀ (M_isHeld : Int32) (M_taped : Int32) (M_token : Int32) (M_from : Int32) (M_to : Int32) (M_value : Int32) (M_isWrong : Int32) (M_rowN : Int32) (M_ran : Int32) (M_actKind : Int32) (M_actN : Int32) (M_actA : Int32) (M_isParted : Int32) (u_bodies : (Nat → Int32)), some ((M_isHeld, M_taped, M_token, M_from, M_to, M_value, M_isWrong, M_rowN, M_ran, M_actKind, M_actN, M_actA, M_isParted), u_bodies) = some z → ∀ (H : Heap) (t : State), t.heap = H → va_P D vwCl [(am, .inr (7, [.ref am0, .ref am1, .ref am2, .ref am3, .int M_isHeld, .ref am4, .int M_taped, .int M_token, .int M_from, .int M_to, .int M_value, .int M_isWrong, .ref am5, .int M_rowN, .ref am6, .ref am7, .ref am8, .ref am9, .ref am10, .ref am11, .ref am12, .int M_ran, .int M_actKind, .int M_actN, .int M_actA, .int M_isParted])), (am12, .inl (cy 0, 30, .inl u_bodies))] H → va_F A s t → Qw (none) D [(am, .inr (7, [.ref am0, .ref am1, .ref am2, .ref am3, .int z.1.1, .ref am4, .int z.1.2.1, .int z.1.2.2.1, .int z.1.2.2.2.1, .int z.1.2.2.2.2.1, .int z.1.2.2.2.2.2.1, .int z.1.2.2.2.2.2.2.1, .ref am5, .int z.1.2.2.2.2.2.2.2.1, .ref am6, .ref am7, .ref am8, .ref am9, .ref am10, .ref am11, .ref am12, .int z.1.2.2.2.2.2.2.2.2.1, .int z.1.2.2.2.2.2.2.2.2.2.1, .int z.1.2.2.2.2.2.2.2.2.2.2.1, .int z.1.2.2.2.2.2.2.2.2.2.2.2.1, .int z.1.2.2.2.2.2.2.2.2.2.2.2.2])), (am12, .inl (cy 0, 30, .inl z.2))] A ([.ref am, .int x1] : List Value).toArray s (.returned (none)) t := by
    intro M_isHeld M_taped M_token M_from M_to M_value M_isWrong M_rowN M_ran M_actKind M_actN M_actA M_isParted u_bodies h9 H t ht hP hF
    cases h9
    exact ⟨rfl, by rw [ht]; exact hP, hF⟩
  have hin7 : ∀ w ∈ u_ws RX7 TX7 26, w ∈ wsX7_runs := by decide +kernel
  have fl46 := hts (.fieldLink RX7 46 "KinCutleryModel" "bodies" "[I") (by decide +kernel)
  have fl292 := hts (.fieldLink RX7 292 "KinCutleryModel" "ran" "I") (by decide +kernel)
  have hl := lv_entry ([.ref am, .int x1]) (n := 2) (Nat.le_of_ble_eq_true rfl)
  rw [lg_entry_eq]
  generalize (lg_sl ([.ref am, .int x1]) ++ List.replicate (2 - (lg_sl ([.ref am, .int x1])).length) Slot.unset).toArray = ls at hl ⊢
  have hl : lv_has ls 2 [(0, .ref am), (1, .int x1)] := hl
  have hf : (if (30 : Int32) ≤ M_ran then (some ((M_isHeld, M_taped, M_token, M_from, M_to, M_value, M_isWrong, M_rowN, M_ran, M_actKind, M_actN, M_actA, M_isParted), u_bodies)) else (if M_ran < 0 ∨ 30 ≤ M_ran.toNatClampNeg then none else some ((M_isHeld, M_taped, M_token, M_from, M_to, M_value, M_isWrong, M_rowN, (M_ran + (1 : Int32)), M_actKind, M_actN, M_actA, M_isParted), (upd u_bodies M_ran.toNatClampNeg x1)))) = some z := hf
  refine lv_aload_n hx hb dX7_runs_0 rfl (lv_at hl 0 rfl) ?_
  refine va_get (D := D) (ci := 7) (v := .int M_ran) (C := RX7) (T := TX7) (N := 26) hx hb hts hin7 hown hK hP 0 rfl rfl 21 (by decide) fl292 (fun _ h9 => h9) rfl dX7_runs_1 ?_
  refine lv_bipush (v := (30 : Int32)) hx hb dX7_runs_4 (by decide) ?_
  refine lv_icmp_ge (tgt := 29) hx hb dX7_runs_6 (by decide) (fun c_6 => ?_) (fun c_6 => ?_)
  · have hf := zp hf c_6
    exact W.vret hx hb hr (fun t ht hW => hfin M_isHeld M_taped M_token M_from M_to M_value M_isWrong M_rowN M_ran M_actKind M_actN M_actA M_isParted u_bodies hf _ t ht hP (hS.F ht)) hS.2.2 dX7_runs_29
  · have hf := zn hf c_6
    refine lv_aload_n hx hb dX7_runs_9 rfl (lv_at hl 0 rfl) ?_
    refine va_get (D := D) (ci := 7) (v := .ref am12) (C := RX7) (T := TX7) (N := 26) hx hb hts hin7 hown hK hP 0 rfl rfl 20 (by decide) fl46 (fun _ h9 => h9) rfl dX7_runs_10 ?_
    refine lv_aload_n hx hb dX7_runs_13 rfl (lv_at hl 0 rfl) ?_
    refine va_get (D := D) (ci := 7) (v := .int M_ran) (C := RX7) (T := TX7) (N := 26) hx hb hts hin7 hown hK hP 0 rfl rfl 21 (by decide) fl292 (fun _ h9 => h9) rfl dX7_runs_14 ?_
    refine lv_iload_n hx hb dX7_runs_17 rfl (lv_at hl 1 rfl) ?_
    obtain ⟨h_18, hf⟩ := zg hf
    refine va_iast hx hb hK hP hD hS 1 0 rfl rfl h_18 dX7_runs_18 (fun H locs hP hD hS => ?_)
    have hP : va_P D vwCl [(am, .inr (7, [.ref am0, .ref am1, .ref am2, .ref am3, .int M_isHeld, .ref am4, .int M_taped, .int M_token, .int M_from, .int M_to, .int M_value, .int M_isWrong, .ref am5, .int M_rowN, .ref am6, .ref am7, .ref am8, .ref am9, .ref am10, .ref am11, .ref am12, .int M_ran, .int M_actKind, .int M_actN, .int M_actA, .int M_isParted])), (am12, .inl (cy 0, 30, .inl (upd u_bodies M_ran.toNatClampNeg x1)))] H := hP
    have hD : va_D A [(am, .inr (7, [.ref am0, .ref am1, .ref am2, .ref am3, .int M_isHeld, .ref am4, .int M_taped, .int M_token, .int M_from, .int M_to, .int M_value, .int M_isWrong, .ref am5, .int M_rowN, .ref am6, .ref am7, .ref am8, .ref am9, .ref am10, .ref am11, .ref am12, .int M_ran, .int M_actKind, .int M_actN, .int M_actA, .int M_isParted])), (am12, .inl (cy 0, 30, .inl (upd u_bodies M_ran.toNatClampNeg x1)))] := hD
    refine lv_aload_n hx hb dX7_runs_19 rfl (lv_at hl 0 rfl) ?_
    refine lv_dup hx hb dX7_runs_20 rfl ?_
    refine va_get (D := D) (ci := 7) (v := .int M_ran) (C := RX7) (T := TX7) (N := 26) hx hb hts hin7 hown hK hP 0 rfl rfl 21 (by decide) fl292 (fun _ h9 => h9) rfl dX7_runs_21 ?_
    refine lv_iconst (v := (1 : Int32)) hx hb dX7_runs_24 (by decide) ?_
    refine lv_iadd hx hb dX7_runs_25 ?_
    refine va_put (D := D) (ci := 7) (v := .int (M_ran + (1 : Int32))) (ty := .int) (C := RX7) (T := TX7) (N := 26) hx hb hts hin7 tyX7 tyX7_ok nmX7 hown hK hP hD hS 0 rfl rfl 21 (by decide) fl292 (fun _ h9 => h9) rfl (by decide +kernel) rfl rfl (Nat.le_of_ble_eq_true rfl) dX7_runs_26 (fun H locs hP hD hS => ?_)
    have hP : va_P D vwCl [(am, .inr (7, [.ref am0, .ref am1, .ref am2, .ref am3, .int M_isHeld, .ref am4, .int M_taped, .int M_token, .int M_from, .int M_to, .int M_value, .int M_isWrong, .ref am5, .int M_rowN, .ref am6, .ref am7, .ref am8, .ref am9, .ref am10, .ref am11, .ref am12, .int (M_ran + (1 : Int32)), .int M_actKind, .int M_actN, .int M_actA, .int M_isParted])), (am12, .inl (cy 0, 30, .inl (upd u_bodies M_ran.toNatClampNeg x1)))] H := hP
    have hD : va_D A [(am, .inr (7, [.ref am0, .ref am1, .ref am2, .ref am3, .int M_isHeld, .ref am4, .int M_taped, .int M_token, .int M_from, .int M_to, .int M_value, .int M_isWrong, .ref am5, .int M_rowN, .ref am6, .ref am7, .ref am8, .ref am9, .ref am10, .ref am11, .ref am12, .int (M_ran + (1 : Int32)), .int M_actKind, .int M_actN, .int M_actA, .int M_isParted])), (am12, .inl (cy 0, 30, .inl (upd u_bodies M_ran.toNatClampNeg x1)))] := hD
    exact W.vret hx hb hr (fun t ht hW => hfin M_isHeld M_taped M_token M_from M_to M_value M_isWrong M_rowN (M_ran + (1 : Int32)) M_actKind M_actN M_actA M_isParted (upd u_bodies M_ran.toNatClampNeg x1) hf _ t ht hP (hS.F ht)) hS.2.2 dX7_runs_29
set_option maxRecDepth 100000 in
set_option maxHeartbeats 100000000 in
theorem mX7_liftsPlain (l : Launch) (D : va_G) (cy : Nat → ClassId) (st sk sv : Nat → Nat) (B : Nat) (am : Nat) (am0 : Nat) (am1 : Nat) (am2 : Nat) (am3 : Nat) (am4 : Nat) (am5 : Nat) (am6 : Nat) (am7 : Nat) (am8 : Nat) (am9 : Nat) (am10 : Nat) (am11 : Nat) (am12 : Nat) (sz : Nat) (n : Nat) (M_isHeld : Int32) (M_taped : Int32) (M_token : Int32) (M_from : Int32) (M_to : Int32) (M_value : Int32) (M_isWrong : Int32) (M_rowN : Int32) (M_ran : Int32) (M_actKind : Int32) (M_actN : Int32) (M_actA : Int32) (M_isParted : Int32) (u_bodies : (Nat → Int32)) (x1 : Int32) (z : Int32 × MO × (Nat → Int32)) (hf : fX7_liftsPlain n (M_isHeld, M_taped, M_token, M_from, M_to, M_value, M_isWrong, M_rowN, M_ran, M_actKind, M_actN, M_actA, M_isParted) u_bodies x1 = some z) : Met l yX7_liftsPlain wsX7_liftsPlain ({ frames := 1, cells := 0, slots := 0, locals := 21 }) (PcW [.ref am, .int x1] D cy st sk sv B sz [(am, .inr (7, [.ref am0, .ref am1, .ref am2, .ref am3, .int M_isHeld, .ref am4, .int M_taped, .int M_token, .int M_from, .int M_to, .int M_value, .int M_isWrong, .ref am5, .int M_rowN, .ref am6, .ref am7, .ref am8, .ref am9, .ref am10, .ref am11, .ref am12, .int M_ran, .int M_actKind, .int M_actN, .int M_actA, .int M_isParted])), (am12, .inl (cy 0, 30, .inl u_bodies))]) (Qw (some (.int z.1)) D [(am, .inr (7, [.ref am0, .ref am1, .ref am2, .ref am3, .int z.2.1.1, .ref am4, .int z.2.1.2.1, .int z.2.1.2.2.1, .int z.2.1.2.2.2.1, .int z.2.1.2.2.2.2.1, .int z.2.1.2.2.2.2.2.1, .int z.2.1.2.2.2.2.2.2.1, .ref am5, .int z.2.1.2.2.2.2.2.2.2.1, .ref am6, .ref am7, .ref am8, .ref am9, .ref am10, .ref am11, .ref am12, .int z.2.1.2.2.2.2.2.2.2.2.1, .int z.2.1.2.2.2.2.2.2.2.2.2.1, .int z.2.1.2.2.2.2.2.2.2.2.2.2.1, .int z.2.1.2.2.2.2.2.2.2.2.2.2.2.1, .int z.2.1.2.2.2.2.2.2.2.2.2.2.2.2])), (am12, .inl (cy 0, 30, .inl z.2.2))] (va_A [(am, .inr (7, [.ref am0, .ref am1, .ref am2, .ref am3, .int M_isHeld, .ref am4, .int M_taped, .int M_token, .int M_from, .int M_to, .int M_value, .int M_isWrong, .ref am5, .int M_rowN, .ref am6, .ref am7, .ref am8, .ref am9, .ref am10, .ref am11, .ref am12, .int M_ran, .int M_actKind, .int M_actN, .int M_actA, .int M_isParted])), (am12, .inl (cy 0, 30, .inl u_bodies))] sz)) 0 0 (va_A [(am, .inr (7, [.ref am0, .ref am1, .ref am2, .ref am3, .int M_isHeld, .ref am4, .int M_taped, .int M_token, .int M_from, .int M_to, .int M_value, .int M_isWrong, .ref am5, .int M_rowN, .ref am6, .ref am7, .ref am8, .ref am9, .ref am10, .ref am11, .ref am12, .int M_ran, .int M_actKind, .int M_actN, .int M_actA, .int M_isParted])), (am12, .inl (cy 0, 30, .inl u_bodies))] sz) := by
  refine Met.ofW (cc := cX7_liftsPlain) (maxL := 2) (ret := (some .int)) (by decide) rfl ?_
  intro p e s m args below meth c s₁ Bd hml hv
  obtain ⟨rfl, hsz, hP, hD0, hBs, hG⟩ := hv
  have hx := Bd.exec
  have hb := Bd.bytes
  have hr := Bd.returns
  have hts := atoms_spec (ws := wsX7_liftsPlain) Bd.pre
  have hown : s.vm.findClass RX7 = some m.cls := findClass_of_methodNamed Bd.named
  have hlocks := Bd.notSynchronized
  have hK := hG.1
  subst hsz
  have hD := hD0.self (sz := s.heap.size)
  have hAB0 := zA hD0 hBs
  generalize hAe : va_A [(am, .inr (7, [.ref am0, .ref am1, .ref am2, .ref am3, .int M_isHeld, .ref am4, .int M_taped, .int M_token, .int M_from, .int M_to, .int M_value, .int M_isWrong, .ref am5, .int M_rowN, .ref am6, .ref am7, .ref am8, .ref am9, .ref am10, .ref am11, .ref am12, .int M_ran, .int M_actKind, .int M_actN, .int M_actA, .int M_isParted])), (am12, .inl (cy 0, 30, .inl u_bodies))] s.heap.size = A at hD hAB0 ⊢
  have hA : ∀ q : Nat, s.heap.size ≤ q → A q := fun q h => by rw [← hAe]; exact Or.inr h
  have hAB : ∀ q, A q → B ≤ q := hAB0
  have hS : va_S A s.heap s.heap [] := va_S.rf
  have hfin : ∀ (z0 : Int32) (M_isHeld : Int32) (M_taped : Int32) (M_token : Int32) (M_from : Int32) (M_to : Int32) (M_value : Int32) (M_isWrong : Int32) (M_rowN : Int32) (M_ran : Int32) (M_actKind : Int32) (M_actN : Int32) (M_actA : Int32) (M_isParted : Int32) (u_bodies : (Nat → Int32)), some (z0, (M_isHeld, M_taped, M_token, M_from, M_to, M_value, M_isWrong, M_rowN, M_ran, M_actKind, M_actN, M_actA, M_isParted), u_bodies) = some z → ∀ (H : Heap) (t : State), t.heap = H → va_P D vwCl [(am, .inr (7, [.ref am0, .ref am1, .ref am2, .ref am3, .int M_isHeld, .ref am4, .int M_taped, .int M_token, .int M_from, .int M_to, .int M_value, .int M_isWrong, .ref am5, .int M_rowN, .ref am6, .ref am7, .ref am8, .ref am9, .ref am10, .ref am11, .ref am12, .int M_ran, .int M_actKind, .int M_actN, .int M_actA, .int M_isParted])), (am12, .inl (cy 0, 30, .inl u_bodies))] H → va_F A s t → Qw (some (.int z.1)) D [(am, .inr (7, [.ref am0, .ref am1, .ref am2, .ref am3, .int z.2.1.1, .ref am4, .int z.2.1.2.1, .int z.2.1.2.2.1, .int z.2.1.2.2.2.1, .int z.2.1.2.2.2.2.1, .int z.2.1.2.2.2.2.2.1, .int z.2.1.2.2.2.2.2.2.1, .ref am5, .int z.2.1.2.2.2.2.2.2.2.1, .ref am6, .ref am7, .ref am8, .ref am9, .ref am10, .ref am11, .ref am12, .int z.2.1.2.2.2.2.2.2.2.2.1, .int z.2.1.2.2.2.2.2.2.2.2.2.1, .int z.2.1.2.2.2.2.2.2.2.2.2.2.1, .int z.2.1.2.2.2.2.2.2.2.2.2.2.2.1, .int z.2.1.2.2.2.2.2.2.2.2.2.2.2.2])), (am12, .inl (cy 0, 30, .inl z.2.2))] A ([.ref am, .int x1] : List Value).toArray s (.returned (some (.int z0))) t := by
    intro z0 M_isHeld M_taped M_token M_from M_to M_value M_isWrong M_rowN M_ran M_actKind M_actN M_actA M_isParted u_bodies h9 H t ht hP hF
    cases h9
    exact ⟨rfl, by rw [ht]; exact hP, hF⟩
  have hin7 : ∀ w ∈ u_ws RX7 TX7 26, w ∈ wsX7_liftsPlain := by decide +kernel
  have fl298 := hts (.fieldLink RX7 298 "KinCutleryModel" "actN" "I") (by decide +kernel)
  have hl := lv_entry ([.ref am, .int x1]) (n := 2) (Nat.le_of_ble_eq_true rfl)
  rw [lg_entry_eq]
  generalize (lg_sl ([.ref am, .int x1]) ++ List.replicate (2 - (lg_sl ([.ref am, .int x1])).length) Slot.unset).toArray = ls at hl ⊢
  have hl : lv_has ls 2 [(0, .ref am), (1, .int x1)] := hl
  have hf : ((fX7_runs n (M_isHeld, M_taped, M_token, M_from, M_to, M_value, M_isWrong, M_rowN, M_ran, M_actKind, M_actN, M_actA, M_isParted) u_bodies (10 : Int32)).bind fun r3 => some (((x1 * (2 : Int32)) + r3.1.2.2.2.2.2.2.2.2.2.2.1), r3.1, r3.2)) = some z := hf
  refine lv_aload_n hx hb dX7_liftsPlain_0 rfl (lv_at hl 0 rfl) ?_
  refine lv_bipush (v := (10 : Int32)) hx hb dX7_liftsPlain_1 (by decide) ?_
  obtain ⟨r3, hc3, hf⟩ := zb hf
  refine zvw (o := none) (As := [.int (10 : Int32)]) (rest := []) (stk := []) ⟨hx, hb, hml, hown, hts⟩ (mX7_runs l D cy st sk sv B am am0 am1 am2 am3 am4 am5 am6 am7 am8 am9 am10 am11 am12 _ n M_isHeld M_taped M_token M_from M_to M_value M_isWrong M_rowN M_ran M_actKind M_actN M_actA M_isParted u_bodies (10 : Int32) r3 hc3) (cwV 1 hts gX7_liftsPlain_X7_runs rfl rfl rfl (by decide +kernel) ⟨Nat.le_of_ble_eq_true rfl, Nat.le_of_ble_eq_true rfl⟩) hG hS hAB hA hP hD [0, 1] (by decide) rfl rfl rfl rfl 0 7 rfl rfl rfl rfl hl.1 rfl (Nat.le_of_ble_eq_true rfl) dX7_liftsPlain_3 rfl (fun H locs hP hD hS => ?_)
  have hP : va_P D vwCl [(am, .inr (7, [.ref am0, .ref am1, .ref am2, .ref am3, .int r3.1.1, .ref am4, .int r3.1.2.1, .int r3.1.2.2.1, .int r3.1.2.2.2.1, .int r3.1.2.2.2.2.1, .int r3.1.2.2.2.2.2.1, .int r3.1.2.2.2.2.2.2.1, .ref am5, .int r3.1.2.2.2.2.2.2.2.1, .ref am6, .ref am7, .ref am8, .ref am9, .ref am10, .ref am11, .ref am12, .int r3.1.2.2.2.2.2.2.2.2.1, .int r3.1.2.2.2.2.2.2.2.2.2.1, .int r3.1.2.2.2.2.2.2.2.2.2.2.1, .int r3.1.2.2.2.2.2.2.2.2.2.2.2.1, .int r3.1.2.2.2.2.2.2.2.2.2.2.2.2])), (am12, .inl (cy 0, 30, .inl r3.2))] H := hP
  have hD : va_D A [(am, .inr (7, [.ref am0, .ref am1, .ref am2, .ref am3, .int r3.1.1, .ref am4, .int r3.1.2.1, .int r3.1.2.2.1, .int r3.1.2.2.2.1, .int r3.1.2.2.2.2.1, .int r3.1.2.2.2.2.2.1, .int r3.1.2.2.2.2.2.2.1, .ref am5, .int r3.1.2.2.2.2.2.2.2.1, .ref am6, .ref am7, .ref am8, .ref am9, .ref am10, .ref am11, .ref am12, .int r3.1.2.2.2.2.2.2.2.2.1, .int r3.1.2.2.2.2.2.2.2.2.2.1, .int r3.1.2.2.2.2.2.2.2.2.2.2.1, .int r3.1.2.2.2.2.2.2.2.2.2.2.2.1, .int r3.1.2.2.2.2.2.2.2.2.2.2.2.2])), (am12, .inl (cy 0, 30, .inl r3.2))] := hD
  refine lv_iload_n hx hb dX7_liftsPlain_6 rfl (lv_at hl 1 rfl) ?_
  refine lv_iconst (v := (2 : Int32)) hx hb dX7_liftsPlain_7 (by decide) ?_
  refine lv_imul hx hb dX7_liftsPlain_8 ?_
  refine lv_aload_n hx hb dX7_liftsPlain_9 rfl (lv_at hl 0 rfl) ?_
  refine va_get (D := D) (ci := 7) (v := .int r3.1.2.2.2.2.2.2.2.2.2.2.1) (C := RX7) (T := TX7) (N := 26) hx hb hts hin7 hown hK hP 0 rfl rfl 23 (by decide) fl298 (fun _ h9 => h9) rfl dX7_liftsPlain_10 ?_
  refine lv_iadd hx hb dX7_liftsPlain_13 ?_
  exact W.iret hx hb hr (fun t ht hW => hfin ((x1 * (2 : Int32)) + r3.1.2.2.2.2.2.2.2.2.2.2.1) r3.1.1 r3.1.2.1 r3.1.2.2.1 r3.1.2.2.2.1 r3.1.2.2.2.2.1 r3.1.2.2.2.2.2.1 r3.1.2.2.2.2.2.2.1 r3.1.2.2.2.2.2.2.2.1 r3.1.2.2.2.2.2.2.2.2.1 r3.1.2.2.2.2.2.2.2.2.2.1 r3.1.2.2.2.2.2.2.2.2.2.2.1 r3.1.2.2.2.2.2.2.2.2.2.2.2.1 r3.1.2.2.2.2.2.2.2.2.2.2.2.2 r3.2 hf _ t ht hP (hS.F ht)) hS.2.2 dX7_liftsPlain_14
set_option maxRecDepth 100000 in
set_option maxHeartbeats 100000000 in
theorem mX7_liftsOfActuary (l : Launch) (D : va_G) (cy : Nat → ClassId) (st sk sv : Nat → Nat) (B : Nat) (am : Nat) (am0 : Nat) (am1 : Nat) (am2 : Nat) (am3 : Nat) (am4 : Nat) (am5 : Nat) (am6 : Nat) (am7 : Nat) (am8 : Nat) (am9 : Nat) (am10 : Nat) (am11 : Nat) (am12 : Nat) (sz : Nat) (n : Nat) (M_isHeld : Int32) (M_taped : Int32) (M_token : Int32) (M_from : Int32) (M_to : Int32) (M_value : Int32) (M_isWrong : Int32) (M_rowN : Int32) (M_ran : Int32) (M_actKind : Int32) (M_actN : Int32) (M_actA : Int32) (M_isParted : Int32) (u_bodies : (Nat → Int32)) (x1 : Int32) (z : Int32 × MO × (Nat → Int32)) (hf : fX7_liftsOfActuary n (M_isHeld, M_taped, M_token, M_from, M_to, M_value, M_isWrong, M_rowN, M_ran, M_actKind, M_actN, M_actA, M_isParted) u_bodies x1 = some z) : Met l yX7_liftsOfActuary wsX7_liftsOfActuary ({ frames := 2, cells := 0, slots := 0, locals := 42 }) (PcW [.ref am, .int x1] D cy st sk sv B sz [(am, .inr (7, [.ref am0, .ref am1, .ref am2, .ref am3, .int M_isHeld, .ref am4, .int M_taped, .int M_token, .int M_from, .int M_to, .int M_value, .int M_isWrong, .ref am5, .int M_rowN, .ref am6, .ref am7, .ref am8, .ref am9, .ref am10, .ref am11, .ref am12, .int M_ran, .int M_actKind, .int M_actN, .int M_actA, .int M_isParted])), (am12, .inl (cy 0, 30, .inl u_bodies))]) (Qw (some (.int z.1)) D [(am, .inr (7, [.ref am0, .ref am1, .ref am2, .ref am3, .int z.2.1.1, .ref am4, .int z.2.1.2.1, .int z.2.1.2.2.1, .int z.2.1.2.2.2.1, .int z.2.1.2.2.2.2.1, .int z.2.1.2.2.2.2.2.1, .int z.2.1.2.2.2.2.2.2.1, .ref am5, .int z.2.1.2.2.2.2.2.2.2.1, .ref am6, .ref am7, .ref am8, .ref am9, .ref am10, .ref am11, .ref am12, .int z.2.1.2.2.2.2.2.2.2.2.1, .int z.2.1.2.2.2.2.2.2.2.2.2.1, .int z.2.1.2.2.2.2.2.2.2.2.2.2.1, .int z.2.1.2.2.2.2.2.2.2.2.2.2.2.1, .int z.2.1.2.2.2.2.2.2.2.2.2.2.2.2])), (am12, .inl (cy 0, 30, .inl z.2.2))] (va_A [(am, .inr (7, [.ref am0, .ref am1, .ref am2, .ref am3, .int M_isHeld, .ref am4, .int M_taped, .int M_token, .int M_from, .int M_to, .int M_value, .int M_isWrong, .ref am5, .int M_rowN, .ref am6, .ref am7, .ref am8, .ref am9, .ref am10, .ref am11, .ref am12, .int M_ran, .int M_actKind, .int M_actN, .int M_actA, .int M_isParted])), (am12, .inl (cy 0, 30, .inl u_bodies))] sz)) 0 0 (va_A [(am, .inr (7, [.ref am0, .ref am1, .ref am2, .ref am3, .int M_isHeld, .ref am4, .int M_taped, .int M_token, .int M_from, .int M_to, .int M_value, .int M_isWrong, .ref am5, .int M_rowN, .ref am6, .ref am7, .ref am8, .ref am9, .ref am10, .ref am11, .ref am12, .int M_ran, .int M_actKind, .int M_actN, .int M_actA, .int M_isParted])), (am12, .inl (cy 0, 30, .inl u_bodies))] sz) := by
  refine Met.ofW (cc := cX7_liftsOfActuary) (maxL := 2) (ret := (some .int)) (by decide) rfl ?_
  intro p e s m args below meth c s₁ Bd hml hv
  obtain ⟨rfl, hsz, hP, hD0, hBs, hG⟩ := hv
  have hx := Bd.exec
  have hb := Bd.bytes
  have hr := Bd.returns
  have hts := atoms_spec (ws := wsX7_liftsOfActuary) Bd.pre
  have hown : s.vm.findClass RX7 = some m.cls := findClass_of_methodNamed Bd.named
  have hlocks := Bd.notSynchronized
  have hK := hG.1
  subst hsz
  have hD := hD0.self (sz := s.heap.size)
  have hAB0 := zA hD0 hBs
  generalize hAe : va_A [(am, .inr (7, [.ref am0, .ref am1, .ref am2, .ref am3, .int M_isHeld, .ref am4, .int M_taped, .int M_token, .int M_from, .int M_to, .int M_value, .int M_isWrong, .ref am5, .int M_rowN, .ref am6, .ref am7, .ref am8, .ref am9, .ref am10, .ref am11, .ref am12, .int M_ran, .int M_actKind, .int M_actN, .int M_actA, .int M_isParted])), (am12, .inl (cy 0, 30, .inl u_bodies))] s.heap.size = A at hD hAB0 ⊢
  have hA : ∀ q : Nat, s.heap.size ≤ q → A q := fun q h => by rw [← hAe]; exact Or.inr h
  have hAB : ∀ q, A q → B ≤ q := hAB0
  have hS : va_S A s.heap s.heap [] := va_S.rf
  have hfin : ∀ (z0 : Int32) (M_isHeld : Int32) (M_taped : Int32) (M_token : Int32) (M_from : Int32) (M_to : Int32) (M_value : Int32) (M_isWrong : Int32) (M_rowN : Int32) (M_ran : Int32) (M_actKind : Int32) (M_actN : Int32) (M_actA : Int32) (M_isParted : Int32) (u_bodies : (Nat → Int32)), some (z0, (M_isHeld, M_taped, M_token, M_from, M_to, M_value, M_isWrong, M_rowN, M_ran, M_actKind, M_actN, M_actA, M_isParted), u_bodies) = some z → ∀ (H : Heap) (t : State), t.heap = H → va_P D vwCl [(am, .inr (7, [.ref am0, .ref am1, .ref am2, .ref am3, .int M_isHeld, .ref am4, .int M_taped, .int M_token, .int M_from, .int M_to, .int M_value, .int M_isWrong, .ref am5, .int M_rowN, .ref am6, .ref am7, .ref am8, .ref am9, .ref am10, .ref am11, .ref am12, .int M_ran, .int M_actKind, .int M_actN, .int M_actA, .int M_isParted])), (am12, .inl (cy 0, 30, .inl u_bodies))] H → va_F A s t → Qw (some (.int z.1)) D [(am, .inr (7, [.ref am0, .ref am1, .ref am2, .ref am3, .int z.2.1.1, .ref am4, .int z.2.1.2.1, .int z.2.1.2.2.1, .int z.2.1.2.2.2.1, .int z.2.1.2.2.2.2.1, .int z.2.1.2.2.2.2.2.1, .int z.2.1.2.2.2.2.2.2.1, .ref am5, .int z.2.1.2.2.2.2.2.2.2.1, .ref am6, .ref am7, .ref am8, .ref am9, .ref am10, .ref am11, .ref am12, .int z.2.1.2.2.2.2.2.2.2.2.1, .int z.2.1.2.2.2.2.2.2.2.2.2.1, .int z.2.1.2.2.2.2.2.2.2.2.2.2.1, .int z.2.1.2.2.2.2.2.2.2.2.2.2.2.1, .int z.2.1.2.2.2.2.2.2.2.2.2.2.2.2])), (am12, .inl (cy 0, 30, .inl z.2.2))] A ([.ref am, .int x1] : List Value).toArray s (.returned (some (.int z0))) t := by
    intro z0 M_isHeld M_taped M_token M_from M_to M_value M_isWrong M_rowN M_ran M_actKind M_actN M_actA M_isParted u_bodies h9 H t ht hP hF
    cases h9
    exact ⟨rfl, by rw [ht]; exact hP, hF⟩
  have hl := lv_entry ([.ref am, .int x1]) (n := 2) (Nat.le_of_ble_eq_true rfl)
  rw [lg_entry_eq]
  generalize (lg_sl ([.ref am, .int x1]) ++ List.replicate (2 - (lg_sl ([.ref am, .int x1])).length) Slot.unset).toArray = ls at hl ⊢
  have hl : lv_has ls 2 [(0, .ref am), (1, .int x1)] := hl
  have hf : ((fX7_runs n (M_isHeld, M_taped, M_token, M_from, M_to, M_value, M_isWrong, M_rowN, M_ran, M_actKind, M_actN, M_actA, M_isParted) u_bodies (30 : Int32)).bind fun r3 => (fX7_liftsPlain n r3.1 r3.2 x1).bind fun r8 => some ((r8.1 * (3 : Int32)), r8.2.1, r8.2.2)) = some z := hf
  refine lv_aload_n hx hb dX7_liftsOfActuary_0 rfl (lv_at hl 0 rfl) ?_
  refine lv_bipush (v := (30 : Int32)) hx hb dX7_liftsOfActuary_1 (by decide) ?_
  obtain ⟨r3, hc3, hf⟩ := zb hf
  refine zvw (o := none) (As := [.int (30 : Int32)]) (rest := []) (stk := []) ⟨hx, hb, hml, hown, hts⟩ (mX7_runs l D cy st sk sv B am am0 am1 am2 am3 am4 am5 am6 am7 am8 am9 am10 am11 am12 _ n M_isHeld M_taped M_token M_from M_to M_value M_isWrong M_rowN M_ran M_actKind M_actN M_actA M_isParted u_bodies (30 : Int32) r3 hc3) (cwV 1 hts gX7_liftsOfActuary_X7_runs rfl rfl rfl (by decide +kernel) ⟨Nat.le_of_ble_eq_true rfl, Nat.le_of_ble_eq_true rfl⟩) hG hS hAB hA hP hD [0, 1] (by decide) rfl rfl rfl rfl 0 7 rfl rfl rfl rfl hl.1 rfl (Nat.le_of_ble_eq_true rfl) dX7_liftsOfActuary_3 rfl (fun H locs hP hD hS => ?_)
  have hP : va_P D vwCl [(am, .inr (7, [.ref am0, .ref am1, .ref am2, .ref am3, .int r3.1.1, .ref am4, .int r3.1.2.1, .int r3.1.2.2.1, .int r3.1.2.2.2.1, .int r3.1.2.2.2.2.1, .int r3.1.2.2.2.2.2.1, .int r3.1.2.2.2.2.2.2.1, .ref am5, .int r3.1.2.2.2.2.2.2.2.1, .ref am6, .ref am7, .ref am8, .ref am9, .ref am10, .ref am11, .ref am12, .int r3.1.2.2.2.2.2.2.2.2.1, .int r3.1.2.2.2.2.2.2.2.2.2.1, .int r3.1.2.2.2.2.2.2.2.2.2.2.1, .int r3.1.2.2.2.2.2.2.2.2.2.2.2.1, .int r3.1.2.2.2.2.2.2.2.2.2.2.2.2])), (am12, .inl (cy 0, 30, .inl r3.2))] H := hP
  have hD : va_D A [(am, .inr (7, [.ref am0, .ref am1, .ref am2, .ref am3, .int r3.1.1, .ref am4, .int r3.1.2.1, .int r3.1.2.2.1, .int r3.1.2.2.2.1, .int r3.1.2.2.2.2.1, .int r3.1.2.2.2.2.2.1, .int r3.1.2.2.2.2.2.2.1, .ref am5, .int r3.1.2.2.2.2.2.2.2.1, .ref am6, .ref am7, .ref am8, .ref am9, .ref am10, .ref am11, .ref am12, .int r3.1.2.2.2.2.2.2.2.2.1, .int r3.1.2.2.2.2.2.2.2.2.2.1, .int r3.1.2.2.2.2.2.2.2.2.2.2.1, .int r3.1.2.2.2.2.2.2.2.2.2.2.2.1, .int r3.1.2.2.2.2.2.2.2.2.2.2.2.2])), (am12, .inl (cy 0, 30, .inl r3.2))] := hD
  refine lv_aload_n hx hb dX7_liftsOfActuary_6 rfl (lv_at hl 0 rfl) ?_
  refine lv_iload_n hx hb dX7_liftsOfActuary_7 rfl (lv_at hl 1 rfl) ?_
  obtain ⟨r8, hc8, hf⟩ := zb hf
  refine zvw (o := some (.int r8.1)) (As := [.int x1]) (rest := []) (stk := [.int r8.1]) ⟨hx, hb, hml, hown, hts⟩ (mX7_liftsPlain l D cy st sk sv B am am0 am1 am2 am3 am4 am5 am6 am7 am8 am9 am10 am11 am12 _ n r3.1.1 r3.1.2.1 r3.1.2.2.1 r3.1.2.2.2.1 r3.1.2.2.2.2.1 r3.1.2.2.2.2.2.1 r3.1.2.2.2.2.2.2.1 r3.1.2.2.2.2.2.2.2.1 r3.1.2.2.2.2.2.2.2.2.1 r3.1.2.2.2.2.2.2.2.2.2.1 r3.1.2.2.2.2.2.2.2.2.2.2.1 r3.1.2.2.2.2.2.2.2.2.2.2.2.1 r3.1.2.2.2.2.2.2.2.2.2.2.2.2 r3.2 x1 r8 hc8) (cwV 1 hts gX7_liftsOfActuary_X7_liftsPlain rfl rfl rfl (by decide +kernel) ⟨Nat.le_of_ble_eq_true rfl, Nat.le_of_ble_eq_true rfl⟩) hG hS hAB hA hP hD [0, 1] (by decide) rfl rfl rfl rfl 0 7 rfl rfl rfl rfl hl.1 rfl (Nat.le_of_ble_eq_true rfl) dX7_liftsOfActuary_8 rfl (fun H locs hP hD hS => ?_)
  have hP : va_P D vwCl [(am, .inr (7, [.ref am0, .ref am1, .ref am2, .ref am3, .int r8.2.1.1, .ref am4, .int r8.2.1.2.1, .int r8.2.1.2.2.1, .int r8.2.1.2.2.2.1, .int r8.2.1.2.2.2.2.1, .int r8.2.1.2.2.2.2.2.1, .int r8.2.1.2.2.2.2.2.2.1, .ref am5, .int r8.2.1.2.2.2.2.2.2.2.1, .ref am6, .ref am7, .ref am8, .ref am9, .ref am10, .ref am11, .ref am12, .int r8.2.1.2.2.2.2.2.2.2.2.1, .int r8.2.1.2.2.2.2.2.2.2.2.2.1, .int r8.2.1.2.2.2.2.2.2.2.2.2.2.1, .int r8.2.1.2.2.2.2.2.2.2.2.2.2.2.1, .int r8.2.1.2.2.2.2.2.2.2.2.2.2.2.2])), (am12, .inl (cy 0, 30, .inl r8.2.2))] H := hP
  have hD : va_D A [(am, .inr (7, [.ref am0, .ref am1, .ref am2, .ref am3, .int r8.2.1.1, .ref am4, .int r8.2.1.2.1, .int r8.2.1.2.2.1, .int r8.2.1.2.2.2.1, .int r8.2.1.2.2.2.2.1, .int r8.2.1.2.2.2.2.2.1, .int r8.2.1.2.2.2.2.2.2.1, .ref am5, .int r8.2.1.2.2.2.2.2.2.2.1, .ref am6, .ref am7, .ref am8, .ref am9, .ref am10, .ref am11, .ref am12, .int r8.2.1.2.2.2.2.2.2.2.2.1, .int r8.2.1.2.2.2.2.2.2.2.2.2.1, .int r8.2.1.2.2.2.2.2.2.2.2.2.2.1, .int r8.2.1.2.2.2.2.2.2.2.2.2.2.2.1, .int r8.2.1.2.2.2.2.2.2.2.2.2.2.2.2])), (am12, .inl (cy 0, 30, .inl r8.2.2))] := hD
  refine lv_iconst (v := (3 : Int32)) hx hb dX7_liftsOfActuary_11 (by decide) ?_
  refine lv_imul hx hb dX7_liftsOfActuary_12 ?_
  exact W.iret hx hb hr (fun t ht hW => hfin (r8.1 * (3 : Int32)) r8.2.1.1 r8.2.1.2.1 r8.2.1.2.2.1 r8.2.1.2.2.2.1 r8.2.1.2.2.2.2.1 r8.2.1.2.2.2.2.2.1 r8.2.1.2.2.2.2.2.2.1 r8.2.1.2.2.2.2.2.2.2.1 r8.2.1.2.2.2.2.2.2.2.2.1 r8.2.1.2.2.2.2.2.2.2.2.2.1 r8.2.1.2.2.2.2.2.2.2.2.2.2.1 r8.2.1.2.2.2.2.2.2.2.2.2.2.2.1 r8.2.1.2.2.2.2.2.2.2.2.2.2.2.2 r8.2.2 hf _ t ht hP (hS.F ht)) hS.2.2 dX7_liftsOfActuary_13
set_option maxRecDepth 100000 in
set_option maxHeartbeats 100000000 in
theorem mX7_lifts (l : Launch) (D : va_G) (cy : Nat → ClassId) (st sk sv : Nat → Nat) (B : Nat) (am : Nat) (am0 : Nat) (am1 : Nat) (am2 : Nat) (am3 : Nat) (am4 : Nat) (am5 : Nat) (am6 : Nat) (am7 : Nat) (am8 : Nat) (am9 : Nat) (am10 : Nat) (am11 : Nat) (am12 : Nat) (sz : Nat) (n : Nat) (M_isHeld : Int32) (M_taped : Int32) (M_token : Int32) (M_from : Int32) (M_to : Int32) (M_value : Int32) (M_isWrong : Int32) (M_rowN : Int32) (M_ran : Int32) (M_actKind : Int32) (M_actN : Int32) (M_actA : Int32) (M_isParted : Int32) (u_bodies : (Nat → Int32)) (x1 : Int32) (z : Int32 × MO × (Nat → Int32)) (hf : fX7_lifts n (M_isHeld, M_taped, M_token, M_from, M_to, M_value, M_isWrong, M_rowN, M_ran, M_actKind, M_actN, M_actA, M_isParted) u_bodies x1 = some z) : Met l yX7_lifts wsX7_lifts ({ frames := 3, cells := 0, slots := 0, locals := 63 }) (PcW [.ref am, .int x1] D cy st sk sv B sz [(am, .inr (7, [.ref am0, .ref am1, .ref am2, .ref am3, .int M_isHeld, .ref am4, .int M_taped, .int M_token, .int M_from, .int M_to, .int M_value, .int M_isWrong, .ref am5, .int M_rowN, .ref am6, .ref am7, .ref am8, .ref am9, .ref am10, .ref am11, .ref am12, .int M_ran, .int M_actKind, .int M_actN, .int M_actA, .int M_isParted])), (am12, .inl (cy 0, 30, .inl u_bodies))]) (Qw (some (.int z.1)) D [(am, .inr (7, [.ref am0, .ref am1, .ref am2, .ref am3, .int z.2.1.1, .ref am4, .int z.2.1.2.1, .int z.2.1.2.2.1, .int z.2.1.2.2.2.1, .int z.2.1.2.2.2.2.1, .int z.2.1.2.2.2.2.2.1, .int z.2.1.2.2.2.2.2.2.1, .ref am5, .int z.2.1.2.2.2.2.2.2.2.1, .ref am6, .ref am7, .ref am8, .ref am9, .ref am10, .ref am11, .ref am12, .int z.2.1.2.2.2.2.2.2.2.2.1, .int z.2.1.2.2.2.2.2.2.2.2.2.1, .int z.2.1.2.2.2.2.2.2.2.2.2.2.1, .int z.2.1.2.2.2.2.2.2.2.2.2.2.2.1, .int z.2.1.2.2.2.2.2.2.2.2.2.2.2.2])), (am12, .inl (cy 0, 30, .inl z.2.2))] (va_A [(am, .inr (7, [.ref am0, .ref am1, .ref am2, .ref am3, .int M_isHeld, .ref am4, .int M_taped, .int M_token, .int M_from, .int M_to, .int M_value, .int M_isWrong, .ref am5, .int M_rowN, .ref am6, .ref am7, .ref am8, .ref am9, .ref am10, .ref am11, .ref am12, .int M_ran, .int M_actKind, .int M_actN, .int M_actA, .int M_isParted])), (am12, .inl (cy 0, 30, .inl u_bodies))] sz)) 0 0 (va_A [(am, .inr (7, [.ref am0, .ref am1, .ref am2, .ref am3, .int M_isHeld, .ref am4, .int M_taped, .int M_token, .int M_from, .int M_to, .int M_value, .int M_isWrong, .ref am5, .int M_rowN, .ref am6, .ref am7, .ref am8, .ref am9, .ref am10, .ref am11, .ref am12, .int M_ran, .int M_actKind, .int M_actN, .int M_actA, .int M_isParted])), (am12, .inl (cy 0, 30, .inl u_bodies))] sz) := by
  refine Met.ofW (cc := cX7_lifts) (maxL := 2) (ret := (some .int)) (by decide) rfl ?_
  intro p e s m args below meth c s₁ Bd hml hv
  obtain ⟨rfl, hsz, hP, hD0, hBs, hG⟩ := hv
  have hx := Bd.exec
  have hb := Bd.bytes
  have hr := Bd.returns
  have hts := atoms_spec (ws := wsX7_lifts) Bd.pre
  have hown : s.vm.findClass RX7 = some m.cls := findClass_of_methodNamed Bd.named
  have hlocks := Bd.notSynchronized
  have hK := hG.1
  subst hsz
  have hD := hD0.self (sz := s.heap.size)
  have hAB0 := zA hD0 hBs
  generalize hAe : va_A [(am, .inr (7, [.ref am0, .ref am1, .ref am2, .ref am3, .int M_isHeld, .ref am4, .int M_taped, .int M_token, .int M_from, .int M_to, .int M_value, .int M_isWrong, .ref am5, .int M_rowN, .ref am6, .ref am7, .ref am8, .ref am9, .ref am10, .ref am11, .ref am12, .int M_ran, .int M_actKind, .int M_actN, .int M_actA, .int M_isParted])), (am12, .inl (cy 0, 30, .inl u_bodies))] s.heap.size = A at hD hAB0 ⊢
  have hA : ∀ q : Nat, s.heap.size ≤ q → A q := fun q h => by rw [← hAe]; exact Or.inr h
  have hAB : ∀ q, A q → B ≤ q := hAB0
  have hS : va_S A s.heap s.heap [] := va_S.rf
  have hfin : ∀ (z0 : Int32) (M_isHeld : Int32) (M_taped : Int32) (M_token : Int32) (M_from : Int32) (M_to : Int32) (M_value : Int32) (M_isWrong : Int32) (M_rowN : Int32) (M_ran : Int32) (M_actKind : Int32) (M_actN : Int32) (M_actA : Int32) (M_isParted : Int32) (u_bodies : (Nat → Int32)), some (z0, (M_isHeld, M_taped, M_token, M_from, M_to, M_value, M_isWrong, M_rowN, M_ran, M_actKind, M_actN, M_actA, M_isParted), u_bodies) = some z → ∀ (H : Heap) (t : State), t.heap = H → va_P D vwCl [(am, .inr (7, [.ref am0, .ref am1, .ref am2, .ref am3, .int M_isHeld, .ref am4, .int M_taped, .int M_token, .int M_from, .int M_to, .int M_value, .int M_isWrong, .ref am5, .int M_rowN, .ref am6, .ref am7, .ref am8, .ref am9, .ref am10, .ref am11, .ref am12, .int M_ran, .int M_actKind, .int M_actN, .int M_actA, .int M_isParted])), (am12, .inl (cy 0, 30, .inl u_bodies))] H → va_F A s t → Qw (some (.int z.1)) D [(am, .inr (7, [.ref am0, .ref am1, .ref am2, .ref am3, .int z.2.1.1, .ref am4, .int z.2.1.2.1, .int z.2.1.2.2.1, .int z.2.1.2.2.2.1, .int z.2.1.2.2.2.2.1, .int z.2.1.2.2.2.2.2.1, .int z.2.1.2.2.2.2.2.2.1, .ref am5, .int z.2.1.2.2.2.2.2.2.2.1, .ref am6, .ref am7, .ref am8, .ref am9, .ref am10, .ref am11, .ref am12, .int z.2.1.2.2.2.2.2.2.2.2.1, .int z.2.1.2.2.2.2.2.2.2.2.2.1, .int z.2.1.2.2.2.2.2.2.2.2.2.2.1, .int z.2.1.2.2.2.2.2.2.2.2.2.2.2.1, .int z.2.1.2.2.2.2.2.2.2.2.2.2.2.2])), (am12, .inl (cy 0, 30, .inl z.2.2))] A ([.ref am, .int x1] : List Value).toArray s (.returned (some (.int z0))) t := by
    intro z0 M_isHeld M_taped M_token M_from M_to M_value M_isWrong M_rowN M_ran M_actKind M_actN M_actA M_isParted u_bodies h9 H t ht hP hF
    cases h9
    exact ⟨rfl, by rw [ht]; exact hP, hF⟩
  have hin7 : ∀ w ∈ u_ws RX7 TX7 26, w ∈ wsX7_lifts := by decide +kernel
  have fl304 := hts (.fieldLink RX7 304 "KinCutleryModel" "actKind" "I") (by decide +kernel)
  have fl310 := hts (.fieldLink RX7 310 "KinCutleryModel" "actA" "I") (by decide +kernel)
  have hl := lv_entry ([.ref am, .int x1]) (n := 2) (Nat.le_of_ble_eq_true rfl)
  rw [lg_entry_eq]
  generalize (lg_sl ([.ref am, .int x1]) ++ List.replicate (2 - (lg_sl ([.ref am, .int x1])).length) Slot.unset).toArray = ls at hl ⊢
  have hl : lv_has ls 2 [(0, .ref am), (1, .int x1)] := hl
  have hf : (if M_actKind = (2 : Int32) then ((fX7_liftsOfActuary n (M_isHeld, M_taped, M_token, M_from, M_to, M_value, M_isWrong, M_rowN, M_ran, M_actKind, M_actN, M_actA, M_isParted) u_bodies x1).bind fun r34 => some (r34.1, r34.2.1, r34.2.2)) else if M_actKind = (3 : Int32) then ((fX7_runs n (M_isHeld, M_taped, M_token, M_from, M_to, M_value, M_isWrong, M_rowN, M_ran, M_actKind, M_actN, M_actA, M_isParted) u_bodies (51 : Int32)).bind fun r55 => (fX7_liftsPlain n r55.1 r55.2 x1).bind fun r60 => some ((r60.1 - r60.2.1.2.2.2.2.2.2.2.2.2.2.2.1), r60.2.1, r60.2.2)) else if M_actKind = (4 : Int32) then ((fX7_runs n (M_isHeld, M_taped, M_token, M_from, M_to, M_value, M_isWrong, M_rowN, M_ran, M_actKind, M_actN, M_actA, M_isParted) u_bodies (40 : Int32)).bind fun r41 => (fX7_liftsOfActuary n r41.1 r41.2 x1).bind fun r47 => some (((0 : Int32) - r47.1), r47.2.1, r47.2.2)) else  ((fX7_liftsPlain n (M_isHeld, M_taped, M_token, M_from, M_to, M_value, M_isWrong, M_rowN, M_ran, M_actKind, M_actN, M_actA, M_isParted) u_bodies x1).bind fun r71 => some (r71.1, r71.2.1, r71.2.2))) = some z := hf
  refine lv_aload_n hx hb dX7_lifts_0 rfl (lv_at hl 0 rfl) ?_
  refine va_get (D := D) (ci := 7) (v := .int M_actKind) (C := RX7) (T := TX7) (N := 26) hx hb hts hin7 hown hK hP 0 rfl rfl 22 (by decide) fl304 (fun _ h9 => h9) rfl dX7_lifts_1 ?_
  by_cases c_4_2 : M_actKind = (2 : Int32)
  · have hf := zp hf c_4_2
    refine lv_tableIn (tgt := 32) hx hb dX7_lifts_4 (by rw [c_4_2]; decide) (by rw [c_4_2]; decide) (by rw [c_4_2]; rfl) (by decide) ?_
    refine lv_aload_n hx hb dX7_lifts_32 rfl (lv_at hl 0 rfl) ?_
    refine lv_iload_n hx hb dX7_lifts_33 rfl (lv_at hl 1 rfl) ?_
    obtain ⟨r34, hc34, hf⟩ := zb hf
    refine zvw (o := some (.int r34.1)) (As := [.int x1]) (rest := []) (stk := [.int r34.1]) ⟨hx, hb, hml, hown, hts⟩ (mX7_liftsOfActuary l D cy st sk sv B am am0 am1 am2 am3 am4 am5 am6 am7 am8 am9 am10 am11 am12 _ n M_isHeld M_taped M_token M_from M_to M_value M_isWrong M_rowN M_ran M_actKind M_actN M_actA M_isParted u_bodies x1 r34 hc34) (cwV 1 hts gX7_lifts_X7_liftsOfActuary rfl rfl rfl (by decide +kernel) ⟨Nat.le_of_ble_eq_true rfl, Nat.le_of_ble_eq_true rfl⟩) hG hS hAB hA hP hD [0, 1] (by decide) rfl rfl rfl rfl 0 7 rfl rfl rfl rfl hl.1 rfl (Nat.le_of_ble_eq_true rfl) dX7_lifts_34 rfl (fun H locs hP hD hS => ?_)
    have hP : va_P D vwCl [(am, .inr (7, [.ref am0, .ref am1, .ref am2, .ref am3, .int r34.2.1.1, .ref am4, .int r34.2.1.2.1, .int r34.2.1.2.2.1, .int r34.2.1.2.2.2.1, .int r34.2.1.2.2.2.2.1, .int r34.2.1.2.2.2.2.2.1, .int r34.2.1.2.2.2.2.2.2.1, .ref am5, .int r34.2.1.2.2.2.2.2.2.2.1, .ref am6, .ref am7, .ref am8, .ref am9, .ref am10, .ref am11, .ref am12, .int r34.2.1.2.2.2.2.2.2.2.2.1, .int r34.2.1.2.2.2.2.2.2.2.2.2.1, .int r34.2.1.2.2.2.2.2.2.2.2.2.2.1, .int r34.2.1.2.2.2.2.2.2.2.2.2.2.2.1, .int r34.2.1.2.2.2.2.2.2.2.2.2.2.2.2])), (am12, .inl (cy 0, 30, .inl r34.2.2))] H := hP
    have hD : va_D A [(am, .inr (7, [.ref am0, .ref am1, .ref am2, .ref am3, .int r34.2.1.1, .ref am4, .int r34.2.1.2.1, .int r34.2.1.2.2.1, .int r34.2.1.2.2.2.1, .int r34.2.1.2.2.2.2.1, .int r34.2.1.2.2.2.2.2.1, .int r34.2.1.2.2.2.2.2.2.1, .ref am5, .int r34.2.1.2.2.2.2.2.2.2.1, .ref am6, .ref am7, .ref am8, .ref am9, .ref am10, .ref am11, .ref am12, .int r34.2.1.2.2.2.2.2.2.2.2.1, .int r34.2.1.2.2.2.2.2.2.2.2.2.1, .int r34.2.1.2.2.2.2.2.2.2.2.2.2.1, .int r34.2.1.2.2.2.2.2.2.2.2.2.2.2.1, .int r34.2.1.2.2.2.2.2.2.2.2.2.2.2.2])), (am12, .inl (cy 0, 30, .inl r34.2.2))] := hD
    exact W.iret hx hb hr (fun t ht hW => hfin r34.1 r34.2.1.1 r34.2.1.2.1 r34.2.1.2.2.1 r34.2.1.2.2.2.1 r34.2.1.2.2.2.2.1 r34.2.1.2.2.2.2.2.1 r34.2.1.2.2.2.2.2.2.1 r34.2.1.2.2.2.2.2.2.2.1 r34.2.1.2.2.2.2.2.2.2.2.1 r34.2.1.2.2.2.2.2.2.2.2.2.1 r34.2.1.2.2.2.2.2.2.2.2.2.2.1 r34.2.1.2.2.2.2.2.2.2.2.2.2.2.1 r34.2.1.2.2.2.2.2.2.2.2.2.2.2.2 r34.2.2 hf _ t ht hP (hS.F ht)) hS.2.2 dX7_lifts_37
  have hf := zn hf c_4_2
  by_cases c_4_3 : M_actKind = (3 : Int32)
  · have hf := zp hf c_4_3
    refine lv_tableIn (tgt := 52) hx hb dX7_lifts_4 (by rw [c_4_3]; decide) (by rw [c_4_3]; decide) (by rw [c_4_3]; rfl) (by decide) ?_
    refine lv_aload_n hx hb dX7_lifts_52 rfl (lv_at hl 0 rfl) ?_
    refine lv_bipush (v := (51 : Int32)) hx hb dX7_lifts_53 (by decide) ?_
    obtain ⟨r55, hc55, hf⟩ := zb hf
    refine zvw (o := none) (As := [.int (51 : Int32)]) (rest := []) (stk := []) ⟨hx, hb, hml, hown, hts⟩ (mX7_runs l D cy st sk sv B am am0 am1 am2 am3 am4 am5 am6 am7 am8 am9 am10 am11 am12 _ n M_isHeld M_taped M_token M_from M_to M_value M_isWrong M_rowN M_ran M_actKind M_actN M_actA M_isParted u_bodies (51 : Int32) r55 hc55) (cwV 1 hts gX7_lifts_X7_runs rfl rfl rfl (by decide +kernel) ⟨Nat.le_of_ble_eq_true rfl, Nat.le_of_ble_eq_true rfl⟩) hG hS hAB hA hP hD [0, 1] (by decide) rfl rfl rfl rfl 0 7 rfl rfl rfl rfl hl.1 rfl (Nat.le_of_ble_eq_true rfl) dX7_lifts_55 rfl (fun H locs hP hD hS => ?_)
    have hP : va_P D vwCl [(am, .inr (7, [.ref am0, .ref am1, .ref am2, .ref am3, .int r55.1.1, .ref am4, .int r55.1.2.1, .int r55.1.2.2.1, .int r55.1.2.2.2.1, .int r55.1.2.2.2.2.1, .int r55.1.2.2.2.2.2.1, .int r55.1.2.2.2.2.2.2.1, .ref am5, .int r55.1.2.2.2.2.2.2.2.1, .ref am6, .ref am7, .ref am8, .ref am9, .ref am10, .ref am11, .ref am12, .int r55.1.2.2.2.2.2.2.2.2.1, .int r55.1.2.2.2.2.2.2.2.2.2.1, .int r55.1.2.2.2.2.2.2.2.2.2.2.1, .int r55.1.2.2.2.2.2.2.2.2.2.2.2.1, .int r55.1.2.2.2.2.2.2.2.2.2.2.2.2])), (am12, .inl (cy 0, 30, .inl r55.2))] H := hP
    have hD : va_D A [(am, .inr (7, [.ref am0, .ref am1, .ref am2, .ref am3, .int r55.1.1, .ref am4, .int r55.1.2.1, .int r55.1.2.2.1, .int r55.1.2.2.2.1, .int r55.1.2.2.2.2.1, .int r55.1.2.2.2.2.2.1, .int r55.1.2.2.2.2.2.2.1, .ref am5, .int r55.1.2.2.2.2.2.2.2.1, .ref am6, .ref am7, .ref am8, .ref am9, .ref am10, .ref am11, .ref am12, .int r55.1.2.2.2.2.2.2.2.2.1, .int r55.1.2.2.2.2.2.2.2.2.2.1, .int r55.1.2.2.2.2.2.2.2.2.2.2.1, .int r55.1.2.2.2.2.2.2.2.2.2.2.2.1, .int r55.1.2.2.2.2.2.2.2.2.2.2.2.2])), (am12, .inl (cy 0, 30, .inl r55.2))] := hD
    refine lv_aload_n hx hb dX7_lifts_58 rfl (lv_at hl 0 rfl) ?_
    refine lv_iload_n hx hb dX7_lifts_59 rfl (lv_at hl 1 rfl) ?_
    obtain ⟨r60, hc60, hf⟩ := zb hf
    refine zvw (o := some (.int r60.1)) (As := [.int x1]) (rest := []) (stk := [.int r60.1]) ⟨hx, hb, hml, hown, hts⟩ (mX7_liftsPlain l D cy st sk sv B am am0 am1 am2 am3 am4 am5 am6 am7 am8 am9 am10 am11 am12 _ n r55.1.1 r55.1.2.1 r55.1.2.2.1 r55.1.2.2.2.1 r55.1.2.2.2.2.1 r55.1.2.2.2.2.2.1 r55.1.2.2.2.2.2.2.1 r55.1.2.2.2.2.2.2.2.1 r55.1.2.2.2.2.2.2.2.2.1 r55.1.2.2.2.2.2.2.2.2.2.1 r55.1.2.2.2.2.2.2.2.2.2.2.1 r55.1.2.2.2.2.2.2.2.2.2.2.2.1 r55.1.2.2.2.2.2.2.2.2.2.2.2.2 r55.2 x1 r60 hc60) (cwV 1 hts gX7_lifts_X7_liftsPlain rfl rfl rfl (by decide +kernel) ⟨Nat.le_of_ble_eq_true rfl, Nat.le_of_ble_eq_true rfl⟩) hG hS hAB hA hP hD [0, 1] (by decide) rfl rfl rfl rfl 0 7 rfl rfl rfl rfl hl.1 rfl (Nat.le_of_ble_eq_true rfl) dX7_lifts_60 rfl (fun H locs hP hD hS => ?_)
    have hP : va_P D vwCl [(am, .inr (7, [.ref am0, .ref am1, .ref am2, .ref am3, .int r60.2.1.1, .ref am4, .int r60.2.1.2.1, .int r60.2.1.2.2.1, .int r60.2.1.2.2.2.1, .int r60.2.1.2.2.2.2.1, .int r60.2.1.2.2.2.2.2.1, .int r60.2.1.2.2.2.2.2.2.1, .ref am5, .int r60.2.1.2.2.2.2.2.2.2.1, .ref am6, .ref am7, .ref am8, .ref am9, .ref am10, .ref am11, .ref am12, .int r60.2.1.2.2.2.2.2.2.2.2.1, .int r60.2.1.2.2.2.2.2.2.2.2.2.1, .int r60.2.1.2.2.2.2.2.2.2.2.2.2.1, .int r60.2.1.2.2.2.2.2.2.2.2.2.2.2.1, .int r60.2.1.2.2.2.2.2.2.2.2.2.2.2.2])), (am12, .inl (cy 0, 30, .inl r60.2.2))] H := hP
    have hD : va_D A [(am, .inr (7, [.ref am0, .ref am1, .ref am2, .ref am3, .int r60.2.1.1, .ref am4, .int r60.2.1.2.1, .int r60.2.1.2.2.1, .int r60.2.1.2.2.2.1, .int r60.2.1.2.2.2.2.1, .int r60.2.1.2.2.2.2.2.1, .int r60.2.1.2.2.2.2.2.2.1, .ref am5, .int r60.2.1.2.2.2.2.2.2.2.1, .ref am6, .ref am7, .ref am8, .ref am9, .ref am10, .ref am11, .ref am12, .int r60.2.1.2.2.2.2.2.2.2.2.1, .int r60.2.1.2.2.2.2.2.2.2.2.2.1, .int r60.2.1.2.2.2.2.2.2.2.2.2.2.1, .int r60.2.1.2.2.2.2.2.2.2.2.2.2.2.1, .int r60.2.1.2.2.2.2.2.2.2.2.2.2.2.2])), (am12, .inl (cy 0, 30, .inl r60.2.2))] := hD
    refine lv_aload_n hx hb dX7_lifts_63 rfl (lv_at hl 0 rfl) ?_
    refine va_get (D := D) (ci := 7) (v := .int r60.2.1.2.2.2.2.2.2.2.2.2.2.2.1) (C := RX7) (T := TX7) (N := 26) hx hb hts hin7 hown hK hP 0 rfl rfl 24 (by decide) fl310 (fun _ h9 => h9) rfl dX7_lifts_64 ?_
    refine lv_isub hx hb dX7_lifts_67 ?_
    exact W.iret hx hb hr (fun t ht hW => hfin (r60.1 - r60.2.1.2.2.2.2.2.2.2.2.2.2.2.1) r60.2.1.1 r60.2.1.2.1 r60.2.1.2.2.1 r60.2.1.2.2.2.1 r60.2.1.2.2.2.2.1 r60.2.1.2.2.2.2.2.1 r60.2.1.2.2.2.2.2.2.1 r60.2.1.2.2.2.2.2.2.2.1 r60.2.1.2.2.2.2.2.2.2.2.1 r60.2.1.2.2.2.2.2.2.2.2.2.1 r60.2.1.2.2.2.2.2.2.2.2.2.2.1 r60.2.1.2.2.2.2.2.2.2.2.2.2.2.1 r60.2.1.2.2.2.2.2.2.2.2.2.2.2.2 r60.2.2 hf _ t ht hP (hS.F ht)) hS.2.2 dX7_lifts_68
  have hf := zn hf c_4_3
  by_cases c_4_4 : M_actKind = (4 : Int32)
  · have hf := zp hf c_4_4
    refine lv_tableIn (tgt := 38) hx hb dX7_lifts_4 (by rw [c_4_4]; decide) (by rw [c_4_4]; decide) (by rw [c_4_4]; rfl) (by decide) ?_
    refine lv_aload_n hx hb dX7_lifts_38 rfl (lv_at hl 0 rfl) ?_
    refine lv_bipush (v := (40 : Int32)) hx hb dX7_lifts_39 (by decide) ?_
    obtain ⟨r41, hc41, hf⟩ := zb hf
    refine zvw (o := none) (As := [.int (40 : Int32)]) (rest := []) (stk := []) ⟨hx, hb, hml, hown, hts⟩ (mX7_runs l D cy st sk sv B am am0 am1 am2 am3 am4 am5 am6 am7 am8 am9 am10 am11 am12 _ n M_isHeld M_taped M_token M_from M_to M_value M_isWrong M_rowN M_ran M_actKind M_actN M_actA M_isParted u_bodies (40 : Int32) r41 hc41) (cwV 1 hts gX7_lifts_X7_runs rfl rfl rfl (by decide +kernel) ⟨Nat.le_of_ble_eq_true rfl, Nat.le_of_ble_eq_true rfl⟩) hG hS hAB hA hP hD [0, 1] (by decide) rfl rfl rfl rfl 0 7 rfl rfl rfl rfl hl.1 rfl (Nat.le_of_ble_eq_true rfl) dX7_lifts_41 rfl (fun H locs hP hD hS => ?_)
    have hP : va_P D vwCl [(am, .inr (7, [.ref am0, .ref am1, .ref am2, .ref am3, .int r41.1.1, .ref am4, .int r41.1.2.1, .int r41.1.2.2.1, .int r41.1.2.2.2.1, .int r41.1.2.2.2.2.1, .int r41.1.2.2.2.2.2.1, .int r41.1.2.2.2.2.2.2.1, .ref am5, .int r41.1.2.2.2.2.2.2.2.1, .ref am6, .ref am7, .ref am8, .ref am9, .ref am10, .ref am11, .ref am12, .int r41.1.2.2.2.2.2.2.2.2.1, .int r41.1.2.2.2.2.2.2.2.2.2.1, .int r41.1.2.2.2.2.2.2.2.2.2.2.1, .int r41.1.2.2.2.2.2.2.2.2.2.2.2.1, .int r41.1.2.2.2.2.2.2.2.2.2.2.2.2])), (am12, .inl (cy 0, 30, .inl r41.2))] H := hP
    have hD : va_D A [(am, .inr (7, [.ref am0, .ref am1, .ref am2, .ref am3, .int r41.1.1, .ref am4, .int r41.1.2.1, .int r41.1.2.2.1, .int r41.1.2.2.2.1, .int r41.1.2.2.2.2.1, .int r41.1.2.2.2.2.2.1, .int r41.1.2.2.2.2.2.2.1, .ref am5, .int r41.1.2.2.2.2.2.2.2.1, .ref am6, .ref am7, .ref am8, .ref am9, .ref am10, .ref am11, .ref am12, .int r41.1.2.2.2.2.2.2.2.2.1, .int r41.1.2.2.2.2.2.2.2.2.2.1, .int r41.1.2.2.2.2.2.2.2.2.2.2.1, .int r41.1.2.2.2.2.2.2.2.2.2.2.2.1, .int r41.1.2.2.2.2.2.2.2.2.2.2.2.2])), (am12, .inl (cy 0, 30, .inl r41.2))] := hD
    refine lv_iconst (v := (0 : Int32)) hx hb dX7_lifts_44 (by decide) ?_
    refine lv_aload_n hx hb dX7_lifts_45 rfl (lv_at hl 0 rfl) ?_
    refine lv_iload_n hx hb dX7_lifts_46 rfl (lv_at hl 1 rfl) ?_
    obtain ⟨r47, hc47, hf⟩ := zb hf
    refine zvw (o := some (.int r47.1)) (As := [.int x1]) (rest := [.int (0 : Int32)]) (stk := [.int r47.1, .int (0 : Int32)]) ⟨hx, hb, hml, hown, hts⟩ (mX7_liftsOfActuary l D cy st sk sv B am am0 am1 am2 am3 am4 am5 am6 am7 am8 am9 am10 am11 am12 _ n r41.1.1 r41.1.2.1 r41.1.2.2.1 r41.1.2.2.2.1 r41.1.2.2.2.2.1 r41.1.2.2.2.2.2.1 r41.1.2.2.2.2.2.2.1 r41.1.2.2.2.2.2.2.2.1 r41.1.2.2.2.2.2.2.2.2.1 r41.1.2.2.2.2.2.2.2.2.2.1 r41.1.2.2.2.2.2.2.2.2.2.2.1 r41.1.2.2.2.2.2.2.2.2.2.2.2.1 r41.1.2.2.2.2.2.2.2.2.2.2.2.2 r41.2 x1 r47 hc47) (cwV 1 hts gX7_lifts_X7_liftsOfActuary rfl rfl rfl (by decide +kernel) ⟨Nat.le_of_ble_eq_true rfl, Nat.le_of_ble_eq_true rfl⟩) hG hS hAB hA hP hD [0, 1] (by decide) rfl rfl rfl rfl 0 7 rfl rfl rfl rfl hl.1 rfl (Nat.le_of_ble_eq_true rfl) dX7_lifts_47 rfl (fun H locs hP hD hS => ?_)
    have hP : va_P D vwCl [(am, .inr (7, [.ref am0, .ref am1, .ref am2, .ref am3, .int r47.2.1.1, .ref am4, .int r47.2.1.2.1, .int r47.2.1.2.2.1, .int r47.2.1.2.2.2.1, .int r47.2.1.2.2.2.2.1, .int r47.2.1.2.2.2.2.2.1, .int r47.2.1.2.2.2.2.2.2.1, .ref am5, .int r47.2.1.2.2.2.2.2.2.2.1, .ref am6, .ref am7, .ref am8, .ref am9, .ref am10, .ref am11, .ref am12, .int r47.2.1.2.2.2.2.2.2.2.2.1, .int r47.2.1.2.2.2.2.2.2.2.2.2.1, .int r47.2.1.2.2.2.2.2.2.2.2.2.2.1, .int r47.2.1.2.2.2.2.2.2.2.2.2.2.2.1, .int r47.2.1.2.2.2.2.2.2.2.2.2.2.2.2])), (am12, .inl (cy 0, 30, .inl r47.2.2))] H := hP
    have hD : va_D A [(am, .inr (7, [.ref am0, .ref am1, .ref am2, .ref am3, .int r47.2.1.1, .ref am4, .int r47.2.1.2.1, .int r47.2.1.2.2.1, .int r47.2.1.2.2.2.1, .int r47.2.1.2.2.2.2.1, .int r47.2.1.2.2.2.2.2.1, .int r47.2.1.2.2.2.2.2.2.1, .ref am5, .int r47.2.1.2.2.2.2.2.2.2.1, .ref am6, .ref am7, .ref am8, .ref am9, .ref am10, .ref am11, .ref am12, .int r47.2.1.2.2.2.2.2.2.2.2.1, .int r47.2.1.2.2.2.2.2.2.2.2.2.1, .int r47.2.1.2.2.2.2.2.2.2.2.2.2.1, .int r47.2.1.2.2.2.2.2.2.2.2.2.2.2.1, .int r47.2.1.2.2.2.2.2.2.2.2.2.2.2.2])), (am12, .inl (cy 0, 30, .inl r47.2.2))] := hD
    refine lv_isub hx hb dX7_lifts_50 ?_
    exact W.iret hx hb hr (fun t ht hW => hfin ((0 : Int32) - r47.1) r47.2.1.1 r47.2.1.2.1 r47.2.1.2.2.1 r47.2.1.2.2.2.1 r47.2.1.2.2.2.2.1 r47.2.1.2.2.2.2.2.1 r47.2.1.2.2.2.2.2.2.1 r47.2.1.2.2.2.2.2.2.2.1 r47.2.1.2.2.2.2.2.2.2.2.1 r47.2.1.2.2.2.2.2.2.2.2.2.1 r47.2.1.2.2.2.2.2.2.2.2.2.2.1 r47.2.1.2.2.2.2.2.2.2.2.2.2.2.1 r47.2.1.2.2.2.2.2.2.2.2.2.2.2.2 r47.2.2 hf _ t ht hP (hS.F ht)) hS.2.2 dX7_lifts_51
  have hf := zn hf c_4_4
  have e_4_2 : ¬ M_actKind.toInt = 2 := fun h => c_4_2 (Int32.toInt_inj.mp (h.trans (by decide)))
  have e_4_3 : ¬ M_actKind.toInt = 3 := fun h => c_4_3 (Int32.toInt_inj.mp (h.trans (by decide)))
  have e_4_4 : ¬ M_actKind.toInt = 4 := fun h => c_4_4 (Int32.toInt_inj.mp (h.trans (by decide)))
  refine lv_tableOut (tgt := 69) hx hb dX7_lifts_4 (by omega) (by decide) ?_
  refine lv_aload_n hx hb dX7_lifts_69 rfl (lv_at hl 0 rfl) ?_
  refine lv_iload_n hx hb dX7_lifts_70 rfl (lv_at hl 1 rfl) ?_
  obtain ⟨r71, hc71, hf⟩ := zb hf
  refine zvw (o := some (.int r71.1)) (As := [.int x1]) (rest := []) (stk := [.int r71.1]) ⟨hx, hb, hml, hown, hts⟩ (mX7_liftsPlain l D cy st sk sv B am am0 am1 am2 am3 am4 am5 am6 am7 am8 am9 am10 am11 am12 _ n M_isHeld M_taped M_token M_from M_to M_value M_isWrong M_rowN M_ran M_actKind M_actN M_actA M_isParted u_bodies x1 r71 hc71) (cwV 1 hts gX7_lifts_X7_liftsPlain rfl rfl rfl (by decide +kernel) ⟨Nat.le_of_ble_eq_true rfl, Nat.le_of_ble_eq_true rfl⟩) hG hS hAB hA hP hD [0, 1] (by decide) rfl rfl rfl rfl 0 7 rfl rfl rfl rfl hl.1 rfl (Nat.le_of_ble_eq_true rfl) dX7_lifts_71 rfl (fun H locs hP hD hS => ?_)
  have hP : va_P D vwCl [(am, .inr (7, [.ref am0, .ref am1, .ref am2, .ref am3, .int r71.2.1.1, .ref am4, .int r71.2.1.2.1, .int r71.2.1.2.2.1, .int r71.2.1.2.2.2.1, .int r71.2.1.2.2.2.2.1, .int r71.2.1.2.2.2.2.2.1, .int r71.2.1.2.2.2.2.2.2.1, .ref am5, .int r71.2.1.2.2.2.2.2.2.2.1, .ref am6, .ref am7, .ref am8, .ref am9, .ref am10, .ref am11, .ref am12, .int r71.2.1.2.2.2.2.2.2.2.2.1, .int r71.2.1.2.2.2.2.2.2.2.2.2.1, .int r71.2.1.2.2.2.2.2.2.2.2.2.2.1, .int r71.2.1.2.2.2.2.2.2.2.2.2.2.2.1, .int r71.2.1.2.2.2.2.2.2.2.2.2.2.2.2])), (am12, .inl (cy 0, 30, .inl r71.2.2))] H := hP
  have hD : va_D A [(am, .inr (7, [.ref am0, .ref am1, .ref am2, .ref am3, .int r71.2.1.1, .ref am4, .int r71.2.1.2.1, .int r71.2.1.2.2.1, .int r71.2.1.2.2.2.1, .int r71.2.1.2.2.2.2.1, .int r71.2.1.2.2.2.2.2.1, .int r71.2.1.2.2.2.2.2.2.1, .ref am5, .int r71.2.1.2.2.2.2.2.2.2.1, .ref am6, .ref am7, .ref am8, .ref am9, .ref am10, .ref am11, .ref am12, .int r71.2.1.2.2.2.2.2.2.2.2.1, .int r71.2.1.2.2.2.2.2.2.2.2.2.1, .int r71.2.1.2.2.2.2.2.2.2.2.2.2.1, .int r71.2.1.2.2.2.2.2.2.2.2.2.2.2.1, .int r71.2.1.2.2.2.2.2.2.2.2.2.2.2.2])), (am12, .inl (cy 0, 30, .inl r71.2.2))] := hD
  exact W.iret hx hb hr (fun t ht hW => hfin r71.1 r71.2.1.1 r71.2.1.2.1 r71.2.1.2.2.1 r71.2.1.2.2.2.1 r71.2.1.2.2.2.2.1 r71.2.1.2.2.2.2.2.1 r71.2.1.2.2.2.2.2.2.1 r71.2.1.2.2.2.2.2.2.2.1 r71.2.1.2.2.2.2.2.2.2.2.1 r71.2.1.2.2.2.2.2.2.2.2.2.1 r71.2.1.2.2.2.2.2.2.2.2.2.2.1 r71.2.1.2.2.2.2.2.2.2.2.2.2.2.1 r71.2.1.2.2.2.2.2.2.2.2.2.2.2.2 r71.2.2 hf _ t ht hP (hS.F ht)) hS.2.2 dX7_lifts_74
