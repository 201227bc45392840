set_option maxRecDepth 100000 in
set_option maxHeartbeats 100000000 in
theorem mX7_act (l : Launch) (D : va_G) (cy : Nat → ClassId) (st sk sv : Nat → Nat) (B : Nat) (am : Nat) (am0 : Nat) (am1 : Nat) (am2 : Nat) (am3 : Nat) (am4 : Nat) (am5 : Nat) (am6 : Nat) (am7 : Nat) (am8 : Nat) (am9 : Nat) (am10 : Nat) (am11 : Nat) (am12 : Nat) (sz : Nat) (n : Nat) (M_isHeld : Int32) (M_taped : Int32) (M_token : Int32) (M_from : Int32) (M_to : Int32) (M_value : Int32) (M_isWrong : Int32) (M_rowN : Int32) (M_ran : Int32) (M_actKind : Int32) (M_actN : Int32) (M_actA : Int32) (M_isParted : Int32) (u_s : (Nat → Int32)) (u_holdsWhat : (Nat → Int32)) (u_holdsWhich : (Nat → Int32)) (u_bodies : (Nat → Int32)) (x1 : Int32) (x2 : Int32) (x3 : Int32) (z : Int32 × MO × (Nat → Int32)) (hf : fX7_act n (M_isHeld, M_taped, M_token, M_from, M_to, M_value, M_isWrong, M_rowN, M_ran, M_actKind, M_actN, M_actA, M_isParted) u_s u_holdsWhat u_holdsWhich u_bodies x1 x2 x3 = some z) : Met l yX7_act wsX7_act ({ frames := 8, cells := 0, slots := 0, locals := 170 }) (PcW [.ref am, .int x1, .int x2, .int x3] D cy st sk sv B sz [(am, .inr (7, [.ref am0, .ref am1, .ref am2, .ref am3, .int M_isHeld, .ref am4, .int M_taped, .int M_token, .int M_from, .int M_to, .int M_value, .int M_isWrong, .ref am5, .int M_rowN, .ref am6, .ref am7, .ref am8, .ref am9, .ref am10, .ref am11, .ref am12, .int M_ran, .int M_actKind, .int M_actN, .int M_actA, .int M_isParted])), (am0, .inl (cy 0, 48, .inl u_s)), (am9, .inl (cy 0, 4, .inl u_holdsWhat)), (am10, .inl (cy 0, 4, .inl u_holdsWhich)), (am12, .inl (cy 0, 30, .inl u_bodies))]) (Qw (some (.int z.1)) D [(am, .inr (7, [.ref am0, .ref am1, .ref am2, .ref am3, .int z.2.1.1, .ref am4, .int z.2.1.2.1, .int z.2.1.2.2.1, .int z.2.1.2.2.2.1, .int z.2.1.2.2.2.2.1, .int z.2.1.2.2.2.2.2.1, .int z.2.1.2.2.2.2.2.2.1, .ref am5, .int z.2.1.2.2.2.2.2.2.2.1, .ref am6, .ref am7, .ref am8, .ref am9, .ref am10, .ref am11, .ref am12, .int z.2.1.2.2.2.2.2.2.2.2.1, .int z.2.1.2.2.2.2.2.2.2.2.2.1, .int z.2.1.2.2.2.2.2.2.2.2.2.2.1, .int z.2.1.2.2.2.2.2.2.2.2.2.2.2.1, .int z.2.1.2.2.2.2.2.2.2.2.2.2.2.2])), (am0, .inl (cy 0, 48, .inl u_s)), (am9, .inl (cy 0, 4, .inl u_holdsWhat)), (am10, .inl (cy 0, 4, .inl u_holdsWhich)), (am12, .inl (cy 0, 30, .inl z.2.2))] (va_A [(am, .inr (7, [.ref am0, .ref am1, .ref am2, .ref am3, .int M_isHeld, .ref am4, .int M_taped, .int M_token, .int M_from, .int M_to, .int M_value, .int M_isWrong, .ref am5, .int M_rowN, .ref am6, .ref am7, .ref am8, .ref am9, .ref am10, .ref am11, .ref am12, .int M_ran, .int M_actKind, .int M_actN, .int M_actA, .int M_isParted])), (am0, .inl (cy 0, 48, .inl u_s)), (am9, .inl (cy 0, 4, .inl u_holdsWhat)), (am10, .inl (cy 0, 4, .inl u_holdsWhich)), (am12, .inl (cy 0, 30, .inl u_bodies))] sz)) 0 0 (va_A [(am, .inr (7, [.ref am0, .ref am1, .ref am2, .ref am3, .int M_isHeld, .ref am4, .int M_taped, .int M_token, .int M_from, .int M_to, .int M_value, .int M_isWrong, .ref am5, .int M_rowN, .ref am6, .ref am7, .ref am8, .ref am9, .ref am10, .ref am11, .ref am12, .int M_ran, .int M_actKind, .int M_actN, .int M_actA, .int M_isParted])), (am0, .inl (cy 0, 48, .inl u_s)), (am9, .inl (cy 0, 4, .inl u_holdsWhat)), (am10, .inl (cy 0, 4, .inl u_holdsWhich)), (am12, .inl (cy 0, 30, .inl u_bodies))] sz) := by
  refine Met.ofW (cc := cX7_act) (maxL := 5) (ret := (some .int)) (by decide) rfl ?_
  intro p e s m args below meth c s₁ Bd hml hv
  obtain ⟨rfl, hsz, hP, hD0, hBs, hG⟩ := hv
  have hx := Bd.exec
  have hb := Bd.bytes
  have hr := Bd.returns
  have hts := atoms_spec (ws := wsX7_act) Bd.pre
  have hown : s.vm.findClass RX7 = some m.cls := findClass_of_methodNamed Bd.named
  have hlocks := Bd.notSynchronized
  have hK := hG.1
  subst hsz
  have hD := hD0.self (sz := s.heap.size)
  have hAB0 := zA hD0 hBs
  generalize hAe : va_A [(am, .inr (7, [.ref am0, .ref am1, .ref am2, .ref am3, .int M_isHeld, .ref am4, .int M_taped, .int M_token, .int M_from, .int M_to, .int M_value, .int M_isWrong, .ref am5, .int M_rowN, .ref am6, .ref am7, .ref am8, .ref am9, .ref am10, .ref am11, .ref am12, .int M_ran, .int M_actKind, .int M_actN, .int M_actA, .int M_isParted])), (am0, .inl (cy 0, 48, .inl u_s)), (am9, .inl (cy 0, 4, .inl u_holdsWhat)), (am10, .inl (cy 0, 4, .inl u_holdsWhich)), (am12, .inl (cy 0, 30, .inl u_bodies))] s.heap.size = A at hD hAB0 ⊢
  have hA : ∀ q : Nat, s.heap.size ≤ q → A q := fun q h => by rw [← hAe]; exact Or.inr h
  have hAB : ∀ q, A q → B ≤ q := hAB0
  have hS : va_S A s.heap s.heap [] := va_S.rf
  have hfin : ∀ (z0 : Int32) (M_isHeld : Int32) (M_taped : Int32) (M_token : Int32) (M_from : Int32) (M_to : Int32) (M_value : Int32) (M_isWrong : Int32) (M_rowN : Int32) (M_ran : Int32) (M_actKind : Int32) (M_actN : Int32) (M_actA : Int32) (M_isParted : Int32) (u_bodies : (Nat → Int32)), some (z0, (M_isHeld, M_taped, M_token, M_from, M_to, M_value, M_isWrong, M_rowN, M_ran, M_actKind, M_actN, M_actA, M_isParted), u_bodies) = some z → ∀ (H : Heap) (t : State), t.heap = H → va_P D vwCl [(am, .inr (7, [.ref am0, .ref am1, .ref am2, .ref am3, .int M_isHeld, .ref am4, .int M_taped, .int M_token, .int M_from, .int M_to, .int M_value, .int M_isWrong, .ref am5, .int M_rowN, .ref am6, .ref am7, .ref am8, .ref am9, .ref am10, .ref am11, .ref am12, .int M_ran, .int M_actKind, .int M_actN, .int M_actA, .int M_isParted])), (am0, .inl (cy 0, 48, .inl u_s)), (am9, .inl (cy 0, 4, .inl u_holdsWhat)), (am10, .inl (cy 0, 4, .inl u_holdsWhich)), (am12, .inl (cy 0, 30, .inl u_bodies))] H → va_F A s t → Qw (some (.int z.1)) D [(am, .inr (7, [.ref am0, .ref am1, .ref am2, .ref am3, .int z.2.1.1, .ref am4, .int z.2.1.2.1, .int z.2.1.2.2.1, .int z.2.1.2.2.2.1, .int z.2.1.2.2.2.2.1, .int z.2.1.2.2.2.2.2.1, .int z.2.1.2.2.2.2.2.2.1, .ref am5, .int z.2.1.2.2.2.2.2.2.2.1, .ref am6, .ref am7, .ref am8, .ref am9, .ref am10, .ref am11, .ref am12, .int z.2.1.2.2.2.2.2.2.2.2.1, .int z.2.1.2.2.2.2.2.2.2.2.2.1, .int z.2.1.2.2.2.2.2.2.2.2.2.2.1, .int z.2.1.2.2.2.2.2.2.2.2.2.2.2.1, .int z.2.1.2.2.2.2.2.2.2.2.2.2.2.2])), (am0, .inl (cy 0, 48, .inl u_s)), (am9, .inl (cy 0, 4, .inl u_holdsWhat)), (am10, .inl (cy 0, 4, .inl u_holdsWhich)), (am12, .inl (cy 0, 30, .inl z.2.2))] A ([.ref am, .int x1, .int x2, .int x3] : List Value).toArray s (.returned (some (.int z0))) t := by
    intro z0 M_isHeld M_taped M_token M_from M_to M_value M_isWrong M_rowN M_ran M_actKind M_actN M_actA M_isParted u_bodies h9 H t ht hP hF
    cases h9
    exact ⟨rfl, by rw [ht]; exact hP, hF⟩
  have hin7 : ∀ w ∈ u_ws RX7 TX7 26, w ∈ wsX7_act := by decide +kernel
  have fl40 := hts (.fieldLink RX7 40 "KinCutleryModel" "holdsWhich" "[I") (by decide +kernel)
  have fl292 := hts (.fieldLink RX7 292 "KinCutleryModel" "ran" "I") (by decide +kernel)
  have fl298 := hts (.fieldLink RX7 298 "KinCutleryModel" "actN" "I") (by decide +kernel)
  have fl304 := hts (.fieldLink RX7 304 "KinCutleryModel" "actKind" "I") (by decide +kernel)
  have fl310 := hts (.fieldLink RX7 310 "KinCutleryModel" "actA" "I") (by decide +kernel)
  have fl319 := hts (.fieldLink RX7 319 "KinCutleryModel" "isParted" "Z") (by decide +kernel)
  have hB123 : ∀ (M_isHeld : Int32) (M_taped : Int32) (M_token : Int32) (M_from : Int32) (M_to : Int32) (M_value : Int32) (M_isWrong : Int32) (M_rowN : Int32) (M_ran : Int32) (M_actKind : Int32) (M_actN : Int32) (M_actA : Int32) (M_isParted : Int32) (u_bodies : (Nat → Int32)) (w0 : Int32), fX7_act_b123 n u_s u_holdsWhat u_holdsWhich x1 x2 x3  (M_isHeld, M_taped, M_token, M_from, M_to, M_value, M_isWrong, M_rowN, M_ran, M_actKind, M_actN, M_actA, M_isParted) u_bodies w0 = some z → ∀ (H : Heap) (locs : List Loc), va_P D vwCl [(am, .inr (7, [.ref am0, .ref am1, .ref am2, .ref am3, .int M_isHeld, .ref am4, .int M_taped, .int M_token, .int M_from, .int M_to, .int M_value, .int M_isWrong, .ref am5, .int M_rowN, .ref am6, .ref am7, .ref am8, .ref am9, .ref am10, .ref am11, .ref am12, .int M_ran, .int M_actKind, .int M_actN, .int M_actA, .int M_isParted])), (am0, .inl (cy 0, 48, .inl u_s)), (am9, .inl (cy 0, 4, .inl u_holdsWhat)), (am10, .inl (cy 0, 4, .inl u_holdsWhich)), (am12, .inl (cy 0, 30, .inl u_bodies))] H → va_D A [(am, .inr (7, [.ref am0, .ref am1, .ref am2, .ref am3, .int M_isHeld, .ref am4, .int M_taped, .int M_token, .int M_from, .int M_to, .int M_value, .int M_isWrong, .ref am5, .int M_rowN, .ref am6, .ref am7, .ref am8, .ref am9, .ref am10, .ref am11, .ref am12, .int M_ran, .int M_actKind, .int M_actN, .int M_actA, .int M_isParted])), (am0, .inl (cy 0, 48, .inl u_s)), (am9, .inl (cy 0, 4, .inl u_holdsWhat)), (am10, .inl (cy 0, 4, .inl u_holdsWhich)), (am12, .inl (cy 0, 30, .inl u_bodies))] → va_S A s.heap H locs → ∀ (ls : Array Slot), lv_has ls 5 [(0, .ref am), (1, .int x1), (2, .int x2), (3, .int x3)] → W p l e (headSpec wsX7_act ({ frames := 8, cells := 0, slots := 0, locals := 170 })).room s m ([.ref am, .int x1, .int x2, .int x3] : List Value).toArray below meth c H locs 0 0 (MQ below (Qw (some (.int z.1)) D [(am, .inr (7, [.ref am0, .ref am1, .ref am2, .ref am3, .int z.2.1.1, .ref am4, .int z.2.1.2.1, .int z.2.1.2.2.1, .int z.2.1.2.2.2.1, .int z.2.1.2.2.2.2.1, .int z.2.1.2.2.2.2.2.1, .int z.2.1.2.2.2.2.2.2.1, .ref am5, .int z.2.1.2.2.2.2.2.2.2.1, .ref am6, .ref am7, .ref am8, .ref am9, .ref am10, .ref am11, .ref am12, .int z.2.1.2.2.2.2.2.2.2.2.1, .int z.2.1.2.2.2.2.2.2.2.2.2.1, .int z.2.1.2.2.2.2.2.2.2.2.2.2.1, .int z.2.1.2.2.2.2.2.2.2.2.2.2.2.1, .int z.2.1.2.2.2.2.2.2.2.2.2.2.2.2])), (am0, .inl (cy 0, 48, .inl u_s)), (am9, .inl (cy 0, 4, .inl u_holdsWhat)), (am10, .inl (cy 0, 4, .inl u_holdsWhich)), (am12, .inl (cy 0, 30, .inl z.2.2))] A) ([.ref am, .int x1, .int x2, .int x3] : List Value).toArray s 0 0 A) (F0 m 123 ls [.int w0]) := by
    intro M_isHeld M_taped M_token M_from M_to M_value M_isWrong M_rowN M_ran M_actKind M_actN M_actA M_isParted u_bodies w0 hf H locs hP hD hS ls hl
    have hf : (if M_isParted = 0 then (some (w0, (M_isHeld, M_taped, M_token, M_from, M_to, M_value, M_isWrong, M_rowN, M_ran, M_actKind, M_actN, M_actA, M_isParted), u_bodies)) else (some ((-15 : Int32), (M_isHeld, M_taped, M_token, M_from, M_to, M_value, M_isWrong, M_rowN, M_ran, M_actKind, M_actN, M_actA, M_isParted), u_bodies))) = some z := hf
    refine lv_istore (lv' := [(4, .int w0), (0, .ref am), (1, .int x1), (2, .int x2), (3, .int x3)]) hx hb dX7_act_123 hl (by decide) rfl (fun ls hl => ?_)
    refine lv_aload_n hx hb dX7_act_125 rfl (lv_at hl 1 rfl) ?_
    refine va_get (D := D) (ci := 7) (v := .int M_isParted) (C := RX7) (T := TX7) (N := 26) hx hb hts hin7 hown hK hP 0 rfl rfl 25 (by decide) fl319 (fun _ h9 => h9) rfl dX7_act_126 ?_
    refine lv_if_eq (tgt := 137) hx hb dX7_act_129 (by decide) (fun c_129 => ?_) (fun c_129 => ?_)
    · have hf := zp hf c_129
      refine lv_iload hx hb dX7_act_137 (lv_at hl 0 rfl) ?_
      exact W.iret hx hb hr (fun t ht hW => hfin w0 M_isHeld M_taped M_token M_from M_to M_value M_isWrong M_rowN M_ran M_actKind M_actN M_actA M_isParted u_bodies hf _ t ht hP (hS.F ht)) hS.2.2 dX7_act_139
    · have hf := zn hf c_129
      refine lv_bipush (v := (-15 : Int32)) hx hb dX7_act_132 (by decide) ?_
      refine lv_goto (tgt := 139) hx hb dX7_act_134 (by decide) ?_
      exact W.iret hx hb hr (fun t ht hW => hfin (-15 : Int32) M_isHeld M_taped M_token M_from M_to M_value M_isWrong M_rowN M_ran M_actKind M_actN M_actA M_isParted u_bodies hf _ t ht hP (hS.F ht)) hS.2.2 dX7_act_139
  have hl := lv_entry ([.ref am, .int x1, .int x2, .int x3]) (n := 5) (Nat.le_of_ble_eq_true rfl)
  rw [lg_entry_eq]
  generalize (lg_sl ([.ref am, .int x1, .int x2, .int x3]) ++ List.replicate (5 - (lg_sl ([.ref am, .int x1, .int x2, .int x3])).length) Slot.unset).toArray = ls at hl ⊢
  have hl : lv_has ls 5 [(0, .ref am), (1, .int x1), (2, .int x2), (3, .int x3)] := hl
  have hf : ((fX7_isShelf n x1).bind fun r6 => if r6 = 0 then (some ((0 : Int32), (M_isHeld, M_taped, M_token, M_from, M_to, M_value, M_isWrong, M_rowN, (0 : Int32), M_actKind, M_actN, M_actA, M_isParted), u_bodies)) else ((fX7_isIn n x2.toInt64 (0 : Int64) (3 : Int64)).bind fun r18 => if r18 = 0 then (some ((0 : Int32), (M_isHeld, M_taped, M_token, M_from, M_to, M_value, M_isWrong, M_rowN, (0 : Int32), M_actKind, M_actN, M_actA, M_isParted), u_bodies)) else ((fX7_heldOn n (M_isHeld, M_taped, M_token, M_from, M_to, M_value, M_isWrong, M_rowN, (0 : Int32), M_actKind, M_actN, M_actA, M_isParted) u_s u_holdsWhat u_holdsWhich x1).bind fun r26 => if r26 = (1 : Int32) then (if x1 < 0 ∨ 4 ≤ x1.toNatClampNeg then none else (fX7_its n (M_isHeld, M_taped, M_token, M_from, M_to, M_value, M_isWrong, M_rowN, (0 : Int32), M_actKind, M_actN, M_actA, (0 : Int32)) u_s (u_holdsWhich x1.toNatClampNeg) (0 : Int32)).bind fun r49 => if x1 < 0 ∨ 4 ≤ x1.toNatClampNeg then none else if x1 < 0 ∨ 4 ≤ x1.toNatClampNeg then none else (fX7_its n (M_isHeld, M_taped, M_token, M_from, M_to, M_value, M_isWrong, M_rowN, (0 : Int32), r49, (u_holdsWhich x1.toNatClampNeg), M_actA, (0 : Int32)) u_s (u_holdsWhich x1.toNatClampNeg) (1 : Int32)).bind fun r74 => if x2 = 0 then ((fX7_lifts n (M_isHeld, M_taped, M_token, M_from, M_to, M_value, M_isWrong, M_rowN, (0 : Int32), r49, (u_holdsWhich x1.toNatClampNeg), r74, (0 : Int32)) u_bodies x3).bind fun r86 => fX7_act_b123 n u_s u_holdsWhat u_holdsWhich x1 x2 x3  r86.2.1 r86.2.2 r86.1) else (if x2 = (1 : Int32) then ((fX7_cuts n (M_isHeld, M_taped, M_token, M_from, M_to, M_value, M_isWrong, M_rowN, (0 : Int32), r49, (u_holdsWhich x1.toNatClampNeg), r74, (0 : Int32)) u_bodies x3).bind fun r99 => fX7_act_b123 n u_s u_holdsWhat u_holdsWhich x1 x2 x3  r99.2.1 r99.2.2 r99.1) else (if x2 = (2 : Int32) then ((fX7_parts n (M_isHeld, M_taped, M_token, M_from, M_to, M_value, M_isWrong, M_rowN, (0 : Int32), r49, (u_holdsWhich x1.toNatClampNeg), r74, (0 : Int32)) u_bodies x3).bind fun r112 => fX7_act_b123 n u_s u_holdsWhat u_holdsWhich x1 x2 x3  r112.2.1 r112.2.2 r112.1) else ((fX7_tells n (M_isHeld, M_taped, M_token, M_from, M_to, M_value, M_isWrong, M_rowN, (0 : Int32), r49, (u_holdsWhich x1.toNatClampNeg), r74, (0 : Int32)) u_bodies x3).bind fun r120 => fX7_act_b123 n u_s u_holdsWhat u_holdsWhich x1 x2 x3  r120.2.1 r120.2.2 r120.1)))) else (some ((0 : Int32), (M_isHeld, M_taped, M_token, M_from, M_to, M_value, M_isWrong, M_rowN, (0 : Int32), M_actKind, M_actN, M_actA, M_isParted), u_bodies))))) = some z := hf
  refine lv_aload_n hx hb dX7_act_0 rfl (lv_at hl 0 rfl) ?_
  refine lv_iconst (v := (0 : Int32)) hx hb dX7_act_1 (by decide) ?_
  refine va_put (D := D) (ci := 7) (v := .int (0 : Int32)) (ty := .int) (C := RX7) (T := TX7) (N := 26) hx hb hts hin7 tyX7 tyX7_ok nmX7 hown hK hP hD hS 0 rfl rfl 21 (by decide) fl292 (fun _ h9 => h9) rfl (by decide +kernel) rfl rfl (Nat.le_of_ble_eq_true rfl) dX7_act_2 (fun H locs hP hD hS => ?_)
  have hP : va_P D vwCl [(am, .inr (7, [.ref am0, .ref am1, .ref am2, .ref am3, .int M_isHeld, .ref am4, .int M_taped, .int M_token, .int M_from, .int M_to, .int M_value, .int M_isWrong, .ref am5, .int M_rowN, .ref am6, .ref am7, .ref am8, .ref am9, .ref am10, .ref am11, .ref am12, .int (0 : Int32), .int M_actKind, .int M_actN, .int M_actA, .int M_isParted])), (am0, .inl (cy 0, 48, .inl u_s)), (am9, .inl (cy 0, 4, .inl u_holdsWhat)), (am10, .inl (cy 0, 4, .inl u_holdsWhich)), (am12, .inl (cy 0, 30, .inl u_bodies))] H := hP
  have hD : va_D A [(am, .inr (7, [.ref am0, .ref am1, .ref am2, .ref am3, .int M_isHeld, .ref am4, .int M_taped, .int M_token, .int M_from, .int M_to, .int M_value, .int M_isWrong, .ref am5, .int M_rowN, .ref am6, .ref am7, .ref am8, .ref am9, .ref am10, .ref am11, .ref am12, .int (0 : Int32), .int M_actKind, .int M_actN, .int M_actA, .int M_isParted])), (am0, .inl (cy 0, 48, .inl u_s)), (am9, .inl (cy 0, 4, .inl u_holdsWhat)), (am10, .inl (cy 0, 4, .inl u_holdsWhich)), (am12, .inl (cy 0, 30, .inl u_bodies))] := hD
  refine lv_iload_n hx hb dX7_act_5 rfl (lv_at hl 1 rfl) ?_
  obtain ⟨r6, hc6, hf⟩ := zb hf
  refine zsr (o := some (.int r6)) (As := [.int x1]) (rest := []) (stk := [.int r6]) ⟨hx, hb, hml, hown, hts⟩ (mX7_isShelf l D cy st sk sv B  n x1 r6 hc6) (va_cwS 1 hts gX7_act_X7_isShelf rfl rfl rfl (by decide +kernel) ⟨Nat.le_of_ble_eq_true rfl, Nat.le_of_ble_eq_true rfl⟩) hG hS hAB hP [] rfl rfl hl.1 rfl (Nat.le_of_ble_eq_true rfl) dX7_act_6 rfl ?_
  refine lv_if_eq (tgt := 33) hx hb dX7_act_9 (by decide) (fun c_9 => ?_) (fun c_9 => ?_)
  · have hf := zp hf c_9
    refine lv_iconst (v := (0 : Int32)) hx hb dX7_act_33 (by decide) ?_
    exact W.iret hx hb hr (fun t ht hW => hfin (0 : Int32) M_isHeld M_taped M_token M_from M_to M_value M_isWrong M_rowN (0 : Int32) M_actKind M_actN M_actA M_isParted u_bodies hf _ t ht hP (hS.F ht)) hS.2.2 dX7_act_34
  · have hf := zn hf c_9
    refine lv_iload_n hx hb dX7_act_12 rfl (lv_at hl 2 rfl) ?_
    refine lv_i2l hx hb dX7_act_13 rfl ?_
    refine lv_lconst (v := (0 : Int64)) hx hb dX7_act_14 (by decide) ?_
    refine lv_ldc2 (v := (3 : Int64)) hx hb hown (hts (.constantLong RX7 143 (3)) (by decide +kernel)) dX7_act_15 ?_
    obtain ⟨r18, hc18, hf⟩ := zb hf
    refine zsr (o := some (.int r18)) (As := [.long x2.toInt64, .long (0 : Int64), .long (3 : Int64)]) (rest := []) (stk := [.int r18]) ⟨hx, hb, hml, hown, hts⟩ (mX7_isIn l D cy st sk sv B  n x2.toInt64 (0 : Int64) (3 : Int64) r18 hc18) (va_cwS 3 hts gX7_act_X7_isIn rfl rfl rfl (by decide +kernel) ⟨Nat.le_of_ble_eq_true rfl, Nat.le_of_ble_eq_true rfl⟩) hG hS hAB hP [] rfl rfl hl.1 rfl (Nat.le_of_ble_eq_true rfl) dX7_act_18 rfl ?_
    refine lv_if_eq (tgt := 33) hx hb dX7_act_21 (by decide) (fun c_21 => ?_) (fun c_21 => ?_)
    · have hf := zp hf c_21
      refine lv_iconst (v := (0 : Int32)) hx hb dX7_act_33 (by decide) ?_
      exact W.iret hx hb hr (fun t ht hW => hfin (0 : Int32) M_isHeld M_taped M_token M_from M_to M_value M_isWrong M_rowN (0 : Int32) M_actKind M_actN M_actA M_isParted u_bodies hf _ t ht hP (hS.F ht)) hS.2.2 dX7_act_34
    · have hf := zn hf c_21
      refine lv_aload_n hx hb dX7_act_24 rfl (lv_at hl 0 rfl) ?_
      refine lv_iload_n hx hb dX7_act_25 rfl (lv_at hl 1 rfl) ?_
      obtain ⟨r26, hc26, hf⟩ := zb hf
      refine zvr (o := some (.int r26)) (As := [.int x1]) (rest := []) (stk := [.int r26]) ⟨hx, hb, hml, hown, hts⟩ (mX7_heldOn l D cy st sk sv B am am0 am1 am2 am3 am4 am5 am6 am7 am8 am9 am10 am11 am12 n M_isHeld M_taped M_token M_from M_to M_value M_isWrong M_rowN (0 : Int32) M_actKind M_actN M_actA M_isParted u_s u_holdsWhat u_holdsWhich x1 r26 hc26) (cwV 1 hts gX7_act_X7_heldOn rfl rfl rfl (by decide +kernel) ⟨Nat.le_of_ble_eq_true rfl, Nat.le_of_ble_eq_true rfl⟩) hG hS hAB hP [0, 1, 2, 3] rfl 0 7 rfl rfl rfl rfl hl.1 rfl (Nat.le_of_ble_eq_true rfl) dX7_act_26 rfl ?_
      refine lv_iconst (v := (1 : Int32)) hx hb dX7_act_29 (by decide) ?_
      refine lv_icmp_eq (tgt := 35) hx hb dX7_act_30 (by decide) (fun c_30 => ?_) (fun c_30 => ?_)
      · have hf := zp hf c_30
        refine lv_aload_n hx hb dX7_act_35 rfl (lv_at hl 0 rfl) ?_
        refine lv_iconst (v := (0 : Int32)) hx hb dX7_act_36 (by decide) ?_
        refine va_put (D := D) (ci := 7) (v := .int (0 : Int32)) (ty := .boolean) (C := RX7) (T := TX7) (N := 26) hx hb hts hin7 tyX7 tyX7_ok nmX7 hown hK hP hD hS 0 rfl rfl 25 (by decide) fl319 (fun _ h9 => h9) rfl (by decide +kernel) rfl rfl (Nat.le_of_ble_eq_true rfl) dX7_act_37 (fun H locs hP hD hS => ?_)
        have hP : va_P D vwCl [(am, .inr (7, [.ref am0, .ref am1, .ref am2, .ref am3, .int M_isHeld, .ref am4, .int M_taped, .int M_token, .int M_from, .int M_to, .int M_value, .int M_isWrong, .ref am5, .int M_rowN, .ref am6, .ref am7, .ref am8, .ref am9, .ref am10, .ref am11, .ref am12, .int (0 : Int32), .int M_actKind, .int M_actN, .int M_actA, .int (0 : Int32)])), (am0, .inl (cy 0, 48, .inl u_s)), (am9, .inl (cy 0, 4, .inl u_holdsWhat)), (am10, .inl (cy 0, 4, .inl u_holdsWhich)), (am12, .inl (cy 0, 30, .inl u_bodies))] H := hP
        have hD : va_D A [(am, .inr (7, [.ref am0, .ref am1, .ref am2, .ref am3, .int M_isHeld, .ref am4, .int M_taped, .int M_token, .int M_from, .int M_to, .int M_value, .int M_isWrong, .ref am5, .int M_rowN, .ref am6, .ref am7, .ref am8, .ref am9, .ref am10, .ref am11, .ref am12, .int (0 : Int32), .int M_actKind, .int M_actN, .int M_actA, .int (0 : Int32)])), (am0, .inl (cy 0, 48, .inl u_s)), (am9, .inl (cy 0, 4, .inl u_holdsWhat)), (am10, .inl (cy 0, 4, .inl u_holdsWhich)), (am12, .inl (cy 0, 30, .inl u_bodies))] := hD
        refine lv_aload_n hx hb dX7_act_40 rfl (lv_at hl 0 rfl) ?_
        refine lv_aload_n hx hb dX7_act_41 rfl (lv_at hl 0 rfl) ?_
        refine lv_aload_n hx hb dX7_act_42 rfl (lv_at hl 0 rfl) ?_
        refine va_get (D := D) (ci := 7) (v := .ref am10) (C := RX7) (T := TX7) (N := 26) hx hb hts hin7 hown hK hP 0 rfl rfl 18 (by decide) fl40 (fun _ h9 => h9) rfl dX7_act_43 ?_
        refine lv_iload_n hx hb dX7_act_46 rfl (lv_at hl 1 rfl) ?_
        obtain ⟨h_47, hf⟩ := zg hf
        refine va_iald hx hb hK hP 3 0 rfl rfl h_47 dX7_act_47 ?_
        refine lv_iconst (v := (0 : Int32)) hx hb dX7_act_48 (by decide) ?_
        obtain ⟨r49, hc49, hf⟩ := zb hf
        refine zvr (o := some (.int r49)) (As := [.int (u_holdsWhich x1.toNatClampNeg), .int (0 : Int32)]) (rest := [.ref am]) (stk := [.int r49, .ref am]) ⟨hx, hb, hml, hown, hts⟩ (mX7_its l D cy st sk sv B am am0 am1 am2 am3 am4 am5 am6 am7 am8 am9 am10 am11 am12 n M_isHeld M_taped M_token M_from M_to M_value M_isWrong M_rowN (0 : Int32) M_actKind M_actN M_actA (0 : Int32) u_s (u_holdsWhich x1.toNatClampNeg) (0 : Int32) r49 hc49) (cwV 2 hts gX7_act_X7_its rfl rfl rfl (by decide +kernel) ⟨Nat.le_of_ble_eq_true rfl, Nat.le_of_ble_eq_true rfl⟩) hG hS hAB hP [0, 1] rfl 0 7 rfl rfl rfl rfl hl.1 rfl (Nat.le_of_ble_eq_true rfl) dX7_act_49 rfl ?_
        refine va_put (D := D) (ci := 7) (v := .int r49) (ty := .int) (C := RX7) (T := TX7) (N := 26) hx hb hts hin7 tyX7 tyX7_ok nmX7 hown hK hP hD hS 0 rfl rfl 22 (by decide) fl304 (fun _ h9 => h9) rfl (by decide +kernel) rfl rfl (Nat.le_of_ble_eq_true rfl) dX7_act_52 (fun H locs hP hD hS => ?_)
        have hP : va_P D vwCl [(am, .inr (7, [.ref am0, .ref am1, .ref am2, .ref am3, .int M_isHeld, .ref am4, .int M_taped, .int M_token, .int M_from, .int M_to, .int M_value, .int M_isWrong, .ref am5, .int M_rowN, .ref am6, .ref am7, .ref am8, .ref am9, .ref am10, .ref am11, .ref am12, .int (0 : Int32), .int r49, .int M_actN, .int M_actA, .int (0 : Int32)])), (am0, .inl (cy 0, 48, .inl u_s)), (am9, .inl (cy 0, 4, .inl u_holdsWhat)), (am10, .inl (cy 0, 4, .inl u_holdsWhich)), (am12, .inl (cy 0, 30, .inl u_bodies))] H := hP
        have hD : va_D A [(am, .inr (7, [.ref am0, .ref am1, .ref am2, .ref am3, .int M_isHeld, .ref am4, .int M_taped, .int M_token, .int M_from, .int M_to, .int M_value, .int M_isWrong, .ref am5, .int M_rowN, .ref am6, .ref am7, .ref am8, .ref am9, .ref am10, .ref am11, .ref am12, .int (0 : Int32), .int r49, .int M_actN, .int M_actA, .int (0 : Int32)])), (am0, .inl (cy 0, 48, .inl u_s)), (am9, .inl (cy 0, 4, .inl u_holdsWhat)), (am10, .inl (cy 0, 4, .inl u_holdsWhich)), (am12, .inl (cy 0, 30, .inl u_bodies))] := hD
        refine lv_aload_n hx hb dX7_act_55 rfl (lv_at hl 0 rfl) ?_
        refine lv_aload_n hx hb dX7_act_56 rfl (lv_at hl 0 rfl) ?_
        refine va_get (D := D) (ci := 7) (v := .ref am10) (C := RX7) (T := TX7) (N := 26) hx hb hts hin7 hown hK hP 0 rfl rfl 18 (by decide) fl40 (fun _ h9 => h9) rfl dX7_act_57 ?_
        refine lv_iload_n hx hb dX7_act_60 rfl (lv_at hl 1 rfl) ?_
        obtain ⟨h_61, hf⟩ := zg hf
        refine va_iald hx hb hK hP 3 0 rfl rfl h_61 dX7_act_61 ?_
        refine va_put (D := D) (ci := 7) (v := .int (u_holdsWhich x1.toNatClampNeg)) (ty := .int) (C := RX7) (T := TX7) (N := 26) hx hb hts hin7 tyX7 tyX7_ok nmX7 hown hK hP hD hS 0 rfl rfl 23 (by decide) fl298 (fun _ h9 => h9) rfl (by decide +kernel) rfl rfl (Nat.le_of_ble_eq_true rfl) dX7_act_62 (fun H locs hP hD hS => ?_)
        have hP : va_P D vwCl [(am, .inr (7, [.ref am0, .ref am1, .ref am2, .ref am3, .int M_isHeld, .ref am4, .int M_taped, .int M_token, .int M_from, .int M_to, .int M_value, .int M_isWrong, .ref am5, .int M_rowN, .ref am6, .ref am7, .ref am8, .ref am9, .ref am10, .ref am11, .ref am12, .int (0 : Int32), .int r49, .int (u_holdsWhich x1.toNatClampNeg), .int M_actA, .int (0 : Int32)])), (am0, .inl (cy 0, 48, .inl u_s)), (am9, .inl (cy 0, 4, .inl u_holdsWhat)), (am10, .inl (cy 0, 4, .inl u_holdsWhich)), (am12, .inl (cy 0, 30, .inl u_bodies))] H := hP
        have hD : va_D A [(am, .inr (7, [.ref am0, .ref am1, .ref am2, .ref am3, .int M_isHeld, .ref am4, .int M_taped, .int M_token, .int M_from, .int M_to, .int M_value, .int M_isWrong, .ref am5, .int M_rowN, .ref am6, .ref am7, .ref am8, .ref am9, .ref am10, .ref am11, .ref am12, .int (0 : Int32), .int r49, .int (u_holdsWhich x1.toNatClampNeg), .int M_actA, .int (0 : Int32)])), (am0, .inl (cy 0, 48, .inl u_s)), (am9, .inl (cy 0, 4, .inl u_holdsWhat)), (am10, .inl (cy 0, 4, .inl u_holdsWhich)), (am12, .inl (cy 0, 30, .inl u_bodies))] := hD
        refine lv_aload_n hx hb dX7_act_65 rfl (lv_at hl 0 rfl) ?_
        refine lv_aload_n hx hb dX7_act_66 rfl (lv_at hl 0 rfl) ?_
        refine lv_aload_n hx hb dX7_act_67 rfl (lv_at hl 0 rfl) ?_
        refine va_get (D := D) (ci := 7) (v := .ref am10) (C := RX7) (T := TX7) (N := 26) hx hb hts hin7 hown hK hP 0 rfl rfl 18 (by decide) fl40 (fun _ h9 => h9) rfl dX7_act_68 ?_
        refine lv_iload_n hx hb dX7_act_71 rfl (lv_at hl 1 rfl) ?_
        obtain ⟨h_72, hf⟩ := zg hf
        refine va_iald hx hb hK hP 3 0 rfl rfl h_72 dX7_act_72 ?_
        refine lv_iconst (v := (1 : Int32)) hx hb dX7_act_73 (by decide) ?_
        obtain ⟨r74, hc74, hf⟩ := zb hf
        refine zvr (o := some (.int r74)) (As := [.int (u_holdsWhich x1.toNatClampNeg), .int (1 : Int32)]) (rest := [.ref am]) (stk := [.int r74, .ref am]) ⟨hx, hb, hml, hown, hts⟩ (mX7_its l D cy st sk sv B am am0 am1 am2 am3 am4 am5 am6 am7 am8 am9 am10 am11 am12 n M_isHeld M_taped M_token M_from M_to M_value M_isWrong M_rowN (0 : Int32) r49 (u_holdsWhich x1.toNatClampNeg) M_actA (0 : Int32) u_s (u_holdsWhich x1.toNatClampNeg) (1 : Int32) r74 hc74) (cwV 2 hts gX7_act_X7_its rfl rfl rfl (by decide +kernel) ⟨Nat.le_of_ble_eq_true rfl, Nat.le_of_ble_eq_true rfl⟩) hG hS hAB hP [0, 1] rfl 0 7 rfl rfl rfl rfl hl.1 rfl (Nat.le_of_ble_eq_true rfl) dX7_act_74 rfl ?_
        refine va_put (D := D) (ci := 7) (v := .int r74) (ty := .int) (C := RX7) (T := TX7) (N := 26) hx hb hts hin7 tyX7 tyX7_ok nmX7 hown hK hP hD hS 0 rfl rfl 24 (by decide) fl310 (fun _ h9 => h9) rfl (by decide +kernel) rfl rfl (Nat.le_of_ble_eq_true rfl) dX7_act_77 (fun H locs hP hD hS => ?_)
        have hP : va_P D vwCl [(am, .inr (7, [.ref am0, .ref am1, .ref am2, .ref am3, .int M_isHeld, .ref am4, .int M_taped, .int M_token, .int M_from, .int M_to, .int M_value, .int M_isWrong, .ref am5, .int M_rowN, .ref am6, .ref am7, .ref am8, .ref am9, .ref am10, .ref am11, .ref am12, .int (0 : Int32), .int r49, .int (u_holdsWhich x1.toNatClampNeg), .int r74, .int (0 : Int32)])), (am0, .inl (cy 0, 48, .inl u_s)), (am9, .inl (cy 0, 4, .inl u_holdsWhat)), (am10, .inl (cy 0, 4, .inl u_holdsWhich)), (am12, .inl (cy 0, 30, .inl u_bodies))] H := hP
        have hD : va_D A [(am, .inr (7, [.ref am0, .ref am1, .ref am2, .ref am3, .int M_isHeld, .ref am4, .int M_taped, .int M_token, .int M_from, .int M_to, .int M_value, .int M_isWrong, .ref am5, .int M_rowN, .ref am6, .ref am7, .ref am8, .ref am9, .ref am10, .ref am11, .ref am12, .int (0 : Int32), .int r49, .int (u_holdsWhich x1.toNatClampNeg), .int r74, .int (0 : Int32)])), (am0, .inl (cy 0, 48, .inl u_s)), (am9, .inl (cy 0, 4, .inl u_holdsWhat)), (am10, .inl (cy 0, 4, .inl u_holdsWhich)), (am12, .inl (cy 0, 30, .inl u_bodies))] := hD
        refine lv_iload_n hx hb dX7_act_80 rfl (lv_at hl 2 rfl) ?_
        refine lv_if_ne (tgt := 92) hx hb dX7_act_81 (by decide) (fun c_81 => ?_) (fun c_81 => ?_)
        · have hf := zn hf c_81
          refine lv_iload_n hx hb dX7_act_92 rfl (lv_at hl 2 rfl) ?_
          refine lv_iconst (v := (1 : Int32)) hx hb dX7_act_93 (by decide) ?_
          refine lv_icmp_ne (tgt := 105) hx hb dX7_act_94 (by decide) (fun c_94 => ?_) (fun c_94 => ?_)
          · have hf := zn hf c_94
            refine lv_iload_n hx hb dX7_act_105 rfl (lv_at hl 2 rfl) ?_
            refine lv_iconst (v := (2 : Int32)) hx hb dX7_act_106 (by decide) ?_
            refine lv_icmp_ne (tgt := 118) hx hb dX7_act_107 (by decide) (fun c_107 => ?_) (fun c_107 => ?_)
            · have hf := zn hf c_107
              refine lv_aload_n hx hb dX7_act_118 rfl (lv_at hl 0 rfl) ?_
              refine lv_iload_n hx hb dX7_act_119 rfl (lv_at hl 3 rfl) ?_
              obtain ⟨r120, hc120, hf⟩ := zb hf
              refine zvw (o := some (.int r120.1)) (As := [.int x3]) (rest := []) (stk := [.int r120.1]) ⟨hx, hb, hml, hown, hts⟩ (mX7_tells l D cy st sk sv B am am0 am1 am2 am3 am4 am5 am6 am7 am8 am9 am10 am11 am12 _ n M_isHeld M_taped M_token M_from M_to M_value M_isWrong M_rowN (0 : Int32) r49 (u_holdsWhich x1.toNatClampNeg) r74 (0 : Int32) u_bodies x3 r120 hc120) (cwV 1 hts gX7_act_X7_tells rfl rfl rfl (by decide +kernel) ⟨Nat.le_of_ble_eq_true rfl, Nat.le_of_ble_eq_true rfl⟩) hG hS hAB hA hP hD [0, 4] (by decide) rfl rfl rfl rfl 0 7 rfl rfl rfl rfl hl.1 rfl (Nat.le_of_ble_eq_true rfl) dX7_act_120 rfl (fun H locs hP hD hS => ?_)
              have hP : va_P D vwCl [(am, .inr (7, [.ref am0, .ref am1, .ref am2, .ref am3, .int r120.2.1.1, .ref am4, .int r120.2.1.2.1, .int r120.2.1.2.2.1, .int r120.2.1.2.2.2.1, .int r120.2.1.2.2.2.2.1, .int r120.2.1.2.2.2.2.2.1, .int r120.2.1.2.2.2.2.2.2.1, .ref am5, .int r120.2.1.2.2.2.2.2.2.2.1, .ref am6, .ref am7, .ref am8, .ref am9, .ref am10, .ref am11, .ref am12, .int r120.2.1.2.2.2.2.2.2.2.2.1, .int r120.2.1.2.2.2.2.2.2.2.2.2.1, .int r120.2.1.2.2.2.2.2.2.2.2.2.2.1, .int r120.2.1.2.2.2.2.2.2.2.2.2.2.2.1, .int r120.2.1.2.2.2.2.2.2.2.2.2.2.2.2])), (am0, .inl (cy 0, 48, .inl u_s)), (am9, .inl (cy 0, 4, .inl u_holdsWhat)), (am10, .inl (cy 0, 4, .inl u_holdsWhich)), (am12, .inl (cy 0, 30, .inl r120.2.2))] H := hP
              have hD : va_D A [(am, .inr (7, [.ref am0, .ref am1, .ref am2, .ref am3, .int r120.2.1.1, .ref am4, .int r120.2.1.2.1, .int r120.2.1.2.2.1, .int r120.2.1.2.2.2.1, .int r120.2.1.2.2.2.2.1, .int r120.2.1.2.2.2.2.2.1, .int r120.2.1.2.2.2.2.2.2.1, .ref am5, .int r120.2.1.2.2.2.2.2.2.2.1, .ref am6, .ref am7, .ref am8, .ref am9, .ref am10, .ref am11, .ref am12, .int r120.2.1.2.2.2.2.2.2.2.2.1, .int r120.2.1.2.2.2.2.2.2.2.2.2.1, .int r120.2.1.2.2.2.2.2.2.2.2.2.2.1, .int r120.2.1.2.2.2.2.2.2.2.2.2.2.2.1, .int r120.2.1.2.2.2.2.2.2.2.2.2.2.2.2])), (am0, .inl (cy 0, 48, .inl u_s)), (am9, .inl (cy 0, 4, .inl u_holdsWhat)), (am10, .inl (cy 0, 4, .inl u_holdsWhich)), (am12, .inl (cy 0, 30, .inl r120.2.2))] := hD
              exact hB123 r120.2.1.1 r120.2.1.2.1 r120.2.1.2.2.1 r120.2.1.2.2.2.1 r120.2.1.2.2.2.2.1 r120.2.1.2.2.2.2.2.1 r120.2.1.2.2.2.2.2.2.1 r120.2.1.2.2.2.2.2.2.2.1 r120.2.1.2.2.2.2.2.2.2.2.1 r120.2.1.2.2.2.2.2.2.2.2.2.1 r120.2.1.2.2.2.2.2.2.2.2.2.2.1 r120.2.1.2.2.2.2.2.2.2.2.2.2.2.1 r120.2.1.2.2.2.2.2.2.2.2.2.2.2.2 r120.2.2 r120.1 hf _ _ hP hD hS _ (lv_sub hl [0, 1, 2, 3] rfl)
            · have hf := zp hf c_107
              refine lv_aload_n hx hb dX7_act_110 rfl (lv_at hl 0 rfl) ?_
              refine lv_iload_n hx hb dX7_act_111 rfl (lv_at hl 3 rfl) ?_
              obtain ⟨r112, hc112, hf⟩ := zb hf
              refine zvw (o := some (.int r112.1)) (As := [.int x3]) (rest := []) (stk := [.int r112.1]) ⟨hx, hb, hml, hown, hts⟩ (mX7_parts l D cy st sk sv B am am0 am1 am2 am3 am4 am5 am6 am7 am8 am9 am10 am11 am12 _ n M_isHeld M_taped M_token M_from M_to M_value M_isWrong M_rowN (0 : Int32) r49 (u_holdsWhich x1.toNatClampNeg) r74 (0 : Int32) u_bodies x3 r112 hc112) (cwV 1 hts gX7_act_X7_parts rfl rfl rfl (by decide +kernel) ⟨Nat.le_of_ble_eq_true rfl, Nat.le_of_ble_eq_true rfl⟩) hG hS hAB hA hP hD [0, 4] (by decide) rfl rfl rfl rfl 0 7 rfl rfl rfl rfl hl.1 rfl (Nat.le_of_ble_eq_true rfl) dX7_act_112 rfl (fun H locs hP hD hS => ?_)
              have hP : va_P D vwCl [(am, .inr (7, [.ref am0, .ref am1, .ref am2, .ref am3, .int r112.2.1.1, .ref am4, .int r112.2.1.2.1, .int r112.2.1.2.2.1, .int r112.2.1.2.2.2.1, .int r112.2.1.2.2.2.2.1, .int r112.2.1.2.2.2.2.2.1, .int r112.2.1.2.2.2.2.2.2.1, .ref am5, .int r112.2.1.2.2.2.2.2.2.2.1, .ref am6, .ref am7, .ref am8, .ref am9, .ref am10, .ref am11, .ref am12, .int r112.2.1.2.2.2.2.2.2.2.2.1, .int r112.2.1.2.2.2.2.2.2.2.2.2.1, .int r112.2.1.2.2.2.2.2.2.2.2.2.2.1, .int r112.2.1.2.2.2.2.2.2.2.2.2.2.2.1, .int r112.2.1.2.2.2.2.2.2.2.2.2.2.2.2])), (am0, .inl (cy 0, 48, .inl u_s)), (am9, .inl (cy 0, 4, .inl u_holdsWhat)), (am10, .inl (cy 0, 4, .inl u_holdsWhich)), (am12, .inl (cy 0, 30, .inl r112.2.2))] H := hP
              have hD : va_D A [(am, .inr (7, [.ref am0, .ref am1, .ref am2, .ref am3, .int r112.2.1.1, .ref am4, .int r112.2.1.2.1, .int r112.2.1.2.2.1, .int r112.2.1.2.2.2.1, .int r112.2.1.2.2.2.2.1, .int r112.2.1.2.2.2.2.2.1, .int r112.2.1.2.2.2.2.2.2.1, .ref am5, .int r112.2.1.2.2.2.2.2.2.2.1, .ref am6, .ref am7, .ref am8, .ref am9, .ref am10, .ref am11, .ref am12, .int r112.2.1.2.2.2.2.2.2.2.2.1, .int r112.2.1.2.2.2.2.2.2.2.2.2.1, .int r112.2.1.2.2.2.2.2.2.2.2.2.2.1, .int r112.2.1.2.2.2.2.2.2.2.2.2.2.2.1, .int r112.2.1.2.2.2.2.2.2.2.2.2.2.2.2])), (am0, .inl (cy 0, 48, .inl u_s)), (am9, .inl (cy 0, 4, .inl u_holdsWhat)), (am10, .inl (cy 0, 4, .inl u_holdsWhich)), (am12, .inl (cy 0, 30, .inl r112.2.2))] := hD
              refine lv_goto (tgt := 123) hx hb dX7_act_115 (by decide) ?_
              exact hB123 r112.2.1.1 r112.2.1.2.1 r112.2.1.2.2.1 r112.2.1.2.2.2.1 r112.2.1.2.2.2.2.1 r112.2.1.2.2.2.2.2.1 r112.2.1.2.2.2.2.2.2.1 r112.2.1.2.2.2.2.2.2.2.1 r112.2.1.2.2.2.2.2.2.2.2.1 r112.2.1.2.2.2.2.2.2.2.2.2.1 r112.2.1.2.2.2.2.2.2.2.2.2.2.1 r112.2.1.2.2.2.2.2.2.2.2.2.2.2.1 r112.2.1.2.2.2.2.2.2.2.2.2.2.2.2 r112.2.2 r112.1 hf _ _ hP hD hS _ (lv_sub hl [0, 1, 2, 3] rfl)
          · have hf := zp hf c_94
            refine lv_aload_n hx hb dX7_act_97 rfl (lv_at hl 0 rfl) ?_
            refine lv_iload_n hx hb dX7_act_98 rfl (lv_at hl 3 rfl) ?_
            obtain ⟨r99, hc99, hf⟩ := zb hf
            refine zvw (o := some (.int r99.1)) (As := [.int x3]) (rest := []) (stk := [.int r99.1]) ⟨hx, hb, hml, hown, hts⟩ (mX7_cuts l D cy st sk sv B am am0 am1 am2 am3 am4 am5 am6 am7 am8 am9 am10 am11 am12 _ n M_isHeld M_taped M_token M_from M_to M_value M_isWrong M_rowN (0 : Int32) r49 (u_holdsWhich x1.toNatClampNeg) r74 (0 : Int32) u_bodies x3 r99 hc99) (cwV 1 hts gX7_act_X7_cuts rfl rfl rfl (by decide +kernel) ⟨Nat.le_of_ble_eq_true rfl, Nat.le_of_ble_eq_true rfl⟩) hG hS hAB hA hP hD [0, 4] (by decide) rfl rfl rfl rfl 0 7 rfl rfl rfl rfl hl.1 rfl (Nat.le_of_ble_eq_true rfl) dX7_act_99 rfl (fun H locs hP hD hS => ?_)
            have hP : va_P D vwCl [(am, .inr (7, [.ref am0, .ref am1, .ref am2, .ref am3, .int r99.2.1.1, .ref am4, .int r99.2.1.2.1, .int r99.2.1.2.2.1, .int r99.2.1.2.2.2.1, .int r99.2.1.2.2.2.2.1, .int r99.2.1.2.2.2.2.2.1, .int r99.2.1.2.2.2.2.2.2.1, .ref am5, .int r99.2.1.2.2.2.2.2.2.2.1, .ref am6, .ref am7, .ref am8, .ref am9, .ref am10, .ref am11, .ref am12, .int r99.2.1.2.2.2.2.2.2.2.2.1, .int r99.2.1.2.2.2.2.2.2.2.2.2.1, .int r99.2.1.2.2.2.2.2.2.2.2.2.2.1, .int r99.2.1.2.2.2.2.2.2.2.2.2.2.2.1, .int r99.2.1.2.2.2.2.2.2.2.2.2.2.2.2])), (am0, .inl (cy 0, 48, .inl u_s)), (am9, .inl (cy 0, 4, .inl u_holdsWhat)), (am10, .inl (cy 0, 4, .inl u_holdsWhich)), (am12, .inl (cy 0, 30, .inl r99.2.2))] H := hP
            have hD : va_D A [(am, .inr (7, [.ref am0, .ref am1, .ref am2, .ref am3, .int r99.2.1.1, .ref am4, .int r99.2.1.2.1, .int r99.2.1.2.2.1, .int r99.2.1.2.2.2.1, .int r99.2.1.2.2.2.2.1, .int r99.2.1.2.2.2.2.2.1, .int r99.2.1.2.2.2.2.2.2.1, .ref am5, .int r99.2.1.2.2.2.2.2.2.2.1, .ref am6, .ref am7, .ref am8, .ref am9, .ref am10, .ref am11, .ref am12, .int r99.2.1.2.2.2.2.2.2.2.2.1, .int r99.2.1.2.2.2.2.2.2.2.2.2.1, .int r99.2.1.2.2.2.2.2.2.2.2.2.2.1, .int r99.2.1.2.2.2.2.2.2.2.2.2.2.2.1, .int r99.2.1.2.2.2.2.2.2.2.2.2.2.2.2])), (am0, .inl (cy 0, 48, .inl u_s)), (am9, .inl (cy 0, 4, .inl u_holdsWhat)), (am10, .inl (cy 0, 4, .inl u_holdsWhich)), (am12, .inl (cy 0, 30, .inl r99.2.2))] := hD
            refine lv_goto (tgt := 123) hx hb dX7_act_102 (by decide) ?_
            exact hB123 r99.2.1.1 r99.2.1.2.1 r99.2.1.2.2.1 r99.2.1.2.2.2.1 r99.2.1.2.2.2.2.1 r99.2.1.2.2.2.2.2.1 r99.2.1.2.2.2.2.2.2.1 r99.2.1.2.2.2.2.2.2.2.1 r99.2.1.2.2.2.2.2.2.2.2.1 r99.2.1.2.2.2.2.2.2.2.2.2.1 r99.2.1.2.2.2.2.2.2.2.2.2.2.1 r99.2.1.2.2.2.2.2.2.2.2.2.2.2.1 r99.2.1.2.2.2.2.2.2.2.2.2.2.2.2 r99.2.2 r99.1 hf _ _ hP hD hS _ (lv_sub hl [0, 1, 2, 3] rfl)
        · have hf := zp hf c_81
          refine lv_aload_n hx hb dX7_act_84 rfl (lv_at hl 0 rfl) ?_
          refine lv_iload_n hx hb dX7_act_85 rfl (lv_at hl 3 rfl) ?_
          obtain ⟨r86, hc86, hf⟩ := zb hf
          refine zvw (o := some (.int r86.1)) (As := [.int x3]) (rest := []) (stk := [.int r86.1]) ⟨hx, hb, hml, hown, hts⟩ (mX7_lifts l D cy st sk sv B am am0 am1 am2 am3 am4 am5 am6 am7 am8 am9 am10 am11 am12 _ n M_isHeld M_taped M_token M_from M_to M_value M_isWrong M_rowN (0 : Int32) r49 (u_holdsWhich x1.toNatClampNeg) r74 (0 : Int32) u_bodies x3 r86 hc86) (cwV 1 hts gX7_act_X7_lifts rfl rfl rfl (by decide +kernel) ⟨Nat.le_of_ble_eq_true rfl, Nat.le_of_ble_eq_true rfl⟩) hG hS hAB hA hP hD [0, 4] (by decide) rfl rfl rfl rfl 0 7 rfl rfl rfl rfl hl.1 rfl (Nat.le_of_ble_eq_true rfl) dX7_act_86 rfl (fun H locs hP hD hS => ?_)
          have hP : va_P D vwCl [(am, .inr (7, [.ref am0, .ref am1, .ref am2, .ref am3, .int r86.2.1.1, .ref am4, .int r86.2.1.2.1, .int r86.2.1.2.2.1, .int r86.2.1.2.2.2.1, .int r86.2.1.2.2.2.2.1, .int r86.2.1.2.2.2.2.2.1, .int r86.2.1.2.2.2.2.2.2.1, .ref am5, .int r86.2.1.2.2.2.2.2.2.2.1, .ref am6, .ref am7, .ref am8, .ref am9, .ref am10, .ref am11, .ref am12, .int r86.2.1.2.2.2.2.2.2.2.2.1, .int r86.2.1.2.2.2.2.2.2.2.2.2.1, .int r86.2.1.2.2.2.2.2.2.2.2.2.2.1, .int r86.2.1.2.2.2.2.2.2.2.2.2.2.2.1, .int r86.2.1.2.2.2.2.2.2.2.2.2.2.2.2])), (am0, .inl (cy 0, 48, .inl u_s)), (am9, .inl (cy 0, 4, .inl u_holdsWhat)), (am10, .inl (cy 0, 4, .inl u_holdsWhich)), (am12, .inl (cy 0, 30, .inl r86.2.2))] H := hP
          have hD : va_D A [(am, .inr (7, [.ref am0, .ref am1, .ref am2, .ref am3, .int r86.2.1.1, .ref am4, .int r86.2.1.2.1, .int r86.2.1.2.2.1, .int r86.2.1.2.2.2.1, .int r86.2.1.2.2.2.2.1, .int r86.2.1.2.2.2.2.2.1, .int r86.2.1.2.2.2.2.2.2.1, .ref am5, .int r86.2.1.2.2.2.2.2.2.2.1, .ref am6, .ref am7, .ref am8, .ref am9, .ref am10, .ref am11, .ref am12, .int r86.2.1.2.2.2.2.2.2.2.2.1, .int r86.2.1.2.2.2.2.2.2.2.2.2.1, .int r86.2.1.2.2.2.2.2.2.2.2.2.2.1, .int r86.2.1.2.2.2.2.2.2.2.2.2.2.2.1, .int r86.2.1.2.2.2.2.2.2.2.2.2.2.2.2])), (am0, .inl (cy 0, 48, .inl u_s)), (am9, .inl (cy 0, 4, .inl u_holdsWhat)), (am10, .inl (cy 0, 4, .inl u_holdsWhich)), (am12, .inl (cy 0, 30, .inl r86.2.2))] := hD
          refine lv_goto (tgt := 123) hx hb dX7_act_89 (by decide) ?_
          exact hB123 r86.2.1.1 r86.2.1.2.1 r86.2.1.2.2.1 r86.2.1.2.2.2.1 r86.2.1.2.2.2.2.1 r86.2.1.2.2.2.2.2.1 r86.2.1.2.2.2.2.2.2.1 r86.2.1.2.2.2.2.2.2.2.1 r86.2.1.2.2.2.2.2.2.2.2.1 r86.2.1.2.2.2.2.2.2.2.2.2.1 r86.2.1.2.2.2.2.2.2.2.2.2.2.1 r86.2.1.2.2.2.2.2.2.2.2.2.2.2.1 r86.2.1.2.2.2.2.2.2.2.2.2.2.2.2 r86.2.2 r86.1 hf _ _ hP hD hS _ (lv_sub hl [0, 1, 2, 3] rfl)
      · have hf := zn hf c_30
        refine lv_iconst (v := (0 : Int32)) hx hb dX7_act_33 (by decide) ?_
        exact W.iret hx hb hr (fun t ht hW => hfin (0 : Int32) M_isHeld M_taped M_token M_from M_to M_value M_isWrong M_rowN (0 : Int32) M_actKind M_actN M_actA M_isParted u_bodies hf _ t ht hP (hS.F ht)) hS.2.2 dX7_act_34
set_option maxRecDepth 100000 in
set_option maxHeartbeats 100000000 in
theorem mX7_trace (l : Launch) (D : va_G) (cy : Nat → ClassId) (st sk sv : Nat → Nat) (B : Nat) (am : Nat) (am0 : Nat) (am1 : Nat) (am2 : Nat) (am3 : Nat) (am4 : Nat) (am5 : Nat) (am6 : Nat) (am7 : Nat) (am8 : Nat) (am9 : Nat) (am10 : Nat) (am11 : Nat) (am12 : Nat) (n : Nat) (M_isHeld : Int32) (M_taped : Int32) (M_token : Int32) (M_from : Int32) (M_to : Int32) (M_value : Int32) (M_isWrong : Int32) (M_rowN : Int32) (M_ran : Int32) (M_actKind : Int32) (M_actN : Int32) (M_actA : Int32) (M_isParted : Int32) (u_bodies : (Nat → Int32)) (x1 : Int32) (z : Int32) (hf : fX7_trace n (M_isHeld, M_taped, M_token, M_from, M_to, M_value, M_isWrong, M_rowN, M_ran, M_actKind, M_actN, M_actA, M_isParted) u_bodies x1 = some z) : Met l yX7_trace wsX7_trace ({ frames := 1, cells := 0, slots := 0, locals := 25 }) (PcR [.ref am, .int x1] D cy st sk sv B [(am, .inr (7, [.ref am0, .ref am1, .ref am2, .ref am3, .int M_isHeld, .ref am4, .int M_taped, .int M_token, .int M_from, .int M_to, .int M_value, .int M_isWrong, .ref am5, .int M_rowN, .ref am6, .ref am7, .ref am8, .ref am9, .ref am10, .ref am11, .ref am12, .int M_ran, .int M_actKind, .int M_actN, .int M_actA, .int M_isParted])), (am12, .inl (cy 0, 30, .inl u_bodies))]) (Qr (some (.int z))) 0 0 (fun _ => False) := by
  refine Met.ofW (cc := cX7_trace) (maxL := 2) (ret := (some .int)) (by decide) rfl ?_
  intro p e s m args below meth c s₁ Bd hml hv
  obtain ⟨rfl, hP, hG⟩ := hv
  have hx := Bd.exec
  have hb := Bd.bytes
  have hr := Bd.returns
  have hts := atoms_spec (ws := wsX7_trace) Bd.pre
  have hown : s.vm.findClass RX7 = some m.cls := findClass_of_methodNamed Bd.named
  have hlocks := Bd.notSynchronized
  have hK := hG.1
  have hS : va_S (fun q => B ≤ q) s.heap s.heap [] := va_S.rf
  have hAB : ∀ q, (fun q => B ≤ q) q → B ≤ q := fun _ h => h
  have hin7 : ∀ w ∈ u_ws RX7 TX7 26, w ∈ wsX7_trace := by decide +kernel
  have fl46 := hts (.fieldLink RX7 46 "KinCutleryModel" "bodies" "[I") (by decide +kernel)
  have fl292 := hts (.fieldLink RX7 292 "KinCutleryModel" "ran" "I") (by decide +kernel)
  have hl := lv_entry ([.ref am, .int x1]) (n := 2) (Nat.le_of_ble_eq_true rfl)
  rw [lg_entry_eq]
  generalize (lg_sl ([.ref am, .int x1]) ++ List.replicate (2 - (lg_sl ([.ref am, .int x1])).length) Slot.unset).toArray = ls at hl ⊢
  have hl : lv_has ls 2 [(0, .ref am), (1, .int x1)] := hl
  have hf : ((fX7_isIn n x1.toInt64 (0 : Int64) ((M_ran - (1 : Int32)).toInt64)).bind fun r10 => if r10 = 0 then (some (-3 : Int32)) else (if x1 < 0 ∨ 30 ≤ x1.toNatClampNeg then none else some (u_bodies x1.toNatClampNeg))) = some z := hf
  refine lv_iload_n hx hb dX7_trace_0 rfl (lv_at hl 1 rfl) ?_
  refine lv_i2l hx hb dX7_trace_1 rfl ?_
  refine lv_lconst (v := (0 : Int64)) hx hb dX7_trace_2 (by decide) ?_
  refine lv_aload_n hx hb dX7_trace_3 rfl (lv_at hl 0 rfl) ?_
  refine va_get (D := D) (ci := 7) (v := .int M_ran) (C := RX7) (T := TX7) (N := 26) hx hb hts hin7 hown hK hP 0 rfl rfl 21 (by decide) fl292 (fun _ h9 => h9) rfl dX7_trace_4 ?_
  refine lv_iconst (v := (1 : Int32)) hx hb dX7_trace_7 (by decide) ?_
  refine lv_isub hx hb dX7_trace_8 ?_
  refine lv_i2l hx hb dX7_trace_9 rfl ?_
  obtain ⟨r10, hc10, hf⟩ := zb hf
  refine zsr (o := some (.int r10)) (As := [.long x1.toInt64, .long (0 : Int64), .long (M_ran - (1 : Int32)).toInt64]) (rest := []) (stk := [.int r10]) ⟨hx, hb, hml, hown, hts⟩ (mX7_isIn l D cy st sk sv B  n x1.toInt64 (0 : Int64) ((M_ran - (1 : Int32)).toInt64) r10 hc10) (va_cwS 3 hts gX7_trace_X7_isIn rfl rfl rfl (by decide +kernel) ⟨Nat.le_of_ble_eq_true rfl, Nat.le_of_ble_eq_true rfl⟩) hG hS hAB hP [] rfl rfl hl.1 rfl (Nat.le_of_ble_eq_true rfl) dX7_trace_10 rfl ?_
  refine lv_if_eq (tgt := 25) hx hb dX7_trace_13 (by decide) (fun c_13 => ?_) (fun c_13 => ?_)
  · have hf := zp hf c_13
    refine lv_bipush (v := (-3 : Int32)) hx hb dX7_trace_25 (by decide) ?_
    cases hf
    exact W.iret hx hb hr (fun t ht hW => ⟨rfl, ht⟩) (fun q h => absurd h List.not_mem_nil) dX7_trace_27
  · have hf := zn hf c_13
    refine lv_aload_n hx hb dX7_trace_16 rfl (lv_at hl 0 rfl) ?_
    refine va_get (D := D) (ci := 7) (v := .ref am12) (C := RX7) (T := TX7) (N := 26) hx hb hts hin7 hown hK hP 0 rfl rfl 20 (by decide) fl46 (fun _ h9 => h9) rfl dX7_trace_17 ?_
    refine lv_iload_n hx hb dX7_trace_20 rfl (lv_at hl 1 rfl) ?_
    obtain ⟨h_21, hf⟩ := zg hf
    refine va_iald hx hb hK hP 1 0 rfl rfl h_21 dX7_trace_21 ?_
    refine lv_goto (tgt := 27) hx hb dX7_trace_22 (by decide) ?_
    cases hf
    exact W.iret hx hb hr (fun t ht hW => ⟨rfl, ht⟩) (fun q h => absurd h List.not_mem_nil) dX7_trace_27
set_option maxRecDepth 100000 in
set_option maxHeartbeats 100000000 in
theorem mX7_many (l : Launch) (D : va_G) (cy : Nat → ClassId) (st sk sv : Nat → Nat) (B : Nat) (am : Nat) (am0 : Nat) (am1 : Nat) (am2 : Nat) (am3 : Nat) (am4 : Nat) (am5 : Nat) (am6 : Nat) (am7 : Nat) (am8 : Nat) (am9 : Nat) (am10 : Nat) (am11 : Nat) (am12 : Nat) (n : Nat) (M_isHeld : Int32) (M_taped : Int32) (M_token : Int32) (M_from : Int32) (M_to : Int32) (M_value : Int32) (M_isWrong : Int32) (M_rowN : Int32) (M_ran : Int32) (M_actKind : Int32) (M_actN : Int32) (M_actA : Int32) (M_isParted : Int32) (u_s : (Nat → Int32)) (x1 : Int32) (z : Int32) (hf : fX7_many n (M_isHeld, M_taped, M_token, M_from, M_to, M_value, M_isWrong, M_rowN, M_ran, M_actKind, M_actN, M_actA, M_isParted) u_s x1 = some z) : Met l yX7_many wsX7_many ({ frames := 2, cells := 0, slots := 0, locals := 44 }) (PcR [.ref am, .int x1] D cy st sk sv B [(am, .inr (7, [.ref am0, .ref am1, .ref am2, .ref am3, .int M_isHeld, .ref am4, .int M_taped, .int M_token, .int M_from, .int M_to, .int M_value, .int M_isWrong, .ref am5, .int M_rowN, .ref am6, .ref am7, .ref am8, .ref am9, .ref am10, .ref am11, .ref am12, .int M_ran, .int M_actKind, .int M_actN, .int M_actA, .int M_isParted])), (am0, .inl (cy 0, 48, .inl u_s))]) (Qr (some (.int z))) 0 0 (fun _ => False) := by
  refine Met.ofW (cc := cX7_many) (maxL := 4) (ret := (some .int)) (by decide) rfl ?_
  intro p e s m args below meth c s₁ Bd hml hv
  obtain ⟨rfl, hP, hG⟩ := hv
  have hx := Bd.exec
  have hb := Bd.bytes
  have hr := Bd.returns
  have hts := atoms_spec (ws := wsX7_many) Bd.pre
  have hown : s.vm.findClass RX7 = some m.cls := findClass_of_methodNamed Bd.named
  have hlocks := Bd.notSynchronized
  have hK := hG.1
  have hS : va_S (fun q => B ≤ q) s.heap s.heap [] := va_S.rf
  have hAB : ∀ q, (fun q => B ≤ q) q → B ≤ q := fun _ h => h
  have hin7 : ∀ w ∈ u_ws RX7 TX7 26, w ∈ wsX7_many := by decide +kernel
  have fl7 := hts (.fieldLink RX7 7 "KinCutleryModel" "s" "[I") (by decide +kernel)
  have fl58 := hts (.fieldLink RX7 58 "KinCutleryModel" "taped" "I") (by decide +kernel)
  have fl140 := hts (.fieldLink RX7 140 "KinCutleryModel" "rowN" "I") (by decide +kernel)
  have fl292 := hts (.fieldLink RX7 292 "KinCutleryModel" "ran" "I") (by decide +kernel)
  have hL61 : ∀ (n0 : Nat) (y2 : Int32) (y3 : Int32), lpF (fX7_many_F61 n (M_isHeld, M_taped, M_token, M_from, M_to, M_value, M_isWrong, M_rowN, M_ran, M_actKind, M_actN, M_actA, M_isParted) u_s x1 ) n0 (y2, y3) = some z → ∀ (ls : Array Slot), lv_has ls 4 [(0, .ref am), (1, .int x1), (2, .int y2), (3, .int y3)] → W p l e (headSpec wsX7_many ({ frames := 2, cells := 0, slots := 0, locals := 44 })).room s m ([.ref am, .int x1] : List Value).toArray below meth c s.heap [] 0 0 (MQ below (Qr (some (.int z))) ([.ref am, .int x1] : List Value).toArray s 0 0 (fun _ => False)) (F0 m 61 ls []) := by
    have key : ∀ (n0 : Nat) (v61 : Int32 × Int32), lpF (fX7_many_F61 n (M_isHeld, M_taped, M_token, M_from, M_to, M_value, M_isWrong, M_rowN, M_ran, M_actKind, M_actN, M_actA, M_isParted) u_s x1 ) n0 v61 = some z → ∀ (ls : Array Slot), lv_has ls 4 [(0, .ref am), (1, .int x1), (2, .int v61.1), (3, .int v61.2)] → W p l e (headSpec wsX7_many ({ frames := 2, cells := 0, slots := 0, locals := 44 })).room s m ([.ref am, .int x1] : List Value).toArray below meth c s.heap [] 0 0 (MQ below (Qr (some (.int z))) ([.ref am, .int x1] : List Value).toArray s 0 0 (fun _ => False)) (F0 m 61 ls []) := by
      refine lpW ?_
      intro k61 hk610
      have hk61 : ∀ (y2 : Int32) (y3 : Int32), k61 (y2, y3) = some z → ∀ (ls : Array Slot), lv_has ls 4 [(0, .ref am), (1, .int x1), (2, .int y2), (3, .int y3)] → W p l e (headSpec wsX7_many ({ frames := 2, cells := 0, slots := 0, locals := 44 })).room s m ([.ref am, .int x1] : List Value).toArray below meth c s.heap [] 0 0 (MQ below (Qr (some (.int z))) ([.ref am, .int x1] : List Value).toArray s 0 0 (fun _ => False)) (F0 m 61 ls []) := fun y2 y3 h9 => hk610 (y2, y3) h9
      have hB86 : ∀ (y3 : Int32) (w0 : Int32) (w1 : Int32), fX7_many_b86 n (M_isHeld, M_taped, M_token, M_from, M_to, M_value, M_isWrong, M_rowN, M_ran, M_actKind, M_actN, M_actA, M_isParted) u_s x1 k61 y3 w0 w1 = some z → ∀ (ls : Array Slot), lv_has ls 4 [(0, .ref am), (1, .int x1), (3, .int y3)] → W p l e (headSpec wsX7_many ({ frames := 2, cells := 0, slots := 0, locals := 44 })).room s m ([.ref am, .int x1] : List Value).toArray below meth c s.heap [] 0 0 (MQ below (Qr (some (.int z))) ([.ref am, .int x1] : List Value).toArray s 0 0 (fun _ => False)) (F0 m 86 ls [.int w1, .int w0]) := by
        intro y3 w0 w1 hf ls hl
        have hf : (k61 ((w0 + w1), (y3 + (1 : Int32)))) = some z := hf
        refine lv_iadd hx hb dX7_many_86 ?_
        refine lv_istore_n (lv' := [(2, .int (w0 + w1)), (0, .ref am), (1, .int x1), (3, .int y3)]) hx hb dX7_many_87 rfl hl (by decide) rfl (fun ls hl => ?_)
        refine lv_iinc (v := (y3 + (1 : Int32))) (lv' := [(3, .int (y3 + (1 : Int32))), (2, .int (w0 + w1)), (0, .ref am), (1, .int x1)]) hx hb dX7_many_88 hl (k := 3) rfl rfl (by decide) rfl (fun ls hl => ?_)
        refine lv_goto (tgt := 61) hx hb dX7_many_91 (by decide) ?_
        exact hk61 (w0 + w1) (y3 + (1 : Int32)) hf _ (lv_sub hl [2, 3, 1, 0] rfl)
      have hstep : ∀ (y2 : Int32) (y3 : Int32), fX7_many_F61 n (M_isHeld, M_taped, M_token, M_from, M_to, M_value, M_isWrong, M_rowN, M_ran, M_actKind, M_actN, M_actA, M_isParted) u_s x1  k61 (y2, y3) = some z → ∀ (ls : Array Slot), lv_has ls 4 [(0, .ref am), (1, .int x1), (2, .int y2), (3, .int y3)] → W p l e (headSpec wsX7_many ({ frames := 2, cells := 0, slots := 0, locals := 44 })).room s m ([.ref am, .int x1] : List Value).toArray below meth c s.heap [] 0 0 (MQ below (Qr (some (.int z))) ([.ref am, .int x1] : List Value).toArray s 0 0 (fun _ => False)) (F0 m 61 ls []) := by
        intro y2 y3 hf ls hl
        have hf : (if (u_s (0 : Int32).toNatClampNeg) ≤ y3 then (some y2) else ((fX7_its n (M_isHeld, M_taped, M_token, M_from, M_to, M_value, M_isWrong, M_rowN, M_ran, M_actKind, M_actN, M_actA, M_isParted) u_s y3 (3 : Int32)).bind fun r75 => if r75 ≤ 0 then (fX7_many_b86 n (M_isHeld, M_taped, M_token, M_from, M_to, M_value, M_isWrong, M_rowN, M_ran, M_actKind, M_actN, M_actA, M_isParted) u_s x1 k61 y3 y2 (0 : Int32)) else (fX7_many_b86 n (M_isHeld, M_taped, M_token, M_from, M_to, M_value, M_isWrong, M_rowN, M_ran, M_actKind, M_actN, M_actA, M_isParted) u_s x1 k61 y3 y2 (1 : Int32)))) = some z := hf
        refine lv_iload_n hx hb dX7_many_61 rfl (lv_at hl 3 rfl) ?_
        refine lv_aload_n hx hb dX7_many_62 rfl (lv_at hl 0 rfl) ?_
        refine va_get (D := D) (ci := 7) (v := .ref am0) (C := RX7) (T := TX7) (N := 26) hx hb hts hin7 hown hK hP 0 rfl rfl 0 (by decide) fl7 (fun _ h9 => h9) rfl dX7_many_63 ?_
        refine lv_iconst (v := (0 : Int32)) hx hb dX7_many_66 (by decide) ?_
        refine va_iald hx hb hK hP 1 0 rfl rfl vi_0_48 dX7_many_67 ?_
        refine lv_icmp_ge (tgt := 94) hx hb dX7_many_68 (by decide) (fun c_68 => ?_) (fun c_68 => ?_)
        · have hf := zp hf c_68
          refine lv_iload_n hx hb dX7_many_94 rfl (lv_at hl 2 rfl) ?_
          cases hf
          exact W.iret hx hb hr (fun t ht hW => ⟨rfl, ht⟩) (fun q h => absurd h List.not_mem_nil) dX7_many_95
        · have hf := zn hf c_68
          refine lv_iload_n hx hb dX7_many_71 rfl (lv_at hl 2 rfl) ?_
          refine lv_aload_n hx hb dX7_many_72 rfl (lv_at hl 0 rfl) ?_
          refine lv_iload_n hx hb dX7_many_73 rfl (lv_at hl 3 rfl) ?_
          refine lv_iconst (v := (3 : Int32)) hx hb dX7_many_74 (by decide) ?_
          obtain ⟨r75, hc75, hf⟩ := zb hf
          refine zvr (o := some (.int r75)) (As := [.int y3, .int (3 : Int32)]) (rest := [.int y2]) (stk := [.int r75, .int y2]) ⟨hx, hb, hml, hown, hts⟩ (mX7_its l D cy st sk sv B am am0 am1 am2 am3 am4 am5 am6 am7 am8 am9 am10 am11 am12 n M_isHeld M_taped M_token M_from M_to M_value M_isWrong M_rowN M_ran M_actKind M_actN M_actA M_isParted u_s y3 (3 : Int32) r75 hc75) (cwV 2 hts gX7_many_X7_its rfl rfl rfl (by decide +kernel) ⟨Nat.le_of_ble_eq_true rfl, Nat.le_of_ble_eq_true rfl⟩) hG hS hAB hP [0, 1] rfl 0 7 rfl rfl rfl rfl hl.1 rfl (Nat.le_of_ble_eq_true rfl) dX7_many_75 rfl ?_
          refine lv_if_le (tgt := 85) hx hb dX7_many_78 (by decide) (fun c_78 => ?_) (fun c_78 => ?_)
          · have hf := zp hf c_78
            refine lv_iconst (v := (0 : Int32)) hx hb dX7_many_85 (by decide) ?_
            exact hB86 y3 y2 (0 : Int32) hf _ (lv_sub hl [0, 1, 3] rfl)
          · have hf := zn hf c_78
            refine lv_iconst (v := (1 : Int32)) hx hb dX7_many_81 (by decide) ?_
            refine lv_goto (tgt := 86) hx hb dX7_many_82 (by decide) ?_
            exact hB86 y3 y2 (1 : Int32) hf _ (lv_sub hl [0, 1, 3] rfl)
      exact fun v61 h9 => hstep v61.1 v61.2 h9
    exact fun n0 y2 y3 h9 => key n0 (y2, y3) h9
  have hl := lv_entry ([.ref am, .int x1]) (n := 4) (Nat.le_of_ble_eq_true rfl)
  rw [lg_entry_eq]
  generalize (lg_sl ([.ref am, .int x1]) ++ List.replicate (4 - (lg_sl ([.ref am, .int x1])).length) Slot.unset).toArray = ls at hl ⊢
  have hl : lv_has ls 4 [(0, .ref am), (1, .int x1)] := hl
  have hf : (if x1 = (0 : Int32) then (some (u_s (0 : Int32).toNatClampNeg)) else if x1 = (1 : Int32) then ((fX7_drownedOnes n (M_isHeld, M_taped, M_token, M_from, M_to, M_value, M_isWrong, M_rowN, M_ran, M_actKind, M_actN, M_actA, M_isParted) u_s).bind fun r52 => (fX7_size n r52).bind fun r55 => some r55) else if x1 = (2 : Int32) then (lpF (fX7_many_F61 n (M_isHeld, M_taped, M_token, M_from, M_to, M_value, M_isWrong, M_rowN, M_ran, M_actKind, M_actN, M_actA, M_isParted) u_s x1 ) n ((0 : Int32), (0 : Int32))) else if x1 = (3 : Int32) then ((fX7_pieces n (M_isHeld, M_taped, M_token, M_from, M_to, M_value, M_isWrong, M_rowN, M_ran, M_actKind, M_actN, M_actA, M_isParted) u_s).bind fun r97 => (fX7_size n r97).bind fun r100 => some r100) else if x1 = (4 : Int32) then (some M_rowN) else if x1 = (5 : Int32) then (some M_taped) else if x1 = (6 : Int32) then (some M_ran) else  (some (-1 : Int32))) = some z := hf
  refine lv_iconst (v := (0 : Int32)) hx hb dX7_many_0 (by decide) ?_
  refine lv_istore_n (lv' := [(2, .int (0 : Int32)), (0, .ref am), (1, .int x1)]) hx hb dX7_many_1 rfl hl (by decide) rfl (fun ls hl => ?_)
  refine lv_iload_n hx hb dX7_many_2 rfl (lv_at hl 2 rfl) ?_
  by_cases c_3_0 : x1 = (0 : Int32)
  · have hf := zp hf c_3_0
    refine lv_tableIn (tgt := 44) hx hb dX7_many_3 (by rw [c_3_0]; decide) (by rw [c_3_0]; decide) (by rw [c_3_0]; rfl) (by decide) ?_
    refine lv_aload_n hx hb dX7_many_44 rfl (lv_at hl 1 rfl) ?_
    refine va_get (D := D) (ci := 7) (v := .ref am0) (C := RX7) (T := TX7) (N := 26) hx hb hts hin7 hown hK hP 0 rfl rfl 0 (by decide) fl7 (fun _ h9 => h9) rfl dX7_many_45 ?_
    refine lv_iconst (v := (0 : Int32)) hx hb dX7_many_48 (by decide) ?_
    refine va_iald hx hb hK hP 1 0 rfl rfl vi_0_48 dX7_many_49 ?_
    cases hf
    exact W.iret hx hb hr (fun t ht hW => ⟨rfl, ht⟩) (fun q h => absurd h List.not_mem_nil) dX7_many_50
  have hf := zn hf c_3_0
  by_cases c_3_1 : x1 = (1 : Int32)
  · have hf := zp hf c_3_1
    refine lv_tableIn (tgt := 51) hx hb dX7_many_3 (by rw [c_3_1]; decide) (by rw [c_3_1]; decide) (by rw [c_3_1]; rfl) (by decide) ?_
    refine lv_aload_n hx hb dX7_many_51 rfl (lv_at hl 1 rfl) ?_
    obtain ⟨r52, hc52, hf⟩ := zb hf
    refine zvr (o := some (.int r52)) (As := []) (rest := []) (stk := [.int r52]) ⟨hx, hb, hml, hown, hts⟩ (mX7_drownedOnes l D cy st sk sv B am am0 am1 am2 am3 am4 am5 am6 am7 am8 am9 am10 am11 am12 n M_isHeld M_taped M_token M_from M_to M_value M_isWrong M_rowN M_ran M_actKind M_actN M_actA M_isParted u_s r52 hc52) (cwV 0 hts gX7_many_X7_drownedOnes rfl rfl rfl (by decide +kernel) ⟨Nat.le_of_ble_eq_true rfl, Nat.le_of_ble_eq_true rfl⟩) hG hS hAB hP [0, 1] rfl 0 7 rfl rfl rfl rfl hl.1 rfl (Nat.le_of_ble_eq_true rfl) dX7_many_52 rfl ?_
    obtain ⟨r55, hc55, hf⟩ := zb hf
    refine zsr (o := some (.int r55)) (As := [.int r52]) (rest := []) (stk := [.int r55]) ⟨hx, hb, hml, hown, hts⟩ (mX7_size l D cy st sk sv B  n r52 r55 hc55) (va_cwS 1 hts gX7_many_X7_size rfl rfl rfl (by decide +kernel) ⟨Nat.le_of_ble_eq_true rfl, Nat.le_of_ble_eq_true rfl⟩) hG hS hAB hP [] rfl rfl hl.1 rfl (Nat.le_of_ble_eq_true rfl) dX7_many_55 rfl ?_
    cases hf
    exact W.iret hx hb hr (fun t ht hW => ⟨rfl, ht⟩) (fun q h => absurd h List.not_mem_nil) dX7_many_58
  have hf := zn hf c_3_1
  by_cases c_3_2 : x1 = (2 : Int32)
  · have hf := zp hf c_3_2
    refine lv_tableIn (tgt := 59) hx hb dX7_many_3 (by rw [c_3_2]; decide) (by rw [c_3_2]; decide) (by rw [c_3_2]; rfl) (by decide) ?_
    refine lv_iconst (v := (0 : Int32)) hx hb dX7_many_59 (by decide) ?_
    refine lv_istore_n (lv' := [(3, .int (0 : Int32)), (2, .int (0 : Int32)), (0, .ref am), (1, .int x1)]) hx hb dX7_many_60 rfl hl (by decide) rfl (fun ls hl => ?_)
    exact hL61 n (0 : Int32) (0 : Int32) hf _ (lv_sub hl [2, 3, 1, 0] rfl)
  have hf := zn hf c_3_2
  by_cases c_3_3 : x1 = (3 : Int32)
  · have hf := zp hf c_3_3
    refine lv_tableIn (tgt := 96) hx hb dX7_many_3 (by rw [c_3_3]; decide) (by rw [c_3_3]; decide) (by rw [c_3_3]; rfl) (by decide) ?_
    refine lv_aload_n hx hb dX7_many_96 rfl (lv_at hl 1 rfl) ?_
    obtain ⟨r97, hc97, hf⟩ := zb hf
    refine zvr (o := some (.int r97)) (As := []) (rest := []) (stk := [.int r97]) ⟨hx, hb, hml, hown, hts⟩ (mX7_pieces l D cy st sk sv B am am0 am1 am2 am3 am4 am5 am6 am7 am8 am9 am10 am11 am12 n M_isHeld M_taped M_token M_from M_to M_value M_isWrong M_rowN M_ran M_actKind M_actN M_actA M_isParted u_s r97 hc97) (cwV 0 hts gX7_many_X7_pieces rfl rfl rfl (by decide +kernel) ⟨Nat.le_of_ble_eq_true rfl, Nat.le_of_ble_eq_true rfl⟩) hG hS hAB hP [0, 1] rfl 0 7 rfl rfl rfl rfl hl.1 rfl (Nat.le_of_ble_eq_true rfl) dX7_many_97 rfl ?_
    obtain ⟨r100, hc100, hf⟩ := zb hf
    refine zsr (o := some (.int r100)) (As := [.int r97]) (rest := []) (stk := [.int r100]) ⟨hx, hb, hml, hown, hts⟩ (mX7_size l D cy st sk sv B  n r97 r100 hc100) (va_cwS 1 hts gX7_many_X7_size rfl rfl rfl (by decide +kernel) ⟨Nat.le_of_ble_eq_true rfl, Nat.le_of_ble_eq_true rfl⟩) hG hS hAB hP [] rfl rfl hl.1 rfl (Nat.le_of_ble_eq_true rfl) dX7_many_100 rfl ?_
    cases hf
    exact W.iret hx hb hr (fun t ht hW => ⟨rfl, ht⟩) (fun q h => absurd h List.not_mem_nil) dX7_many_103
  have hf := zn hf c_3_3
  by_cases c_3_4 : x1 = (4 : Int32)
  · have hf := zp hf c_3_4
    refine lv_tableIn (tgt := 104) hx hb dX7_many_3 (by rw [c_3_4]; decide) (by rw [c_3_4]; decide) (by rw [c_3_4]; rfl) (by decide) ?_
    refine lv_aload_n hx hb dX7_many_104 rfl (lv_at hl 1 rfl) ?_
    refine va_get (D := D) (ci := 7) (v := .int M_rowN) (C := RX7) (T := TX7) (N := 26) hx hb hts hin7 hown hK hP 0 rfl rfl 13 (by decide) fl140 (fun _ h9 => h9) rfl dX7_many_105 ?_
    cases hf
    exact W.iret hx hb hr (fun t ht hW => ⟨rfl, ht⟩) (fun q h => absurd h List.not_mem_nil) dX7_many_108
  have hf := zn hf c_3_4
  by_cases c_3_5 : x1 = (5 : Int32)
  · have hf := zp hf c_3_5
    refine lv_tableIn (tgt := 109) hx hb dX7_many_3 (by rw [c_3_5]; decide) (by rw [c_3_5]; decide) (by rw [c_3_5]; rfl) (by decide) ?_
    refine lv_aload_n hx hb dX7_many_109 rfl (lv_at hl 1 rfl) ?_
    refine va_get (D := D) (ci := 7) (v := .int M_taped) (C := RX7) (T := TX7) (N := 26) hx hb hts hin7 hown hK hP 0 rfl rfl 6 (by decide) fl58 (fun _ h9 => h9) rfl dX7_many_110 ?_
    cases hf
    exact W.iret hx hb hr (fun t ht hW => ⟨rfl, ht⟩) (fun q h => absurd h List.not_mem_nil) dX7_many_113
  have hf := zn hf c_3_5
  by_cases c_3_6 : x1 = (6 : Int32)
  · have hf := zp hf c_3_6
    refine lv_tableIn (tgt := 114) hx hb dX7_many_3 (by rw [c_3_6]; decide) (by rw [c_3_6]; decide) (by rw [c_3_6]; rfl) (by decide) ?_
    refine lv_aload_n hx hb dX7_many_114 rfl (lv_at hl 1 rfl) ?_
    refine va_get (D := D) (ci := 7) (v := .int M_ran) (C := RX7) (T := TX7) (N := 26) hx hb hts hin7 hown hK hP 0 rfl rfl 21 (by decide) fl292 (fun _ h9 => h9) rfl dX7_many_115 ?_
    cases hf
    exact W.iret hx hb hr (fun t ht hW => ⟨rfl, ht⟩) (fun q h => absurd h List.not_mem_nil) dX7_many_118
  have hf := zn hf c_3_6
  have e_3_0 : ¬ x1.toInt = 0 := fun h => c_3_0 (Int32.toInt_inj.mp (h.trans (by decide)))
  have e_3_1 : ¬ x1.toInt = 1 := fun h => c_3_1 (Int32.toInt_inj.mp (h.trans (by decide)))
  have e_3_2 : ¬ x1.toInt = 2 := fun h => c_3_2 (Int32.toInt_inj.mp (h.trans (by decide)))
  have e_3_3 : ¬ x1.toInt = 3 := fun h => c_3_3 (Int32.toInt_inj.mp (h.trans (by decide)))
  have e_3_4 : ¬ x1.toInt = 4 := fun h => c_3_4 (Int32.toInt_inj.mp (h.trans (by decide)))
  have e_3_5 : ¬ x1.toInt = 5 := fun h => c_3_5 (Int32.toInt_inj.mp (h.trans (by decide)))
  have e_3_6 : ¬ x1.toInt = 6 := fun h => c_3_6 (Int32.toInt_inj.mp (h.trans (by decide)))
  refine lv_tableOut (tgt := 119) hx hb dX7_many_3 (by omega) (by decide) ?_
  refine lv_iconst (v := (-1 : Int32)) hx hb dX7_many_119 (by decide) ?_
  cases hf
  exact W.iret hx hb hr (fun t ht hW => ⟨rfl, ht⟩) (fun q h => absurd h List.not_mem_nil) dX7_many_120
set_option maxRecDepth 100000 in
set_option maxHeartbeats 100000000 in
theorem mX7_keep (l : Launch) (D : va_G) (cy : Nat → ClassId) (st sk sv : Nat → Nat) (B : Nat) (am : Nat) (am0 : Nat) (am1 : Nat) (am2 : Nat) (am3 : Nat) (am4 : Nat) (am5 : Nat) (am6 : Nat) (am7 : Nat) (am8 : Nat) (am9 : Nat) (am10 : Nat) (am11 : Nat) (am12 : Nat) (sz : Nat) (n : Nat) (M_isHeld : Int32) (M_taped : Int32) (M_token : Int32) (M_from : Int32) (M_to : Int32) (M_value : Int32) (M_isWrong : Int32) (M_rowN : Int32) (M_ran : Int32) (M_actKind : Int32) (M_actN : Int32) (M_actA : Int32) (M_isParted : Int32) (u_s : (Nat → Int32)) (u_held : (Nat → Int32))  (z : Int32 × MO × (Nat → Int32)) (hf : fX7_keep n (M_isHeld, M_taped, M_token, M_from, M_to, M_value, M_isWrong, M_rowN, M_ran, M_actKind, M_actN, M_actA, M_isParted) u_s u_held = some z) : Met l yX7_keep wsX7_keep ({ frames := 0, cells := 0, slots := 0, locals := 0 }) (PcW [.ref am] D cy st sk sv B sz [(am, .inr (7, [.ref am0, .ref am1, .ref am2, .ref am3, .int M_isHeld, .ref am4, .int M_taped, .int M_token, .int M_from, .int M_to, .int M_value, .int M_isWrong, .ref am5, .int M_rowN, .ref am6, .ref am7, .ref am8, .ref am9, .ref am10, .ref am11, .ref am12, .int M_ran, .int M_actKind, .int M_actN, .int M_actA, .int M_isParted])), (am0, .inl (cy 0, 48, .inl u_s)), (am1, .inl (cy 0, 48, .inl u_held))]) (Qw (some (.int z.1)) D [(am, .inr (7, [.ref am0, .ref am1, .ref am2, .ref am3, .int z.2.1.1, .ref am4, .int z.2.1.2.1, .int z.2.1.2.2.1, .int z.2.1.2.2.2.1, .int z.2.1.2.2.2.2.1, .int z.2.1.2.2.2.2.2.1, .int z.2.1.2.2.2.2.2.2.1, .ref am5, .int z.2.1.2.2.2.2.2.2.2.1, .ref am6, .ref am7, .ref am8, .ref am9, .ref am10, .ref am11, .ref am12, .int z.2.1.2.2.2.2.2.2.2.2.1, .int z.2.1.2.2.2.2.2.2.2.2.2.1, .int z.2.1.2.2.2.2.2.2.2.2.2.2.1, .int z.2.1.2.2.2.2.2.2.2.2.2.2.2.1, .int z.2.1.2.2.2.2.2.2.2.2.2.2.2.2])), (am0, .inl (cy 0, 48, .inl u_s)), (am1, .inl (cy 0, 48, .inl z.2.2))] (va_A [(am, .inr (7, [.ref am0, .ref am1, .ref am2, .ref am3, .int M_isHeld, .ref am4, .int M_taped, .int M_token, .int M_from, .int M_to, .int M_value, .int M_isWrong, .ref am5, .int M_rowN, .ref am6, .ref am7, .ref am8, .ref am9, .ref am10, .ref am11, .ref am12, .int M_ran, .int M_actKind, .int M_actN, .int M_actA, .int M_isParted])), (am0, .inl (cy 0, 48, .inl u_s)), (am1, .inl (cy 0, 48, .inl u_held))] sz)) 0 0 (va_A [(am, .inr (7, [.ref am0, .ref am1, .ref am2, .ref am3, .int M_isHeld, .ref am4, .int M_taped, .int M_token, .int M_from, .int M_to, .int M_value, .int M_isWrong, .ref am5, .int M_rowN, .ref am6, .ref am7, .ref am8, .ref am9, .ref am10, .ref am11, .ref am12, .int M_ran, .int M_actKind, .int M_actN, .int M_actA, .int M_isParted])), (am0, .inl (cy 0, 48, .inl u_s)), (am1, .inl (cy 0, 48, .inl u_held))] sz) := by
  refine Met.ofW (cc := cX7_keep) (maxL := 2) (ret := (some .int)) (by decide) rfl ?_
  intro p e s m args below meth c s₁ Bd hml hv
  obtain ⟨rfl, hsz, hP, hD0, hBs, hG⟩ := hv
  have hx := Bd.exec
  have hb := Bd.bytes
  have hr := Bd.returns
  have hts := atoms_spec (ws := wsX7_keep) Bd.pre
  have hown : s.vm.findClass RX7 = some m.cls := findClass_of_methodNamed Bd.named
  have hlocks := Bd.notSynchronized
  have hK := hG.1
  subst hsz
  have hD := hD0.self (sz := s.heap.size)
  have hAB0 := zA hD0 hBs
  generalize hAe : va_A [(am, .inr (7, [.ref am0, .ref am1, .ref am2, .ref am3, .int M_isHeld, .ref am4, .int M_taped, .int M_token, .int M_from, .int M_to, .int M_value, .int M_isWrong, .ref am5, .int M_rowN, .ref am6, .ref am7, .ref am8, .ref am9, .ref am10, .ref am11, .ref am12, .int M_ran, .int M_actKind, .int M_actN, .int M_actA, .int M_isParted])), (am0, .inl (cy 0, 48, .inl u_s)), (am1, .inl (cy 0, 48, .inl u_held))] s.heap.size = A at hD hAB0 ⊢
  have hA : ∀ q : Nat, s.heap.size ≤ q → A q := fun q h => by rw [← hAe]; exact Or.inr h
  have hAB : ∀ q, A q → B ≤ q := hAB0
  have hS : va_S A s.heap s.heap [] := va_S.rf
  have hfin : ∀ (z0 : Int32) (M_isHeld : Int32) (M_taped : Int32) (M_token : Int32) (M_from : Int32) (M_to : Int32) (M_value : Int32) (M_isWrong : Int32) (M_rowN : Int32) (M_ran : Int32) (M_actKind : Int32) (M_actN : Int32) (M_actA : Int32) (M_isParted : Int32) (u_held : (Nat → Int32)), some (z0, (M_isHeld, M_taped, M_token, M_from, M_to, M_value, M_isWrong, M_rowN, M_ran, M_actKind, M_actN, M_actA, M_isParted), u_held) = some z → ∀ (H : Heap) (t : State), t.heap = H → va_P D vwCl [(am, .inr (7, [.ref am0, .ref am1, .ref am2, .ref am3, .int M_isHeld, .ref am4, .int M_taped, .int M_token, .int M_from, .int M_to, .int M_value, .int M_isWrong, .ref am5, .int M_rowN, .ref am6, .ref am7, .ref am8, .ref am9, .ref am10, .ref am11, .ref am12, .int M_ran, .int M_actKind, .int M_actN, .int M_actA, .int M_isParted])), (am0, .inl (cy 0, 48, .inl u_s)), (am1, .inl (cy 0, 48, .inl u_held))] H → va_F A s t → Qw (some (.int z.1)) D [(am, .inr (7, [.ref am0, .ref am1, .ref am2, .ref am3, .int z.2.1.1, .ref am4, .int z.2.1.2.1, .int z.2.1.2.2.1, .int z.2.1.2.2.2.1, .int z.2.1.2.2.2.2.1, .int z.2.1.2.2.2.2.2.1, .int z.2.1.2.2.2.2.2.2.1, .ref am5, .int z.2.1.2.2.2.2.2.2.2.1, .ref am6, .ref am7, .ref am8, .ref am9, .ref am10, .ref am11, .ref am12, .int z.2.1.2.2.2.2.2.2.2.2.1, .int z.2.1.2.2.2.2.2.2.2.2.2.1, .int z.2.1.2.2.2.2.2.2.2.2.2.2.1, .int z.2.1.2.2.2.2.2.2.2.2.2.2.2.1, .int z.2.1.2.2.2.2.2.2.2.2.2.2.2.2])), (am0, .inl (cy 0, 48, .inl u_s)), (am1, .inl (cy 0, 48, .inl z.2.2))] A ([.ref am] : List Value).toArray s (.returned (some (.int z0))) t := by
    intro z0 M_isHeld M_taped M_token M_from M_to M_value M_isWrong M_rowN M_ran M_actKind M_actN M_actA M_isParted u_held h9 H t ht hP hF
    cases h9
    exact ⟨rfl, by rw [ht]; exact hP, hF⟩
  have hin7 : ∀ w ∈ u_ws RX7 TX7 26, w ∈ wsX7_keep := by decide +kernel
  have fl7 := hts (.fieldLink RX7 7 "KinCutleryModel" "s" "[I") (by decide +kernel)
  have fl13 := hts (.fieldLink RX7 13 "KinCutleryModel" "held" "[I") (by decide +kernel)
  have fl337 := hts (.fieldLink RX7 337 "KinCutleryModel" "isHeld" "Z") (by decide +kernel)
  have hL2 : ∀ (n0 : Nat) (M_isHeld : Int32) (M_taped : Int32) (M_token : Int32) (M_from : Int32) (M_to : Int32) (M_value : Int32) (M_isWrong : Int32) (M_rowN : Int32) (M_ran : Int32) (M_actKind : Int32) (M_actN : Int32) (M_actA : Int32) (M_isParted : Int32) (u_held : (Nat → Int32)) (y1 : Int32), lpF (fX7_keep_F2 n u_s ) n0 ((M_isHeld, M_taped, M_token, M_from, M_to, M_value, M_isWrong, M_rowN, M_ran, M_actKind, M_actN, M_actA, M_isParted), u_held, y1) = some z → ∀ (H : Heap) (locs : List Loc), va_P D vwCl [(am, .inr (7, [.ref am0, .ref am1, .ref am2, .ref am3, .int M_isHeld, .ref am4, .int M_taped, .int M_token, .int M_from, .int M_to, .int M_value, .int M_isWrong, .ref am5, .int M_rowN, .ref am6, .ref am7, .ref am8, .ref am9, .ref am10, .ref am11, .ref am12, .int M_ran, .int M_actKind, .int M_actN, .int M_actA, .int M_isParted])), (am0, .inl (cy 0, 48, .inl u_s)), (am1, .inl (cy 0, 48, .inl u_held))] H → va_D A [(am, .inr (7, [.ref am0, .ref am1, .ref am2, .ref am3, .int M_isHeld, .ref am4, .int M_taped, .int M_token, .int M_from, .int M_to, .int M_value, .int M_isWrong, .ref am5, .int M_rowN, .ref am6, .ref am7, .ref am8, .ref am9, .ref am10, .ref am11, .ref am12, .int M_ran, .int M_actKind, .int M_actN, .int M_actA, .int M_isParted])), (am0, .inl (cy 0, 48, .inl u_s)), (am1, .inl (cy 0, 48, .inl u_held))] → va_S A s.heap H locs → ∀ (ls : Array Slot), lv_has ls 2 [(0, .ref am), (1, .int y1)] → W p l e (headSpec wsX7_keep ({ frames := 0, cells := 0, slots := 0, locals := 0 })).room s m ([.ref am] : List Value).toArray below meth c H locs 0 0 (MQ below (Qw (some (.int z.1)) D [(am, .inr (7, [.ref am0, .ref am1, .ref am2, .ref am3, .int z.2.1.1, .ref am4, .int z.2.1.2.1, .int z.2.1.2.2.1, .int z.2.1.2.2.2.1, .int z.2.1.2.2.2.2.1, .int z.2.1.2.2.2.2.2.1, .int z.2.1.2.2.2.2.2.2.1, .ref am5, .int z.2.1.2.2.2.2.2.2.2.1, .ref am6, .ref am7, .ref am8, .ref am9, .ref am10, .ref am11, .ref am12, .int z.2.1.2.2.2.2.2.2.2.2.1, .int z.2.1.2.2.2.2.2.2.2.2.2.1, .int z.2.1.2.2.2.2.2.2.2.2.2.2.1, .int z.2.1.2.2.2.2.2.2.2.2.2.2.2.1, .int z.2.1.2.2.2.2.2.2.2.2.2.2.2.2])), (am0, .inl (cy 0, 48, .inl u_s)), (am1, .inl (cy 0, 48, .inl z.2.2))] A) ([.ref am] : List Value).toArray s 0 0 A) (F0 m 2 ls []) := by
    have key : ∀ (n0 : Nat) (v2 : MO × (Nat → Int32) × Int32), lpF (fX7_keep_F2 n u_s ) n0 v2 = some z → ∀ (H : Heap) (locs : List Loc), va_P D vwCl [(am, .inr (7, [.ref am0, .ref am1, .ref am2, .ref am3, .int v2.1.1, .ref am4, .int v2.1.2.1, .int v2.1.2.2.1, .int v2.1.2.2.2.1, .int v2.1.2.2.2.2.1, .int v2.1.2.2.2.2.2.1, .int v2.1.2.2.2.2.2.2.1, .ref am5, .int v2.1.2.2.2.2.2.2.2.1, .ref am6, .ref am7, .ref am8, .ref am9, .ref am10, .ref am11, .ref am12, .int v2.1.2.2.2.2.2.2.2.2.1, .int v2.1.2.2.2.2.2.2.2.2.2.1, .int v2.1.2.2.2.2.2.2.2.2.2.2.1, .int v2.1.2.2.2.2.2.2.2.2.2.2.2.1, .int v2.1.2.2.2.2.2.2.2.2.2.2.2.2])), (am0, .inl (cy 0, 48, .inl u_s)), (am1, .inl (cy 0, 48, .inl v2.2.1))] H → va_D A [(am, .inr (7, [.ref am0, .ref am1, .ref am2, .ref am3, .int v2.1.1, .ref am4, .int v2.1.2.1, .int v2.1.2.2.1, .int v2.1.2.2.2.1, .int v2.1.2.2.2.2.1, .int v2.1.2.2.2.2.2.1, .int v2.1.2.2.2.2.2.2.1, .ref am5, .int v2.1.2.2.2.2.2.2.2.1, .ref am6, .ref am7, .ref am8, .ref am9, .ref am10, .ref am11, .ref am12, .int v2.1.2.2.2.2.2.2.2.2.1, .int v2.1.2.2.2.2.2.2.2.2.2.1, .int v2.1.2.2.2.2.2.2.2.2.2.2.1, .int v2.1.2.2.2.2.2.2.2.2.2.2.2.1, .int v2.1.2.2.2.2.2.2.2.2.2.2.2.2])), (am0, .inl (cy 0, 48, .inl u_s)), (am1, .inl (cy 0, 48, .inl v2.2.1))] → va_S A s.heap H locs → ∀ (ls : Array Slot), lv_has ls 2 [(0, .ref am), (1, .int v2.2.2)] → W p l e (headSpec wsX7_keep ({ frames := 0, cells := 0, slots := 0, locals := 0 })).room s m ([.ref am] : List Value).toArray below meth c H locs 0 0 (MQ below (Qw (some (.int z.1)) D [(am, .inr (7, [.ref am0, .ref am1, .ref am2, .ref am3, .int z.2.1.1, .ref am4, .int z.2.1.2.1, .int z.2.1.2.2.1, .int z.2.1.2.2.2.1, .int z.2.1.2.2.2.2.1, .int z.2.1.2.2.2.2.2.1, .int z.2.1.2.2.2.2.2.2.1, .ref am5, .int z.2.1.2.2.2.2.2.2.2.1, .ref am6, .ref am7, .ref am8, .ref am9, .ref am10, .ref am11, .ref am12, .int z.2.1.2.2.2.2.2.2.2.2.1, .int z.2.1.2.2.2.2.2.2.2.2.2.1, .int z.2.1.2.2.2.2.2.2.2.2.2.2.1, .int z.2.1.2.2.2.2.2.2.2.2.2.2.2.1, .int z.2.1.2.2.2.2.2.2.2.2.2.2.2.2])), (am0, .inl (cy 0, 48, .inl u_s)), (am1, .inl (cy 0, 48, .inl z.2.2))] A) ([.ref am] : List Value).toArray s 0 0 A) (F0 m 2 ls []) := by
      refine lpW ?_
      intro k2 hk20
      have hk2 : ∀ (M_isHeld : Int32) (M_taped : Int32) (M_token : Int32) (M_from : Int32) (M_to : Int32) (M_value : Int32) (M_isWrong : Int32) (M_rowN : Int32) (M_ran : Int32) (M_actKind : Int32) (M_actN : Int32) (M_actA : Int32) (M_isParted : Int32) (u_held : (Nat → Int32)) (y1 : Int32), k2 ((M_isHeld, M_taped, M_token, M_from, M_to, M_value, M_isWrong, M_rowN, M_ran, M_actKind, M_actN, M_actA, M_isParted), u_held, y1) = some z → ∀ (H : Heap) (locs : List Loc), va_P D vwCl [(am, .inr (7, [.ref am0, .ref am1, .ref am2, .ref am3, .int M_isHeld, .ref am4, .int M_taped, .int M_token, .int M_from, .int M_to, .int M_value, .int M_isWrong, .ref am5, .int M_rowN, .ref am6, .ref am7, .ref am8, .ref am9, .ref am10, .ref am11, .ref am12, .int M_ran, .int M_actKind, .int M_actN, .int M_actA, .int M_isParted])), (am0, .inl (cy 0, 48, .inl u_s)), (am1, .inl (cy 0, 48, .inl u_held))] H → va_D A [(am, .inr (7, [.ref am0, .ref am1, .ref am2, .ref am3, .int M_isHeld, .ref am4, .int M_taped, .int M_token, .int M_from, .int M_to, .int M_value, .int M_isWrong, .ref am5, .int M_rowN, .ref am6, .ref am7, .ref am8, .ref am9, .ref am10, .ref am11, .ref am12, .int M_ran, .int M_actKind, .int M_actN, .int M_actA, .int M_isParted])), (am0, .inl (cy 0, 48, .inl u_s)), (am1, .inl (cy 0, 48, .inl u_held))] → va_S A s.heap H locs → ∀ (ls : Array Slot), lv_has ls 2 [(0, .ref am), (1, .int y1)] → W p l e (headSpec wsX7_keep ({ frames := 0, cells := 0, slots := 0, locals := 0 })).room s m ([.ref am] : List Value).toArray below meth c H locs 0 0 (MQ below (Qw (some (.int z.1)) D [(am, .inr (7, [.ref am0, .ref am1, .ref am2, .ref am3, .int z.2.1.1, .ref am4, .int z.2.1.2.1, .int z.2.1.2.2.1, .int z.2.1.2.2.2.1, .int z.2.1.2.2.2.2.1, .int z.2.1.2.2.2.2.2.1, .int z.2.1.2.2.2.2.2.2.1, .ref am5, .int z.2.1.2.2.2.2.2.2.2.1, .ref am6, .ref am7, .ref am8, .ref am9, .ref am10, .ref am11, .ref am12, .int z.2.1.2.2.2.2.2.2.2.2.1, .int z.2.1.2.2.2.2.2.2.2.2.2.1, .int z.2.1.2.2.2.2.2.2.2.2.2.2.1, .int z.2.1.2.2.2.2.2.2.2.2.2.2.2.1, .int z.2.1.2.2.2.2.2.2.2.2.2.2.2.2])), (am0, .inl (cy 0, 48, .inl u_s)), (am1, .inl (cy 0, 48, .inl z.2.2))] A) ([.ref am] : List Value).toArray s 0 0 A) (F0 m 2 ls []) := fun M_isHeld M_taped M_token M_from M_to M_value M_isWrong M_rowN M_ran M_actKind M_actN M_actA M_isParted u_held y1 h9 => hk20 ((M_isHeld, M_taped, M_token, M_from, M_to, M_value, M_isWrong, M_rowN, M_ran, M_actKind, M_actN, M_actA, M_isParted), u_held, y1) h9
      have hstep : ∀ (M_isHeld : Int32) (M_taped : Int32) (M_token : Int32) (M_from : Int32) (M_to : Int32) (M_value : Int32) (M_isWrong : Int32) (M_rowN : Int32) (M_ran : Int32) (M_actKind : Int32) (M_actN : Int32) (M_actA : Int32) (M_isParted : Int32) (u_held : (Nat → Int32)) (y1 : Int32), fX7_keep_F2 n u_s  k2 ((M_isHeld, M_taped, M_token, M_from, M_to, M_value, M_isWrong, M_rowN, M_ran, M_actKind, M_actN, M_actA, M_isParted), u_held, y1) = some z → ∀ (H : Heap) (locs : List Loc), va_P D vwCl [(am, .inr (7, [.ref am0, .ref am1, .ref am2, .ref am3, .int M_isHeld, .ref am4, .int M_taped, .int M_token, .int M_from, .int M_to, .int M_value, .int M_isWrong, .ref am5, .int M_rowN, .ref am6, .ref am7, .ref am8, .ref am9, .ref am10, .ref am11, .ref am12, .int M_ran, .int M_actKind, .int M_actN, .int M_actA, .int M_isParted])), (am0, .inl (cy 0, 48, .inl u_s)), (am1, .inl (cy 0, 48, .inl u_held))] H → va_D A [(am, .inr (7, [.ref am0, .ref am1, .ref am2, .ref am3, .int M_isHeld, .ref am4, .int M_taped, .int M_token, .int M_from, .int M_to, .int M_value, .int M_isWrong, .ref am5, .int M_rowN, .ref am6, .ref am7, .ref am8, .ref am9, .ref am10, .ref am11, .ref am12, .int M_ran, .int M_actKind, .int M_actN, .int M_actA, .int M_isParted])), (am0, .inl (cy 0, 48, .inl u_s)), (am1, .inl (cy 0, 48, .inl u_held))] → va_S A s.heap H locs → ∀ (ls : Array Slot), lv_has ls 2 [(0, .ref am), (1, .int y1)] → W p l e (headSpec wsX7_keep ({ frames := 0, cells := 0, slots := 0, locals := 0 })).room s m ([.ref am] : List Value).toArray below meth c H locs 0 0 (MQ below (Qw (some (.int z.1)) D [(am, .inr (7, [.ref am0, .ref am1, .ref am2, .ref am3, .int z.2.1.1, .ref am4, .int z.2.1.2.1, .int z.2.1.2.2.1, .int z.2.1.2.2.2.1, .int z.2.1.2.2.2.2.1, .int z.2.1.2.2.2.2.2.1, .int z.2.1.2.2.2.2.2.2.1, .ref am5, .int z.2.1.2.2.2.2.2.2.2.1, .ref am6, .ref am7, .ref am8, .ref am9, .ref am10, .ref am11, .ref am12, .int z.2.1.2.2.2.2.2.2.2.2.1, .int z.2.1.2.2.2.2.2.2.2.2.2.1, .int z.2.1.2.2.2.2.2.2.2.2.2.2.1, .int z.2.1.2.2.2.2.2.2.2.2.2.2.2.1, .int z.2.1.2.2.2.2.2.2.2.2.2.2.2.2])), (am0, .inl (cy 0, 48, .inl u_s)), (am1, .inl (cy 0, 48, .inl z.2.2))] A) ([.ref am] : List Value).toArray s 0 0 A) (F0 m 2 ls []) := by
        intro M_isHeld M_taped M_token M_from M_to M_value M_isWrong M_rowN M_ran M_actKind M_actN M_actA M_isParted u_held y1 hf H locs hP hD hS ls hl
        have hf : (if (48 : Int32) ≤ y1 then (some ((1 : Int32), ((1 : Int32), M_taped, M_token, M_from, M_to, M_value, M_isWrong, M_rowN, M_ran, M_actKind, M_actN, M_actA, M_isParted), u_held)) else (if y1 < 0 ∨ 48 ≤ y1.toNatClampNeg then none else if y1 < 0 ∨ 48 ≤ y1.toNatClampNeg then none else k2 ((M_isHeld, M_taped, M_token, M_from, M_to, M_value, M_isWrong, M_rowN, M_ran, M_actKind, M_actN, M_actA, M_isParted), (upd u_held y1.toNatClampNeg (u_s y1.toNatClampNeg)), (y1 + (1 : Int32))))) = some z := hf
        refine lv_iload_n hx hb dX7_keep_2 rfl (lv_at hl 1 rfl) ?_
        refine lv_bipush (v := (48 : Int32)) hx hb dX7_keep_3 (by decide) ?_
        refine lv_icmp_ge (tgt := 26) hx hb dX7_keep_5 (by decide) (fun c_5 => ?_) (fun c_5 => ?_)
        · have hf := zp hf c_5
          refine lv_aload_n hx hb dX7_keep_26 rfl (lv_at hl 0 rfl) ?_
          refine lv_iconst (v := (1 : Int32)) hx hb dX7_keep_27 (by decide) ?_
          refine va_put (D := D) (ci := 7) (v := .int (1 : Int32)) (ty := .boolean) (C := RX7) (T := TX7) (N := 26) hx hb hts hin7 tyX7 tyX7_ok nmX7 hown hK hP hD hS 0 rfl rfl 4 (by decide) fl337 (fun _ h9 => h9) rfl (by decide +kernel) rfl rfl (Nat.le_of_ble_eq_true rfl) dX7_keep_28 (fun H locs hP hD hS => ?_)
          have hP : va_P D vwCl [(am, .inr (7, [.ref am0, .ref am1, .ref am2, .ref am3, .int (1 : Int32), .ref am4, .int M_taped, .int M_token, .int M_from, .int M_to, .int M_value, .int M_isWrong, .ref am5, .int M_rowN, .ref am6, .ref am7, .ref am8, .ref am9, .ref am10, .ref am11, .ref am12, .int M_ran, .int M_actKind, .int M_actN, .int M_actA, .int M_isParted])), (am0, .inl (cy 0, 48, .inl u_s)), (am1, .inl (cy 0, 48, .inl u_held))] H := hP
          have hD : va_D A [(am, .inr (7, [.ref am0, .ref am1, .ref am2, .ref am3, .int (1 : Int32), .ref am4, .int M_taped, .int M_token, .int M_from, .int M_to, .int M_value, .int M_isWrong, .ref am5, .int M_rowN, .ref am6, .ref am7, .ref am8, .ref am9, .ref am10, .ref am11, .ref am12, .int M_ran, .int M_actKind, .int M_actN, .int M_actA, .int M_isParted])), (am0, .inl (cy 0, 48, .inl u_s)), (am1, .inl (cy 0, 48, .inl u_held))] := hD
          refine lv_iconst (v := (1 : Int32)) hx hb dX7_keep_31 (by decide) ?_
          exact W.iret hx hb hr (fun t ht hW => hfin (1 : Int32) (1 : Int32) M_taped M_token M_from M_to M_value M_isWrong M_rowN M_ran M_actKind M_actN M_actA M_isParted u_held hf _ t ht hP (hS.F ht)) hS.2.2 dX7_keep_32
        · have hf := zn hf c_5
          refine lv_aload_n hx hb dX7_keep_8 rfl (lv_at hl 0 rfl) ?_
          refine va_get (D := D) (ci := 7) (v := .ref am1) (C := RX7) (T := TX7) (N := 26) hx hb hts hin7 hown hK hP 0 rfl rfl 1 (by decide) fl13 (fun _ h9 => h9) rfl dX7_keep_9 ?_
          refine lv_iload_n hx hb dX7_keep_12 rfl (lv_at hl 1 rfl) ?_
          refine lv_aload_n hx hb dX7_keep_13 rfl (lv_at hl 0 rfl) ?_
          refine va_get (D := D) (ci := 7) (v := .ref am0) (C := RX7) (T := TX7) (N := 26) hx hb hts hin7 hown hK hP 0 rfl rfl 0 (by decide) fl7 (fun _ h9 => h9) rfl dX7_keep_14 ?_
          refine lv_iload_n hx hb dX7_keep_17 rfl (lv_at hl 1 rfl) ?_
          obtain ⟨h_18, hf⟩ := zg hf
          refine va_iald hx hb hK hP 1 0 rfl rfl h_18 dX7_keep_18 ?_
          obtain ⟨h_19, hf⟩ := zg hf
          refine va_iast hx hb hK hP hD hS 2 0 rfl rfl h_19 dX7_keep_19 (fun H locs hP hD hS => ?_)
          have hP : va_P D vwCl [(am, .inr (7, [.ref am0, .ref am1, .ref am2, .ref am3, .int M_isHeld, .ref am4, .int M_taped, .int M_token, .int M_from, .int M_to, .int M_value, .int M_isWrong, .ref am5, .int M_rowN, .ref am6, .ref am7, .ref am8, .ref am9, .ref am10, .ref am11, .ref am12, .int M_ran, .int M_actKind, .int M_actN, .int M_actA, .int M_isParted])), (am0, .inl (cy 0, 48, .inl u_s)), (am1, .inl (cy 0, 48, .inl (upd u_held y1.toNatClampNeg (u_s y1.toNatClampNeg))))] H := hP
          have hD : va_D A [(am, .inr (7, [.ref am0, .ref am1, .ref am2, .ref am3, .int M_isHeld, .ref am4, .int M_taped, .int M_token, .int M_from, .int M_to, .int M_value, .int M_isWrong, .ref am5, .int M_rowN, .ref am6, .ref am7, .ref am8, .ref am9, .ref am10, .ref am11, .ref am12, .int M_ran, .int M_actKind, .int M_actN, .int M_actA, .int M_isParted])), (am0, .inl (cy 0, 48, .inl u_s)), (am1, .inl (cy 0, 48, .inl (upd u_held y1.toNatClampNeg (u_s y1.toNatClampNeg))))] := hD
          refine lv_iinc (v := (y1 + (1 : Int32))) (lv' := [(1, .int (y1 + (1 : Int32))), (0, .ref am)]) hx hb dX7_keep_20 hl (k := 1) rfl rfl (by decide) rfl (fun ls hl => ?_)
          refine lv_goto (tgt := 2) hx hb dX7_keep_23 (by decide) ?_
          exact hk2 M_isHeld M_taped M_token M_from M_to M_value M_isWrong M_rowN M_ran M_actKind M_actN M_actA M_isParted (upd u_held y1.toNatClampNeg (u_s y1.toNatClampNeg)) (y1 + (1 : Int32)) hf _ _ hP hD hS _ (lv_sub hl [1, 0] rfl)
      exact fun v2 h9 => hstep v2.1.1 v2.1.2.1 v2.1.2.2.1 v2.1.2.2.2.1 v2.1.2.2.2.2.1 v2.1.2.2.2.2.2.1 v2.1.2.2.2.2.2.2.1 v2.1.2.2.2.2.2.2.2.1 v2.1.2.2.2.2.2.2.2.2.1 v2.1.2.2.2.2.2.2.2.2.2.1 v2.1.2.2.2.2.2.2.2.2.2.2.1 v2.1.2.2.2.2.2.2.2.2.2.2.2.1 v2.1.2.2.2.2.2.2.2.2.2.2.2.2 v2.2.1 v2.2.2 h9
    exact fun n0 M_isHeld M_taped M_token M_from M_to M_value M_isWrong M_rowN M_ran M_actKind M_actN M_actA M_isParted u_held y1 h9 => key n0 ((M_isHeld, M_taped, M_token, M_from, M_to, M_value, M_isWrong, M_rowN, M_ran, M_actKind, M_actN, M_actA, M_isParted), u_held, y1) h9
  have hl := lv_entry ([.ref am]) (n := 2) (Nat.le_of_ble_eq_true rfl)
  rw [lg_entry_eq]
  generalize (lg_sl ([.ref am]) ++ List.replicate (2 - (lg_sl ([.ref am])).length) Slot.unset).toArray = ls at hl ⊢
  have hl : lv_has ls 2 [(0, .ref am)] := hl
  have hf : (lpF (fX7_keep_F2 n u_s ) n ((M_isHeld, M_taped, M_token, M_from, M_to, M_value, M_isWrong, M_rowN, M_ran, M_actKind, M_actN, M_actA, M_isParted), u_held, (0 : Int32))) = some z := hf
  refine lv_iconst (v := (0 : Int32)) hx hb dX7_keep_0 (by decide) ?_
  refine lv_istore_n (lv' := [(1, .int (0 : Int32)), (0, .ref am)]) hx hb dX7_keep_1 rfl hl (by decide) rfl (fun ls hl => ?_)
  exact hL2 n M_isHeld M_taped M_token M_from M_to M_value M_isWrong M_rowN M_ran M_actKind M_actN M_actA M_isParted u_held (0 : Int32) hf _ _ hP hD hS _ (lv_sub hl [1, 0] rfl)
set_option maxRecDepth 100000 in
set_option maxHeartbeats 100000000 in
theorem mX7_again (l : Launch) (D : va_G) (cy : Nat → ClassId) (st sk sv : Nat → Nat) (B : Nat) (am : Nat) (am0 : Nat) (am1 : Nat) (am2 : Nat) (am3 : Nat) (am4 : Nat) (am5 : Nat) (am6 : Nat) (am7 : Nat) (am8 : Nat) (am9 : Nat) (am10 : Nat) (am11 : Nat) (am12 : Nat) (sz : Nat) (n : Nat) (M_isHeld : Int32) (M_taped : Int32) (M_token : Int32) (M_from : Int32) (M_to : Int32) (M_value : Int32) (M_isWrong : Int32) (M_rowN : Int32) (M_ran : Int32) (M_actKind : Int32) (M_actN : Int32) (M_actA : Int32) (M_isParted : Int32) (u_s : (Nat → Int32)) (u_held : (Nat → Int32))  (z : Int32 × (Nat → Int32)) (hf : fX7_again n (M_isHeld, M_taped, M_token, M_from, M_to, M_value, M_isWrong, M_rowN, M_ran, M_actKind, M_actN, M_actA, M_isParted) u_s u_held = some z) : Met l yX7_again wsX7_again ({ frames := 0, cells := 0, slots := 0, locals := 0 }) (PcW [.ref am] D cy st sk sv B sz [(am, .inr (7, [.ref am0, .ref am1, .ref am2, .ref am3, .int M_isHeld, .ref am4, .int M_taped, .int M_token, .int M_from, .int M_to, .int M_value, .int M_isWrong, .ref am5, .int M_rowN, .ref am6, .ref am7, .ref am8, .ref am9, .ref am10, .ref am11, .ref am12, .int M_ran, .int M_actKind, .int M_actN, .int M_actA, .int M_isParted])), (am0, .inl (cy 0, 48, .inl u_s)), (am1, .inl (cy 0, 48, .inl u_held))]) (Qw (some (.int z.1)) D [(am, .inr (7, [.ref am0, .ref am1, .ref am2, .ref am3, .int M_isHeld, .ref am4, .int M_taped, .int M_token, .int M_from, .int M_to, .int M_value, .int M_isWrong, .ref am5, .int M_rowN, .ref am6, .ref am7, .ref am8, .ref am9, .ref am10, .ref am11, .ref am12, .int M_ran, .int M_actKind, .int M_actN, .int M_actA, .int M_isParted])), (am0, .inl (cy 0, 48, .inl z.2)), (am1, .inl (cy 0, 48, .inl u_held))] (va_A [(am, .inr (7, [.ref am0, .ref am1, .ref am2, .ref am3, .int M_isHeld, .ref am4, .int M_taped, .int M_token, .int M_from, .int M_to, .int M_value, .int M_isWrong, .ref am5, .int M_rowN, .ref am6, .ref am7, .ref am8, .ref am9, .ref am10, .ref am11, .ref am12, .int M_ran, .int M_actKind, .int M_actN, .int M_actA, .int M_isParted])), (am0, .inl (cy 0, 48, .inl u_s)), (am1, .inl (cy 0, 48, .inl u_held))] sz)) 0 0 (va_A [(am, .inr (7, [.ref am0, .ref am1, .ref am2, .ref am3, .int M_isHeld, .ref am4, .int M_taped, .int M_token, .int M_from, .int M_to, .int M_value, .int M_isWrong, .ref am5, .int M_rowN, .ref am6, .ref am7, .ref am8, .ref am9, .ref am10, .ref am11, .ref am12, .int M_ran, .int M_actKind, .int M_actN, .int M_actA, .int M_isParted])), (am0, .inl (cy 0, 48, .inl u_s)), (am1, .inl (cy 0, 48, .inl u_held))] sz) := by
  refine Met.ofW (cc := cX7_again) (maxL := 2) (ret := (some .int)) (by decide) rfl ?_
  intro p e s m args below meth c s₁ Bd hml hv
  obtain ⟨rfl, hsz, hP, hD0, hBs, hG⟩ := hv
  have hx := Bd.exec
  have hb := Bd.bytes
  have hr := Bd.returns
  have hts := atoms_spec (ws := wsX7_again) Bd.pre
  have hown : s.vm.findClass RX7 = some m.cls := findClass_of_methodNamed Bd.named
  have hlocks := Bd.notSynchronized
  have hK := hG.1
  subst hsz
  have hD := hD0.self (sz := s.heap.size)
  have hAB0 := zA hD0 hBs
  generalize hAe : va_A [(am, .inr (7, [.ref am0, .ref am1, .ref am2, .ref am3, .int M_isHeld, .ref am4, .int M_taped, .int M_token, .int M_from, .int M_to, .int M_value, .int M_isWrong, .ref am5, .int M_rowN, .ref am6, .ref am7, .ref am8, .ref am9, .ref am10, .ref am11, .ref am12, .int M_ran, .int M_actKind, .int M_actN, .int M_actA, .int M_isParted])), (am0, .inl (cy 0, 48, .inl u_s)), (am1, .inl (cy 0, 48, .inl u_held))] s.heap.size = A at hD hAB0 ⊢
  have hA : ∀ q : Nat, s.heap.size ≤ q → A q := fun q h => by rw [← hAe]; exact Or.inr h
  have hAB : ∀ q, A q → B ≤ q := hAB0
  have hS : va_S A s.heap s.heap [] := va_S.rf
  have hfin : ∀ (z0 : Int32) (u_s : (Nat → Int32)), some (z0, u_s) = some z → ∀ (H : Heap) (t : State), t.heap = H → va_P D vwCl [(am, .inr (7, [.ref am0, .ref am1, .ref am2, .ref am3, .int M_isHeld, .ref am4, .int M_taped, .int M_token, .int M_from, .int M_to, .int M_value, .int M_isWrong, .ref am5, .int M_rowN, .ref am6, .ref am7, .ref am8, .ref am9, .ref am10, .ref am11, .ref am12, .int M_ran, .int M_actKind, .int M_actN, .int M_actA, .int M_isParted])), (am0, .inl (cy 0, 48, .inl u_s)), (am1, .inl (cy 0, 48, .inl u_held))] H → va_F A s t → Qw (some (.int z.1)) D [(am, .inr (7, [.ref am0, .ref am1, .ref am2, .ref am3, .int M_isHeld, .ref am4, .int M_taped, .int M_token, .int M_from, .int M_to, .int M_value, .int M_isWrong, .ref am5, .int M_rowN, .ref am6, .ref am7, .ref am8, .ref am9, .ref am10, .ref am11, .ref am12, .int M_ran, .int M_actKind, .int M_actN, .int M_actA, .int M_isParted])), (am0, .inl (cy 0, 48, .inl z.2)), (am1, .inl (cy 0, 48, .inl u_held))] A ([.ref am] : List Value).toArray s (.returned (some (.int z0))) t := by
    intro z0 u_s h9 H t ht hP hF
    cases h9
    exact ⟨rfl, by rw [ht]; exact hP, hF⟩
  have hin7 : ∀ w ∈ u_ws RX7 TX7 26, w ∈ wsX7_again := by decide +kernel
  have fl7 := hts (.fieldLink RX7 7 "KinCutleryModel" "s" "[I") (by decide +kernel)
  have fl13 := hts (.fieldLink RX7 13 "KinCutleryModel" "held" "[I") (by decide +kernel)
  have fl337 := hts (.fieldLink RX7 337 "KinCutleryModel" "isHeld" "Z") (by decide +kernel)
  have hL12 : ∀ (n0 : Nat) (u_s : (Nat → Int32)) (y1 : Int32), lpF (fX7_again_F12 n (M_isHeld, M_taped, M_token, M_from, M_to, M_value, M_isWrong, M_rowN, M_ran, M_actKind, M_actN, M_actA, M_isParted) u_held ) n0 (u_s, y1) = some z → ∀ (H : Heap) (locs : List Loc), va_P D vwCl [(am, .inr (7, [.ref am0, .ref am1, .ref am2, .ref am3, .int M_isHeld, .ref am4, .int M_taped, .int M_token, .int M_from, .int M_to, .int M_value, .int M_isWrong, .ref am5, .int M_rowN, .ref am6, .ref am7, .ref am8, .ref am9, .ref am10, .ref am11, .ref am12, .int M_ran, .int M_actKind, .int M_actN, .int M_actA, .int M_isParted])), (am0, .inl (cy 0, 48, .inl u_s)), (am1, .inl (cy 0, 48, .inl u_held))] H → va_D A [(am, .inr (7, [.ref am0, .ref am1, .ref am2, .ref am3, .int M_isHeld, .ref am4, .int M_taped, .int M_token, .int M_from, .int M_to, .int M_value, .int M_isWrong, .ref am5, .int M_rowN, .ref am6, .ref am7, .ref am8, .ref am9, .ref am10, .ref am11, .ref am12, .int M_ran, .int M_actKind, .int M_actN, .int M_actA, .int M_isParted])), (am0, .inl (cy 0, 48, .inl u_s)), (am1, .inl (cy 0, 48, .inl u_held))] → va_S A s.heap H locs → ∀ (ls : Array Slot), lv_has ls 2 [(0, .ref am), (1, .int y1)] → W p l e (headSpec wsX7_again ({ frames := 0, cells := 0, slots := 0, locals := 0 })).room s m ([.ref am] : List Value).toArray below meth c H locs 0 0 (MQ below (Qw (some (.int z.1)) D [(am, .inr (7, [.ref am0, .ref am1, .ref am2, .ref am3, .int M_isHeld, .ref am4, .int M_taped, .int M_token, .int M_from, .int M_to, .int M_value, .int M_isWrong, .ref am5, .int M_rowN, .ref am6, .ref am7, .ref am8, .ref am9, .ref am10, .ref am11, .ref am12, .int M_ran, .int M_actKind, .int M_actN, .int M_actA, .int M_isParted])), (am0, .inl (cy 0, 48, .inl z.2)), (am1, .inl (cy 0, 48, .inl u_held))] A) ([.ref am] : List Value).toArray s 0 0 A) (F0 m 12 ls []) := by
    have key : ∀ (n0 : Nat) (v12 : (Nat → Int32) × Int32), lpF (fX7_again_F12 n (M_isHeld, M_taped, M_token, M_from, M_to, M_value, M_isWrong, M_rowN, M_ran, M_actKind, M_actN, M_actA, M_isParted) u_held ) n0 v12 = some z → ∀ (H : Heap) (locs : List Loc), va_P D vwCl [(am, .inr (7, [.ref am0, .ref am1, .ref am2, .ref am3, .int M_isHeld, .ref am4, .int M_taped, .int M_token, .int M_from, .int M_to, .int M_value, .int M_isWrong, .ref am5, .int M_rowN, .ref am6, .ref am7, .ref am8, .ref am9, .ref am10, .ref am11, .ref am12, .int M_ran, .int M_actKind, .int M_actN, .int M_actA, .int M_isParted])), (am0, .inl (cy 0, 48, .inl v12.1)), (am1, .inl (cy 0, 48, .inl u_held))] H → va_D A [(am, .inr (7, [.ref am0, .ref am1, .ref am2, .ref am3, .int M_isHeld, .ref am4, .int M_taped, .int M_token, .int M_from, .int M_to, .int M_value, .int M_isWrong, .ref am5, .int M_rowN, .ref am6, .ref am7, .ref am8, .ref am9, .ref am10, .ref am11, .ref am12, .int M_ran, .int M_actKind, .int M_actN, .int M_actA, .int M_isParted])), (am0, .inl (cy 0, 48, .inl v12.1)), (am1, .inl (cy 0, 48, .inl u_held))] → va_S A s.heap H locs → ∀ (ls : Array Slot), lv_has ls 2 [(0, .ref am), (1, .int v12.2)] → W p l e (headSpec wsX7_again ({ frames := 0, cells := 0, slots := 0, locals := 0 })).room s m ([.ref am] : List Value).toArray below meth c H locs 0 0 (MQ below (Qw (some (.int z.1)) D [(am, .inr (7, [.ref am0, .ref am1, .ref am2, .ref am3, .int M_isHeld, .ref am4, .int M_taped, .int M_token, .int M_from, .int M_to, .int M_value, .int M_isWrong, .ref am5, .int M_rowN, .ref am6, .ref am7, .ref am8, .ref am9, .ref am10, .ref am11, .ref am12, .int M_ran, .int M_actKind, .int M_actN, .int M_actA, .int M_isParted])), (am0, .inl (cy 0, 48, .inl z.2)), (am1, .inl (cy 0, 48, .inl u_held))] A) ([.ref am] : List Value).toArray s 0 0 A) (F0 m 12 ls []) := by
      refine lpW ?_
      intro k12 hk120
      have hk12 : ∀ (u_s : (Nat → Int32)) (y1 : Int32), k12 (u_s, y1) = some z → ∀ (H : Heap) (locs : List Loc), va_P D vwCl [(am, .inr (7, [.ref am0, .ref am1, .ref am2, .ref am3, .int M_isHeld, .ref am4, .int M_taped, .int M_token, .int M_from, .int M_to, .int M_value, .int M_isWrong, .ref am5, .int M_rowN, .ref am6, .ref am7, .ref am8, .ref am9, .ref am10, .ref am11, .ref am12, .int M_ran, .int M_actKind, .int M_actN, .int M_actA, .int M_isParted])), (am0, .inl (cy 0, 48, .inl u_s)), (am1, .inl (cy 0, 48, .inl u_held))] H → va_D A [(am, .inr (7, [.ref am0, .ref am1, .ref am2, .ref am3, .int M_isHeld, .ref am4, .int M_taped, .int M_token, .int M_from, .int M_to, .int M_value, .int M_isWrong, .ref am5, .int M_rowN, .ref am6, .ref am7, .ref am8, .ref am9, .ref am10, .ref am11, .ref am12, .int M_ran, .int M_actKind, .int M_actN, .int M_actA, .int M_isParted])), (am0, .inl (cy 0, 48, .inl u_s)), (am1, .inl (cy 0, 48, .inl u_held))] → va_S A s.heap H locs → ∀ (ls : Array Slot), lv_has ls 2 [(0, .ref am), (1, .int y1)] → W p l e (headSpec wsX7_again ({ frames := 0, cells := 0, slots := 0, locals := 0 })).room s m ([.ref am] : List Value).toArray below meth c H locs 0 0 (MQ below (Qw (some (.int z.1)) D [(am, .inr (7, [.ref am0, .ref am1, .ref am2, .ref am3, .int M_isHeld, .ref am4, .int M_taped, .int M_token, .int M_from, .int M_to, .int M_value, .int M_isWrong, .ref am5, .int M_rowN, .ref am6, .ref am7, .ref am8, .ref am9, .ref am10, .ref am11, .ref am12, .int M_ran, .int M_actKind, .int M_actN, .int M_actA, .int M_isParted])), (am0, .inl (cy 0, 48, .inl z.2)), (am1, .inl (cy 0, 48, .inl u_held))] A) ([.ref am] : List Value).toArray s 0 0 A) (F0 m 12 ls []) := fun u_s y1 h9 => hk120 (u_s, y1) h9
      have hstep : ∀ (u_s : (Nat → Int32)) (y1 : Int32), fX7_again_F12 n (M_isHeld, M_taped, M_token, M_from, M_to, M_value, M_isWrong, M_rowN, M_ran, M_actKind, M_actN, M_actA, M_isParted) u_held  k12 (u_s, y1) = some z → ∀ (H : Heap) (locs : List Loc), va_P D vwCl [(am, .inr (7, [.ref am0, .ref am1, .ref am2, .ref am3, .int M_isHeld, .ref am4, .int M_taped, .int M_token, .int M_from, .int M_to, .int M_value, .int M_isWrong, .ref am5, .int M_rowN, .ref am6, .ref am7, .ref am8, .ref am9, .ref am10, .ref am11, .ref am12, .int M_ran, .int M_actKind, .int M_actN, .int M_actA, .int M_isParted])), (am0, .inl (cy 0, 48, .inl u_s)), (am1, .inl (cy 0, 48, .inl u_held))] H → va_D A [(am, .inr (7, [.ref am0, .ref am1, .ref am2, .ref am3, .int M_isHeld, .ref am4, .int M_taped, .int M_token, .int M_from, .int M_to, .int M_value, .int M_isWrong, .ref am5, .int M_rowN, .ref am6, .ref am7, .ref am8, .ref am9, .ref am10, .ref am11, .ref am12, .int M_ran, .int M_actKind, .int M_actN, .int M_actA, .int M_isParted])), (am0, .inl (cy 0, 48, .inl u_s)), (am1, .inl (cy 0, 48, .inl u_held))] → va_S A s.heap H locs → ∀ (ls : Array Slot), lv_has ls 2 [(0, .ref am), (1, .int y1)] → W p l e (headSpec wsX7_again ({ frames := 0, cells := 0, slots := 0, locals := 0 })).room s m ([.ref am] : List Value).toArray below meth c H locs 0 0 (MQ below (Qw (some (.int z.1)) D [(am, .inr (7, [.ref am0, .ref am1, .ref am2, .ref am3, .int M_isHeld, .ref am4, .int M_taped, .int M_token, .int M_from, .int M_to, .int M_value, .int M_isWrong, .ref am5, .int M_rowN, .ref am6, .ref am7, .ref am8, .ref am9, .ref am10, .ref am11, .ref am12, .int M_ran, .int M_actKind, .int M_actN, .int M_actA, .int M_isParted])), (am0, .inl (cy 0, 48, .inl z.2)), (am1, .inl (cy 0, 48, .inl u_held))] A) ([.ref am] : List Value).toArray s 0 0 A) (F0 m 12 ls []) := by
        intro u_s y1 hf H locs hP hD hS ls hl
        have hf : (if (48 : Int32) ≤ y1 then (some ((u_s (0 : Int32).toNatClampNeg), u_s)) else (if y1 < 0 ∨ 48 ≤ y1.toNatClampNeg then none else if y1 < 0 ∨ 48 ≤ y1.toNatClampNeg then none else k12 ((upd u_s y1.toNatClampNeg (u_held y1.toNatClampNeg)), (y1 + (1 : Int32))))) = some z := hf
        refine lv_iload_n hx hb dX7_again_12 rfl (lv_at hl 1 rfl) ?_
        refine lv_bipush (v := (48 : Int32)) hx hb dX7_again_13 (by decide) ?_
        refine lv_icmp_ge (tgt := 36) hx hb dX7_again_15 (by decide) (fun c_15 => ?_) (fun c_15 => ?_)
        · have hf := zp hf c_15
          refine lv_aload_n hx hb dX7_again_36 rfl (lv_at hl 0 rfl) ?_
          refine va_get (D := D) (ci := 7) (v := .ref am0) (C := RX7) (T := TX7) (N := 26) hx hb hts hin7 hown hK hP 0 rfl rfl 0 (by decide) fl7 (fun _ h9 => h9) rfl dX7_again_37 ?_
          refine lv_iconst (v := (0 : Int32)) hx hb dX7_again_40 (by decide) ?_
          refine va_iald hx hb hK hP 1 0 rfl rfl vi_0_48 dX7_again_41 ?_
          exact W.iret hx hb hr (fun t ht hW => hfin (u_s (0 : Int32).toNatClampNeg) u_s hf _ t ht hP (hS.F ht)) hS.2.2 dX7_again_42
        · have hf := zn hf c_15
          refine lv_aload_n hx hb dX7_again_18 rfl (lv_at hl 0 rfl) ?_
          refine va_get (D := D) (ci := 7) (v := .ref am0) (C := RX7) (T := TX7) (N := 26) hx hb hts hin7 hown hK hP 0 rfl rfl 0 (by decide) fl7 (fun _ h9 => h9) rfl dX7_again_19 ?_
          refine lv_iload_n hx hb dX7_again_22 rfl (lv_at hl 1 rfl) ?_
          refine lv_aload_n hx hb dX7_again_23 rfl (lv_at hl 0 rfl) ?_
          refine va_get (D := D) (ci := 7) (v := .ref am1) (C := RX7) (T := TX7) (N := 26) hx hb hts hin7 hown hK hP 0 rfl rfl 1 (by decide) fl13 (fun _ h9 => h9) rfl dX7_again_24 ?_
          refine lv_iload_n hx hb dX7_again_27 rfl (lv_at hl 1 rfl) ?_
          obtain ⟨h_28, hf⟩ := zg hf
          refine va_iald hx hb hK hP 2 0 rfl rfl h_28 dX7_again_28 ?_
          obtain ⟨h_29, hf⟩ := zg hf
          refine va_iast hx hb hK hP hD hS 1 0 rfl rfl h_29 dX7_again_29 (fun H locs hP hD hS => ?_)
          have hP : va_P D vwCl [(am, .inr (7, [.ref am0, .ref am1, .ref am2, .ref am3, .int M_isHeld, .ref am4, .int M_taped, .int M_token, .int M_from, .int M_to, .int M_value, .int M_isWrong, .ref am5, .int M_rowN, .ref am6, .ref am7, .ref am8, .ref am9, .ref am10, .ref am11, .ref am12, .int M_ran, .int M_actKind, .int M_actN, .int M_actA, .int M_isParted])), (am0, .inl (cy 0, 48, .inl (upd u_s y1.toNatClampNeg (u_held y1.toNatClampNeg)))), (am1, .inl (cy 0, 48, .inl u_held))] H := hP
          have hD : va_D A [(am, .inr (7, [.ref am0, .ref am1, .ref am2, .ref am3, .int M_isHeld, .ref am4, .int M_taped, .int M_token, .int M_from, .int M_to, .int M_value, .int M_isWrong, .ref am5, .int M_rowN, .ref am6, .ref am7, .ref am8, .ref am9, .ref am10, .ref am11, .ref am12, .int M_ran, .int M_actKind, .int M_actN, .int M_actA, .int M_isParted])), (am0, .inl (cy 0, 48, .inl (upd u_s y1.toNatClampNeg (u_held y1.toNatClampNeg)))), (am1, .inl (cy 0, 48, .inl u_held))] := hD
          refine lv_iinc (v := (y1 + (1 : Int32))) (lv' := [(1, .int (y1 + (1 : Int32))), (0, .ref am)]) hx hb dX7_again_30 hl (k := 1) rfl rfl (by decide) rfl (fun ls hl => ?_)
          refine lv_goto (tgt := 12) hx hb dX7_again_33 (by decide) ?_
          exact hk12 (upd u_s y1.toNatClampNeg (u_held y1.toNatClampNeg)) (y1 + (1 : Int32)) hf _ _ hP hD hS _ (lv_sub hl [1, 0] rfl)
      exact fun v12 h9 => hstep v12.1 v12.2 h9
    exact fun n0 u_s y1 h9 => key n0 (u_s, y1) h9
  have hl := lv_entry ([.ref am]) (n := 2) (Nat.le_of_ble_eq_true rfl)
  rw [lg_entry_eq]
  generalize (lg_sl ([.ref am]) ++ List.replicate (2 - (lg_sl ([.ref am])).length) Slot.unset).toArray = ls at hl ⊢
  have hl : lv_has ls 2 [(0, .ref am)] := hl
  have hf : (if M_isHeld = 0 then (some ((-3 : Int32), u_s)) else (lpF (fX7_again_F12 n (M_isHeld, M_taped, M_token, M_from, M_to, M_value, M_isWrong, M_rowN, M_ran, M_actKind, M_actN, M_actA, M_isParted) u_held ) n (u_s, (0 : Int32)))) = some z := hf
  refine lv_aload_n hx hb dX7_again_0 rfl (lv_at hl 0 rfl) ?_
  refine va_get (D := D) (ci := 7) (v := .int M_isHeld) (C := RX7) (T := TX7) (N := 26) hx hb hts hin7 hown hK hP 0 rfl rfl 4 (by decide) fl337 (fun _ h9 => h9) rfl dX7_again_1 ?_
  refine lv_if_ne (tgt := 10) hx hb dX7_again_4 (by decide) (fun c_4 => ?_) (fun c_4 => ?_)
  · have hf := zn hf c_4
    refine lv_iconst (v := (0 : Int32)) hx hb dX7_again_10 (by decide) ?_
    refine lv_istore_n (lv' := [(1, .int (0 : Int32)), (0, .ref am)]) hx hb dX7_again_11 rfl hl (by decide) rfl (fun ls hl => ?_)
    exact hL12 n u_s (0 : Int32) hf _ _ hP hD hS _ (lv_sub hl [1, 0] rfl)
  · have hf := zp hf c_4
    refine lv_bipush (v := (-3 : Int32)) hx hb dX7_again_7 (by decide) ?_
    exact W.iret hx hb hr (fun t ht hW => hfin (-3 : Int32) u_s hf _ t ht hP (hS.F ht)) hS.2.2 dX7_again_9
set_option maxRecDepth 100000 in
set_option maxHeartbeats 100000000 in
theorem mX3_begin (l : Launch) (D : va_G) (cy : Nat → ClassId) (st sk sv : Nat → Nat) (B : Nat) (ag0 : Nat) (ag1 : Nat) (sz : Nat) (n : Nat) (G_bodies : (Nat → Int32)) (G_traced : Int32) (G_kind : Int32) (G_n : Int32) (G_a : Int32) (G_broken : Int32) (x1 : Int32) (z : SG) (hf : fX3_begin n (G_bodies, G_traced, G_kind, G_n, G_a, G_broken) x1 = some z) : Met l yX3_begin wsX3_begin ({ frames := 0, cells := 0, slots := 0, locals := 0 }) (PcW [.ref ag0, .int x1] D cy st sk sv B sz [(ag0, .inr (3, [.ref ag1, .int G_traced, .int G_kind, .int G_n, .int G_a, .int G_broken])), (ag1, .inl (cy 0, 30, .inl G_bodies))]) (Qw (none) D [(ag0, .inr (3, [.ref ag1, .int z.2.1, .int z.2.2.1, .int z.2.2.2.1, .int z.2.2.2.2.1, .int z.2.2.2.2.2])), (ag1, .inl (cy 0, 30, .inl z.1))] (va_A [(ag0, .inr (3, [.ref ag1, .int G_traced, .int G_kind, .int G_n, .int G_a, .int G_broken])), (ag1, .inl (cy 0, 30, .inl G_bodies))] sz)) 0 0 (va_A [(ag0, .inr (3, [.ref ag1, .int G_traced, .int G_kind, .int G_n, .int G_a, .int G_broken])), (ag1, .inl (cy 0, 30, .inl G_bodies))] sz) := by
  refine Met.ofW (cc := cX3_begin) (maxL := 2) (ret := none) (by decide) rfl ?_
  intro p e s m args below meth c s₁ Bd hml hv
  obtain ⟨rfl, hsz, hP, hD0, hBs, hG⟩ := hv
  have hx := Bd.exec
  have hb := Bd.bytes
  have hr := Bd.returns
  have hts := atoms_spec (ws := wsX3_begin) Bd.pre
  have hown : s.vm.findClass RX3 = some m.cls := findClass_of_methodNamed Bd.named
  have hlocks := Bd.notSynchronized
  have hK := hG.1
  subst hsz
  have hD := hD0.self (sz := s.heap.size)
  have hAB0 := zA hD0 hBs
  generalize hAe : va_A [(ag0, .inr (3, [.ref ag1, .int G_traced, .int G_kind, .int G_n, .int G_a, .int G_broken])), (ag1, .inl (cy 0, 30, .inl G_bodies))] s.heap.size = A at hD hAB0 ⊢
  have hA : ∀ q : Nat, s.heap.size ≤ q → A q := fun q h => by rw [← hAe]; exact Or.inr h
  have hAB : ∀ q, A q → B ≤ q := hAB0
  have hS : va_S A s.heap s.heap [] := va_S.rf
  have hfin : ∀ (G_bodies : (Nat → Int32)) (G_traced : Int32) (G_kind : Int32) (G_n : Int32) (G_a : Int32) (G_broken : Int32), some (G_bodies, G_traced, G_kind, G_n, G_a, G_broken) = some z → ∀ (H : Heap) (t : State), t.heap = H → va_P D vwCl [(ag0, .inr (3, [.ref ag1, .int G_traced, .int G_kind, .int G_n, .int G_a, .int G_broken])), (ag1, .inl (cy 0, 30, .inl G_bodies))] H → va_F A s t → Qw (none) D [(ag0, .inr (3, [.ref ag1, .int z.2.1, .int z.2.2.1, .int z.2.2.2.1, .int z.2.2.2.2.1, .int z.2.2.2.2.2])), (ag1, .inl (cy 0, 30, .inl z.1))] A ([.ref ag0, .int x1] : List Value).toArray s (.returned (none)) t := by
    intro G_bodies G_traced G_kind G_n G_a G_broken h9 H t ht hP hF
    cases h9
    exact ⟨rfl, by rw [ht]; exact hP, hF⟩
  have hin3 : ∀ w ∈ u_ws RX3 TX3 6, w ∈ wsX3_begin := by decide +kernel
  have fl9 := hts (.fieldLink RX3 9 "KinCutlery$Stage" "bodies" "[I") (by decide +kernel)
  have fl15 := hts (.fieldLink RX3 15 "KinCutlery$Stage" "traced" "I") (by decide +kernel)
  have hl := lv_entry ([.ref ag0, .int x1]) (n := 2) (Nat.le_of_ble_eq_true rfl)
  rw [lg_entry_eq]
  generalize (lg_sl ([.ref ag0, .int x1]) ++ List.replicate (2 - (lg_sl ([.ref ag0, .int x1])).length) Slot.unset).toArray = ls at hl ⊢
  have hl : lv_has ls 2 [(0, .ref ag0), (1, .int x1)] := hl
  have hf : (if (30 : Int32) ≤ G_traced then (some (G_bodies, G_traced, G_kind, G_n, G_a, G_broken)) else (if G_traced < 0 ∨ 30 ≤ G_traced.toNatClampNeg then none else some ((upd G_bodies G_traced.toNatClampNeg x1), (G_traced + (1 : Int32)), G_kind, G_n, G_a, G_broken))) = some z := hf
  refine lv_aload_n hx hb dX3_begin_0 rfl (lv_at hl 0 rfl) ?_
  refine va_get (D := D) (ci := 3) (v := .int G_traced) (C := RX3) (T := TX3) (N := 6) hx hb hts hin3 hown hK hP 0 rfl rfl 1 (by decide) fl15 (fun _ h9 => h9) rfl dX3_begin_1 ?_
  refine lv_bipush (v := (30 : Int32)) hx hb dX3_begin_4 (by decide) ?_
  refine lv_icmp_ge (tgt := 29) hx hb dX3_begin_6 (by decide) (fun c_6 => ?_) (fun c_6 => ?_)
  · have hf := zp hf c_6
    exact W.vret hx hb hr (fun t ht hW => hfin G_bodies G_traced G_kind G_n G_a G_broken hf _ t ht hP (hS.F ht)) hS.2.2 dX3_begin_29
  · have hf := zn hf c_6
    refine lv_aload_n hx hb dX3_begin_9 rfl (lv_at hl 0 rfl) ?_
    refine va_get (D := D) (ci := 3) (v := .ref ag1) (C := RX3) (T := TX3) (N := 6) hx hb hts hin3 hown hK hP 0 rfl rfl 0 (by decide) fl9 (fun _ h9 => h9) rfl dX3_begin_10 ?_
    refine lv_aload_n hx hb dX3_begin_13 rfl (lv_at hl 0 rfl) ?_
    refine va_get (D := D) (ci := 3) (v := .int G_traced) (C := RX3) (T := TX3) (N := 6) hx hb hts hin3 hown hK hP 0 rfl rfl 1 (by decide) fl15 (fun _ h9 => h9) rfl dX3_begin_14 ?_
    refine lv_iload_n hx hb dX3_begin_17 rfl (lv_at hl 1 rfl) ?_
    obtain ⟨h_18, hf⟩ := zg hf
    refine va_iast hx hb hK hP hD hS 1 0 rfl rfl h_18 dX3_begin_18 (fun H locs hP hD hS => ?_)
    have hP : va_P D vwCl [(ag0, .inr (3, [.ref ag1, .int G_traced, .int G_kind, .int G_n, .int G_a, .int G_broken])), (ag1, .inl (cy 0, 30, .inl (upd G_bodies G_traced.toNatClampNeg x1)))] H := hP
    have hD : va_D A [(ag0, .inr (3, [.ref ag1, .int G_traced, .int G_kind, .int G_n, .int G_a, .int G_broken])), (ag1, .inl (cy 0, 30, .inl (upd G_bodies G_traced.toNatClampNeg x1)))] := hD
    refine lv_aload_n hx hb dX3_begin_19 rfl (lv_at hl 0 rfl) ?_
    refine lv_dup hx hb dX3_begin_20 rfl ?_
    refine va_get (D := D) (ci := 3) (v := .int G_traced) (C := RX3) (T := TX3) (N := 6) hx hb hts hin3 hown hK hP 0 rfl rfl 1 (by decide) fl15 (fun _ h9 => h9) rfl dX3_begin_21 ?_
    refine lv_iconst (v := (1 : Int32)) hx hb dX3_begin_24 (by decide) ?_
    refine lv_iadd hx hb dX3_begin_25 ?_
    refine va_put (D := D) (ci := 3) (v := .int (G_traced + (1 : Int32))) (ty := .int) (C := RX3) (T := TX3) (N := 6) hx hb hts hin3 tyX3 tyX3_ok nmX3 hown hK hP hD hS 0 rfl rfl 1 (by decide) fl15 (fun _ h9 => h9) rfl (by decide +kernel) rfl rfl (Nat.le_of_ble_eq_true rfl) dX3_begin_26 (fun H locs hP hD hS => ?_)
    have hP : va_P D vwCl [(ag0, .inr (3, [.ref ag1, .int (G_traced + (1 : Int32)), .int G_kind, .int G_n, .int G_a, .int G_broken])), (ag1, .inl (cy 0, 30, .inl (upd G_bodies G_traced.toNatClampNeg x1)))] H := hP
    have hD : va_D A [(ag0, .inr (3, [.ref ag1, .int (G_traced + (1 : Int32)), .int G_kind, .int G_n, .int G_a, .int G_broken])), (ag1, .inl (cy 0, 30, .inl (upd G_bodies G_traced.toNatClampNeg x1)))] := hD
    exact W.vret hx hb hr (fun t ht hW => hfin (upd G_bodies G_traced.toNatClampNeg x1) (G_traced + (1 : Int32)) G_kind G_n G_a G_broken hf _ t ht hP (hS.F ht)) hS.2.2 dX3_begin_29
set_option maxRecDepth 100000 in
set_option maxHeartbeats 100000000 in
theorem mX3_parted (l : Launch) (D : va_G) (cy : Nat → ClassId) (st sk sv : Nat → Nat) (B : Nat) (ag0 : Nat) (ag1 : Nat) (sz : Nat) (n : Nat) (G_bodies : (Nat → Int32)) (G_traced : Int32) (G_kind : Int32) (G_n : Int32) (G_a : Int32) (G_broken : Int32) (x1 : Int32) (z : Int32 × SG) (hf : fX3_parted n (G_bodies, G_traced, G_kind, G_n, G_a, G_broken) x1 = some z) : Met l yX3_parted wsX3_parted ({ frames := 0, cells := 0, slots := 0, locals := 0 }) (PcW [.ref ag0, .int x1] D cy st sk sv B sz [(ag0, .inr (3, [.ref ag1, .int G_traced, .int G_kind, .int G_n, .int G_a, .int G_broken])), (ag1, .inl (cy 0, 30, .inl G_bodies))]) (Qw (some (.int z.1)) D [(ag0, .inr (3, [.ref ag1, .int z.2.2.1, .int z.2.2.2.1, .int z.2.2.2.2.1, .int z.2.2.2.2.2.1, .int z.2.2.2.2.2.2])), (ag1, .inl (cy 0, 30, .inl z.2.1))] (va_A [(ag0, .inr (3, [.ref ag1, .int G_traced, .int G_kind, .int G_n, .int G_a, .int G_broken])), (ag1, .inl (cy 0, 30, .inl G_bodies))] sz)) 0 0 (va_A [(ag0, .inr (3, [.ref ag1, .int G_traced, .int G_kind, .int G_n, .int G_a, .int G_broken])), (ag1, .inl (cy 0, 30, .inl G_bodies))] sz) := by
  refine Met.ofW (cc := cX3_parted) (maxL := 2) (ret := (some .int)) (by decide) rfl ?_
  intro p e s m args below meth c s₁ Bd hml hv
  obtain ⟨rfl, hsz, hP, hD0, hBs, hG⟩ := hv
  have hx := Bd.exec
  have hb := Bd.bytes
  have hr := Bd.returns
  have hts := atoms_spec (ws := wsX3_parted) Bd.pre
  have hown : s.vm.findClass RX3 = some m.cls := findClass_of_methodNamed Bd.named
  have hlocks := Bd.notSynchronized
  have hK := hG.1
  subst hsz
  have hD := hD0.self (sz := s.heap.size)
  have hAB0 := zA hD0 hBs
  generalize hAe : va_A [(ag0, .inr (3, [.ref ag1, .int G_traced, .int G_kind, .int G_n, .int G_a, .int G_broken])), (ag1, .inl (cy 0, 30, .inl G_bodies))] s.heap.size = A at hD hAB0 ⊢
  have hA : ∀ q : Nat, s.heap.size ≤ q → A q := fun q h => by rw [← hAe]; exact Or.inr h
  have hAB : ∀ q, A q → B ≤ q := hAB0
  have hS : va_S A s.heap s.heap [] := va_S.rf
  have hfin : ∀ (z0 : Int32) (G_bodies : (Nat → Int32)) (G_traced : Int32) (G_kind : Int32) (G_n : Int32) (G_a : Int32) (G_broken : Int32), some (z0, (G_bodies, G_traced, G_kind, G_n, G_a, G_broken)) = some z → ∀ (H : Heap) (t : State), t.heap = H → va_P D vwCl [(ag0, .inr (3, [.ref ag1, .int G_traced, .int G_kind, .int G_n, .int G_a, .int G_broken])), (ag1, .inl (cy 0, 30, .inl G_bodies))] H → va_F A s t → Qw (some (.int z.1)) D [(ag0, .inr (3, [.ref ag1, .int z.2.2.1, .int z.2.2.2.1, .int z.2.2.2.2.1, .int z.2.2.2.2.2.1, .int z.2.2.2.2.2.2])), (ag1, .inl (cy 0, 30, .inl z.2.1))] A ([.ref ag0, .int x1] : List Value).toArray s (.returned (some (.int z0))) t := by
    intro z0 G_bodies G_traced G_kind G_n G_a G_broken h9 H t ht hP hF
    cases h9
    exact ⟨rfl, by rw [ht]; exact hP, hF⟩
  have hin3 : ∀ w ∈ u_ws RX3 TX3 6, w ∈ wsX3_parted := by decide +kernel
  have fl19 := hts (.fieldLink RX3 19 "KinCutlery$Stage" "broken" "Z") (by decide +kernel)
  have fl26 := hts (.fieldLink RX3 26 "KinCutlery$Stage" "n" "I") (by decide +kernel)
  have fl29 := hts (.fieldLink RX3 29 "KinCutlery$Stage" "a" "I") (by decide +kernel)
  have hl := lv_entry ([.ref ag0, .int x1]) (n := 2) (Nat.le_of_ble_eq_true rfl)
  rw [lg_entry_eq]
  generalize (lg_sl ([.ref ag0, .int x1]) ++ List.replicate (2 - (lg_sl ([.ref ag0, .int x1])).length) Slot.unset).toArray = ls at hl ⊢
  have hl : lv_has ls 2 [(0, .ref ag0), (1, .int x1)] := hl
  have hf : (if G_a = G_n then (some ((0 : Int32), (G_bodies, G_traced, G_kind, G_n, G_a, (1 : Int32)))) else (if (G_a - G_n) = 0 then none else some ((x1 / (G_a - G_n)), (G_bodies, G_traced, G_kind, G_n, G_a, G_broken)))) = some z := hf
  refine lv_aload_n hx hb dX3_parted_0 rfl (lv_at hl 0 rfl) ?_
  refine va_get (D := D) (ci := 3) (v := .int G_a) (C := RX3) (T := TX3) (N := 6) hx hb hts hin3 hown hK hP 0 rfl rfl 4 (by decide) fl29 (fun _ h9 => h9) rfl dX3_parted_1 ?_
  refine lv_aload_n hx hb dX3_parted_4 rfl (lv_at hl 0 rfl) ?_
  refine va_get (D := D) (ci := 3) (v := .int G_n) (C := RX3) (T := TX3) (N := 6) hx hb hts hin3 hown hK hP 0 rfl rfl 3 (by decide) fl26 (fun _ h9 => h9) rfl dX3_parted_5 ?_
  refine lv_icmp_ne (tgt := 18) hx hb dX3_parted_8 (by decide) (fun c_8 => ?_) (fun c_8 => ?_)
  · have hf := zn hf c_8
    refine lv_iload_n hx hb dX3_parted_18 rfl (lv_at hl 1 rfl) ?_
    refine lv_aload_n hx hb dX3_parted_19 rfl (lv_at hl 0 rfl) ?_
    refine va_get (D := D) (ci := 3) (v := .int G_a) (C := RX3) (T := TX3) (N := 6) hx hb hts hin3 hown hK hP 0 rfl rfl 4 (by decide) fl29 (fun _ h9 => h9) rfl dX3_parted_20 ?_
    refine lv_aload_n hx hb dX3_parted_23 rfl (lv_at hl 0 rfl) ?_
    refine va_get (D := D) (ci := 3) (v := .int G_n) (C := RX3) (T := TX3) (N := 6) hx hb hts hin3 hown hK hP 0 rfl rfl 3 (by decide) fl26 (fun _ h9 => h9) rfl dX3_parted_24 ?_
    refine lv_isub hx hb dX3_parted_27 ?_
    obtain ⟨h_28, hf⟩ := zg hf
    refine lv_idiv hx hb dX3_parted_28 h_28 ?_
    exact W.iret hx hb hr (fun t ht hW => hfin (x1 / (G_a - G_n)) G_bodies G_traced G_kind G_n G_a G_broken hf _ t ht hP (hS.F ht)) hS.2.2 dX3_parted_29
  · have hf := zp hf c_8
    refine lv_aload_n hx hb dX3_parted_11 rfl (lv_at hl 0 rfl) ?_
    refine lv_iconst (v := (1 : Int32)) hx hb dX3_parted_12 (by decide) ?_
    refine va_put (D := D) (ci := 3) (v := .int (1 : Int32)) (ty := .boolean) (C := RX3) (T := TX3) (N := 6) hx hb hts hin3 tyX3 tyX3_ok nmX3 hown hK hP hD hS 0 rfl rfl 5 (by decide) fl19 (fun _ h9 => h9) rfl (by decide +kernel) rfl rfl (Nat.le_of_ble_eq_true rfl) dX3_parted_13 (fun H locs hP hD hS => ?_)
    have hP : va_P D vwCl [(ag0, .inr (3, [.ref ag1, .int G_traced, .int G_kind, .int G_n, .int G_a, .int (1 : Int32)])), (ag1, .inl (cy 0, 30, .inl G_bodies))] H := hP
    have hD : va_D A [(ag0, .inr (3, [.ref ag1, .int G_traced, .int G_kind, .int G_n, .int G_a, .int (1 : Int32)])), (ag1, .inl (cy 0, 30, .inl G_bodies))] := hD
    refine lv_iconst (v := (0 : Int32)) hx hb dX3_parted_16 (by decide) ?_
    exact W.iret hx hb hr (fun t ht hW => hfin (0 : Int32) G_bodies G_traced G_kind G_n G_a (1 : Int32) hf _ t ht hP (hS.F ht)) hS.2.2 dX3_parted_17
