set_option maxRecDepth 100000 in
set_option maxHeartbeats 100000000 in
theorem mX7_goesOnMany (l : Launch) (D : va_G) (cy : Nat → ClassId) (st sk sv : Nat → Nat) (B : Nat) (am : Nat) (am0 : Nat) (am1 : Nat) (am2 : Nat) (am3 : Nat) (am4 : Nat) (am5 : Nat) (am6 : Nat) (am7 : Nat) (am8 : Nat) (am9 : Nat) (am10 : Nat) (am11 : Nat) (am12 : Nat) (sz : Nat) (n : Nat) (M_isHeld : Int32) (M_taped : Int32) (M_token : Int32) (M_from : Int32) (M_to : Int32) (M_value : Int32) (M_isWrong : Int32) (M_rowN : Int32) (M_ran : Int32) (M_actKind : Int32) (M_actN : Int32) (M_actA : Int32) (M_isParted : Int32) (u_s : (Nat → Int32)) (x1 : Int32) (z : (Nat → Int32)) (hf : fX7_goesOnMany n (M_isHeld, M_taped, M_token, M_from, M_to, M_value, M_isWrong, M_rowN, M_ran, M_actKind, M_actN, M_actA, M_isParted) u_s x1 = some z) : Met l yX7_goesOnMany wsX7_goesOnMany ({ frames := 4, cells := 0, slots := 0, locals := 88 }) (PcW [.ref am, .int x1] D cy st sk sv B sz [(am, .inr (7, [.ref am0, .ref am1, .ref am2, .ref am3, .int M_isHeld, .ref am4, .int M_taped, .int M_token, .int M_from, .int M_to, .int M_value, .int M_isWrong, .ref am5, .int M_rowN, .ref am6, .ref am7, .ref am8, .ref am9, .ref am10, .ref am11, .ref am12, .int M_ran, .int M_actKind, .int M_actN, .int M_actA, .int M_isParted])), (am0, .inl (cy 0, 48, .inl u_s))]) (Qw (none) D [(am, .inr (7, [.ref am0, .ref am1, .ref am2, .ref am3, .int M_isHeld, .ref am4, .int M_taped, .int M_token, .int M_from, .int M_to, .int M_value, .int M_isWrong, .ref am5, .int M_rowN, .ref am6, .ref am7, .ref am8, .ref am9, .ref am10, .ref am11, .ref am12, .int M_ran, .int M_actKind, .int M_actN, .int M_actA, .int M_isParted])), (am0, .inl (cy 0, 48, .inl z))] (va_A [(am, .inr (7, [.ref am0, .ref am1, .ref am2, .ref am3, .int M_isHeld, .ref am4, .int M_taped, .int M_token, .int M_from, .int M_to, .int M_value, .int M_isWrong, .ref am5, .int M_rowN, .ref am6, .ref am7, .ref am8, .ref am9, .ref am10, .ref am11, .ref am12, .int M_ran, .int M_actKind, .int M_actN, .int M_actA, .int M_isParted])), (am0, .inl (cy 0, 48, .inl u_s))] sz)) 0 0 (va_A [(am, .inr (7, [.ref am0, .ref am1, .ref am2, .ref am3, .int M_isHeld, .ref am4, .int M_taped, .int M_token, .int M_from, .int M_to, .int M_value, .int M_isWrong, .ref am5, .int M_rowN, .ref am6, .ref am7, .ref am8, .ref am9, .ref am10, .ref am11, .ref am12, .int M_ran, .int M_actKind, .int M_actN, .int M_actA, .int M_isParted])), (am0, .inl (cy 0, 48, .inl u_s))] sz) := by
  refine Met.ofW (cc := cX7_goesOnMany) (maxL := 3) (ret := none) (by decide) rfl ?_
  intro p e s m args below meth c s₁ Bd hml hv
  obtain ⟨rfl, hsz, hP, hD0, hBs, hG⟩ := hv
  have hx := Bd.exec
  have hb := Bd.bytes
  have hr := Bd.returns
  have hts := atoms_spec (ws := wsX7_goesOnMany) Bd.pre
  have hown : s.vm.findClass RX7 = some m.cls := findClass_of_methodNamed Bd.named
  have hlocks := Bd.notSynchronized
  have hK := hG.1
  subst hsz
  have hD := hD0.self (sz := s.heap.size)
  have hAB0 := zA hD0 hBs
  generalize hAe : va_A [(am, .inr (7, [.ref am0, .ref am1, .ref am2, .ref am3, .int M_isHeld, .ref am4, .int M_taped, .int M_token, .int M_from, .int M_to, .int M_value, .int M_isWrong, .ref am5, .int M_rowN, .ref am6, .ref am7, .ref am8, .ref am9, .ref am10, .ref am11, .ref am12, .int M_ran, .int M_actKind, .int M_actN, .int M_actA, .int M_isParted])), (am0, .inl (cy 0, 48, .inl u_s))] s.heap.size = A at hD hAB0 ⊢
  have hA : ∀ q : Nat, s.heap.size ≤ q → A q := fun q h => by rw [← hAe]; exact Or.inr h
  have hAB : ∀ q, A q → B ≤ q := hAB0
  have hS : va_S A s.heap s.heap [] := va_S.rf
  have hfin : ∀ (u_s : (Nat → Int32)), some u_s = some z → ∀ (H : Heap) (t : State), t.heap = H → va_P D vwCl [(am, .inr (7, [.ref am0, .ref am1, .ref am2, .ref am3, .int M_isHeld, .ref am4, .int M_taped, .int M_token, .int M_from, .int M_to, .int M_value, .int M_isWrong, .ref am5, .int M_rowN, .ref am6, .ref am7, .ref am8, .ref am9, .ref am10, .ref am11, .ref am12, .int M_ran, .int M_actKind, .int M_actN, .int M_actA, .int M_isParted])), (am0, .inl (cy 0, 48, .inl u_s))] H → va_F A s t → Qw (none) D [(am, .inr (7, [.ref am0, .ref am1, .ref am2, .ref am3, .int M_isHeld, .ref am4, .int M_taped, .int M_token, .int M_from, .int M_to, .int M_value, .int M_isWrong, .ref am5, .int M_rowN, .ref am6, .ref am7, .ref am8, .ref am9, .ref am10, .ref am11, .ref am12, .int M_ran, .int M_actKind, .int M_actN, .int M_actA, .int M_isParted])), (am0, .inl (cy 0, 48, .inl z))] A ([.ref am, .int x1] : List Value).toArray s (.returned (none)) t := by
    intro u_s h9 H t ht hP hF
    cases h9
    exact ⟨rfl, by rw [ht]; exact hP, hF⟩
  have hL2 : ∀ (n0 : Nat) (u_s : (Nat → Int32)) (y2 : Int32), lpF (fX7_goesOnMany_F2 n (M_isHeld, M_taped, M_token, M_from, M_to, M_value, M_isWrong, M_rowN, M_ran, M_actKind, M_actN, M_actA, M_isParted) x1 ) n0 (u_s, y2) = some z → ∀ (H : Heap) (locs : List Loc), va_P D vwCl [(am, .inr (7, [.ref am0, .ref am1, .ref am2, .ref am3, .int M_isHeld, .ref am4, .int M_taped, .int M_token, .int M_from, .int M_to, .int M_value, .int M_isWrong, .ref am5, .int M_rowN, .ref am6, .ref am7, .ref am8, .ref am9, .ref am10, .ref am11, .ref am12, .int M_ran, .int M_actKind, .int M_actN, .int M_actA, .int M_isParted])), (am0, .inl (cy 0, 48, .inl u_s))] H → va_D A [(am, .inr (7, [.ref am0, .ref am1, .ref am2, .ref am3, .int M_isHeld, .ref am4, .int M_taped, .int M_token, .int M_from, .int M_to, .int M_value, .int M_isWrong, .ref am5, .int M_rowN, .ref am6, .ref am7, .ref am8, .ref am9, .ref am10, .ref am11, .ref am12, .int M_ran, .int M_actKind, .int M_actN, .int M_actA, .int M_isParted])), (am0, .inl (cy 0, 48, .inl u_s))] → va_S A s.heap H locs → ∀ (ls : Array Slot), lv_has ls 3 [(0, .ref am), (1, .int x1), (2, .int y2)] → W p l e (headSpec wsX7_goesOnMany ({ frames := 4, cells := 0, slots := 0, locals := 88 })).room s m ([.ref am, .int x1] : List Value).toArray below meth c H locs 0 0 (MQ below (Qw (none) D [(am, .inr (7, [.ref am0, .ref am1, .ref am2, .ref am3, .int M_isHeld, .ref am4, .int M_taped, .int M_token, .int M_from, .int M_to, .int M_value, .int M_isWrong, .ref am5, .int M_rowN, .ref am6, .ref am7, .ref am8, .ref am9, .ref am10, .ref am11, .ref am12, .int M_ran, .int M_actKind, .int M_actN, .int M_actA, .int M_isParted])), (am0, .inl (cy 0, 48, .inl z))] A) ([.ref am, .int x1] : List Value).toArray s 0 0 A) (F0 m 2 ls []) := by
    have key : ∀ (n0 : Nat) (v2 : (Nat → Int32) × Int32), lpF (fX7_goesOnMany_F2 n (M_isHeld, M_taped, M_token, M_from, M_to, M_value, M_isWrong, M_rowN, M_ran, M_actKind, M_actN, M_actA, M_isParted) x1 ) n0 v2 = some z → ∀ (H : Heap) (locs : List Loc), va_P D vwCl [(am, .inr (7, [.ref am0, .ref am1, .ref am2, .ref am3, .int M_isHeld, .ref am4, .int M_taped, .int M_token, .int M_from, .int M_to, .int M_value, .int M_isWrong, .ref am5, .int M_rowN, .ref am6, .ref am7, .ref am8, .ref am9, .ref am10, .ref am11, .ref am12, .int M_ran, .int M_actKind, .int M_actN, .int M_actA, .int M_isParted])), (am0, .inl (cy 0, 48, .inl v2.1))] H → va_D A [(am, .inr (7, [.ref am0, .ref am1, .ref am2, .ref am3, .int M_isHeld, .ref am4, .int M_taped, .int M_token, .int M_from, .int M_to, .int M_value, .int M_isWrong, .ref am5, .int M_rowN, .ref am6, .ref am7, .ref am8, .ref am9, .ref am10, .ref am11, .ref am12, .int M_ran, .int M_actKind, .int M_actN, .int M_actA, .int M_isParted])), (am0, .inl (cy 0, 48, .inl v2.1))] → va_S A s.heap H locs → ∀ (ls : Array Slot), lv_has ls 3 [(0, .ref am), (1, .int x1), (2, .int v2.2)] → W p l e (headSpec wsX7_goesOnMany ({ frames := 4, cells := 0, slots := 0, locals := 88 })).room s m ([.ref am, .int x1] : List Value).toArray below meth c H locs 0 0 (MQ below (Qw (none) D [(am, .inr (7, [.ref am0, .ref am1, .ref am2, .ref am3, .int M_isHeld, .ref am4, .int M_taped, .int M_token, .int M_from, .int M_to, .int M_value, .int M_isWrong, .ref am5, .int M_rowN, .ref am6, .ref am7, .ref am8, .ref am9, .ref am10, .ref am11, .ref am12, .int M_ran, .int M_actKind, .int M_actN, .int M_actA, .int M_isParted])), (am0, .inl (cy 0, 48, .inl z))] A) ([.ref am, .int x1] : List Value).toArray s 0 0 A) (F0 m 2 ls []) := by
      refine lpW ?_
      intro k2 hk20
      have hk2 : ∀ (u_s : (Nat → Int32)) (y2 : Int32), k2 (u_s, y2) = some z → ∀ (H : Heap) (locs : List Loc), va_P D vwCl [(am, .inr (7, [.ref am0, .ref am1, .ref am2, .ref am3, .int M_isHeld, .ref am4, .int M_taped, .int M_token, .int M_from, .int M_to, .int M_value, .int M_isWrong, .ref am5, .int M_rowN, .ref am6, .ref am7, .ref am8, .ref am9, .ref am10, .ref am11, .ref am12, .int M_ran, .int M_actKind, .int M_actN, .int M_actA, .int M_isParted])), (am0, .inl (cy 0, 48, .inl u_s))] H → va_D A [(am, .inr (7, [.ref am0, .ref am1, .ref am2, .ref am3, .int M_isHeld, .ref am4, .int M_taped, .int M_token, .int M_from, .int M_to, .int M_value, .int M_isWrong, .ref am5, .int M_rowN, .ref am6, .ref am7, .ref am8, .ref am9, .ref am10, .ref am11, .ref am12, .int M_ran, .int M_actKind, .int M_actN, .int M_actA, .int M_isParted])), (am0, .inl (cy 0, 48, .inl u_s))] → va_S A s.heap H locs → ∀ (ls : Array Slot), lv_has ls 3 [(0, .ref am), (1, .int x1), (2, .int y2)] → W p l e (headSpec wsX7_goesOnMany ({ frames := 4, cells := 0, slots := 0, locals := 88 })).room s m ([.ref am, .int x1] : List Value).toArray below meth c H locs 0 0 (MQ below (Qw (none) D [(am, .inr (7, [.ref am0, .ref am1, .ref am2, .ref am3, .int M_isHeld, .ref am4, .int M_taped, .int M_token, .int M_from, .int M_to, .int M_value, .int M_isWrong, .ref am5, .int M_rowN, .ref am6, .ref am7, .ref am8, .ref am9, .ref am10, .ref am11, .ref am12, .int M_ran, .int M_actKind, .int M_actN, .int M_actA, .int M_isParted])), (am0, .inl (cy 0, 48, .inl z))] A) ([.ref am, .int x1] : List Value).toArray s 0 0 A) (F0 m 2 ls []) := fun u_s y2 h9 => hk20 (u_s, y2) h9
      have hstep : ∀ (u_s : (Nat → Int32)) (y2 : Int32), fX7_goesOnMany_F2 n (M_isHeld, M_taped, M_token, M_from, M_to, M_value, M_isWrong, M_rowN, M_ran, M_actKind, M_actN, M_actA, M_isParted) x1  k2 (u_s, y2) = some z → ∀ (H : Heap) (locs : List Loc), va_P D vwCl [(am, .inr (7, [.ref am0, .ref am1, .ref am2, .ref am3, .int M_isHeld, .ref am4, .int M_taped, .int M_token, .int M_from, .int M_to, .int M_value, .int M_isWrong, .ref am5, .int M_rowN, .ref am6, .ref am7, .ref am8, .ref am9, .ref am10, .ref am11, .ref am12, .int M_ran, .int M_actKind, .int M_actN, .int M_actA, .int M_isParted])), (am0, .inl (cy 0, 48, .inl u_s))] H → va_D A [(am, .inr (7, [.ref am0, .ref am1, .ref am2, .ref am3, .int M_isHeld, .ref am4, .int M_taped, .int M_token, .int M_from, .int M_to, .int M_value, .int M_isWrong, .ref am5, .int M_rowN, .ref am6, .ref am7, .ref am8, .ref am9, .ref am10, .ref am11, .ref am12, .int M_ran, .int M_actKind, .int M_actN, .int M_actA, .int M_isParted])), (am0, .inl (cy 0, 48, .inl u_s))] → va_S A s.heap H locs → ∀ (ls : Array Slot), lv_has ls 3 [(0, .ref am), (1, .int x1), (2, .int y2)] → W p l e (headSpec wsX7_goesOnMany ({ frames := 4, cells := 0, slots := 0, locals := 88 })).room s m ([.ref am, .int x1] : List Value).toArray below meth c H locs 0 0 (MQ below (Qw (none) D [(am, .inr (7, [.ref am0, .ref am1, .ref am2, .ref am3, .int M_isHeld, .ref am4, .int M_taped, .int M_token, .int M_from, .int M_to, .int M_value, .int M_isWrong, .ref am5, .int M_rowN, .ref am6, .ref am7, .ref am8, .ref am9, .ref am10, .ref am11, .ref am12, .int M_ran, .int M_actKind, .int M_actN, .int M_actA, .int M_isParted])), (am0, .inl (cy 0, 48, .inl z))] A) ([.ref am, .int x1] : List Value).toArray s 0 0 A) (F0 m 2 ls []) := by
        intro u_s y2 hf H locs hP hD hS ls hl
        have hf : (if x1 ≤ y2 then (some u_s) else ((fX7_goesOn n (M_isHeld, M_taped, M_token, M_from, M_to, M_value, M_isWrong, M_rowN, M_ran, M_actKind, M_actN, M_actA, M_isParted) u_s).bind fun r8 => k2 (r8, (y2 + (1 : Int32))))) = some z := hf
        refine lv_iload_n hx hb dX7_goesOnMany_2 rfl (lv_at hl 2 rfl) ?_
        refine lv_iload_n hx hb dX7_goesOnMany_3 rfl (lv_at hl 1 rfl) ?_
        refine lv_icmp_ge (tgt := 17) hx hb dX7_goesOnMany_4 (by decide) (fun c_4 => ?_) (fun c_4 => ?_)
        · have hf := zp hf c_4
          exact W.vret hx hb hr (fun t ht hW => hfin u_s hf _ t ht hP (hS.F ht)) hS.2.2 dX7_goesOnMany_17
        · have hf := zn hf c_4
          refine lv_aload_n hx hb dX7_goesOnMany_7 rfl (lv_at hl 0 rfl) ?_
          obtain ⟨r8, hc8, hf⟩ := zb hf
          refine zvw (o := none) (As := []) (rest := []) (stk := []) ⟨hx, hb, hml, hown, hts⟩ (mX7_goesOn l D cy st sk sv B am am0 am1 am2 am3 am4 am5 am6 am7 am8 am9 am10 am11 am12 _ n M_isHeld M_taped M_token M_from M_to M_value M_isWrong M_rowN M_ran M_actKind M_actN M_actA M_isParted u_s r8 hc8) (cwV 0 hts gX7_goesOnMany_X7_goesOn rfl rfl rfl (by decide +kernel) ⟨Nat.le_of_ble_eq_true rfl, Nat.le_of_ble_eq_true rfl⟩) hG hS hAB hA hP hD [0, 1] (by decide) rfl rfl rfl rfl 0 7 rfl rfl rfl rfl hl.1 rfl (Nat.le_of_ble_eq_true rfl) dX7_goesOnMany_8 rfl (fun H locs hP hD hS => ?_)
          have hP : va_P D vwCl [(am, .inr (7, [.ref am0, .ref am1, .ref am2, .ref am3, .int M_isHeld, .ref am4, .int M_taped, .int M_token, .int M_from, .int M_to, .int M_value, .int M_isWrong, .ref am5, .int M_rowN, .ref am6, .ref am7, .ref am8, .ref am9, .ref am10, .ref am11, .ref am12, .int M_ran, .int M_actKind, .int M_actN, .int M_actA, .int M_isParted])), (am0, .inl (cy 0, 48, .inl r8))] H := hP
          have hD : va_D A [(am, .inr (7, [.ref am0, .ref am1, .ref am2, .ref am3, .int M_isHeld, .ref am4, .int M_taped, .int M_token, .int M_from, .int M_to, .int M_value, .int M_isWrong, .ref am5, .int M_rowN, .ref am6, .ref am7, .ref am8, .ref am9, .ref am10, .ref am11, .ref am12, .int M_ran, .int M_actKind, .int M_actN, .int M_actA, .int M_isParted])), (am0, .inl (cy 0, 48, .inl r8))] := hD
          refine lv_iinc (v := (y2 + (1 : Int32))) (lv' := [(2, .int (y2 + (1 : Int32))), (0, .ref am), (1, .int x1)]) hx hb dX7_goesOnMany_11 hl (k := 2) rfl rfl (by decide) rfl (fun ls hl => ?_)
          refine lv_goto (tgt := 2) hx hb dX7_goesOnMany_14 (by decide) ?_
          exact hk2 r8 (y2 + (1 : Int32)) hf _ _ hP hD hS _ (lv_sub hl [1, 2, 0] rfl)
      exact fun v2 h9 => hstep v2.1 v2.2 h9
    exact fun n0 u_s y2 h9 => key n0 (u_s, y2) h9
  have hl := lv_entry ([.ref am, .int x1]) (n := 3) (Nat.le_of_ble_eq_true rfl)
  rw [lg_entry_eq]
  generalize (lg_sl ([.ref am, .int x1]) ++ List.replicate (3 - (lg_sl ([.ref am, .int x1])).length) Slot.unset).toArray = ls at hl ⊢
  have hl : lv_has ls 3 [(0, .ref am), (1, .int x1)] := hl
  have hf : (lpF (fX7_goesOnMany_F2 n (M_isHeld, M_taped, M_token, M_from, M_to, M_value, M_isWrong, M_rowN, M_ran, M_actKind, M_actN, M_actA, M_isParted) x1 ) n (u_s, (0 : Int32))) = some z := hf
  refine lv_iconst (v := (0 : Int32)) hx hb dX7_goesOnMany_0 (by decide) ?_
  refine lv_istore_n (lv' := [(2, .int (0 : Int32)), (0, .ref am), (1, .int x1)]) hx hb dX7_goesOnMany_1 rfl hl (by decide) rfl (fun ls hl => ?_)
  exact hL2 n u_s (0 : Int32) hf _ _ hP hD hS _ (lv_sub hl [1, 2, 0] rfl)
set_option maxRecDepth 100000 in
set_option maxHeartbeats 100000000 in
theorem mX7_courses (l : Launch) (D : va_G) (cy : Nat → ClassId) (st sk sv : Nat → Nat) (B : Nat) (am : Nat) (am0 : Nat) (am1 : Nat) (am2 : Nat) (am3 : Nat) (am4 : Nat) (am5 : Nat) (am6 : Nat) (am7 : Nat) (am8 : Nat) (am9 : Nat) (am10 : Nat) (am11 : Nat) (am12 : Nat) (sz : Nat) (n : Nat) (M_isHeld : Int32) (M_taped : Int32) (M_token : Int32) (M_from : Int32) (M_to : Int32) (M_value : Int32) (M_isWrong : Int32) (M_rowN : Int32) (M_ran : Int32) (M_actKind : Int32) (M_actN : Int32) (M_actA : Int32) (M_isParted : Int32) (u_s : (Nat → Int32)) (x1 : Int32) (z : Int32 × (Nat → Int32)) (hf : fX7_courses n (M_isHeld, M_taped, M_token, M_from, M_to, M_value, M_isWrong, M_rowN, M_ran, M_actKind, M_actN, M_actA, M_isParted) u_s x1 = some z) : Met l yX7_courses wsX7_courses ({ frames := 5, cells := 0, slots := 0, locals := 110 }) (PcW [.ref am, .int x1] D cy st sk sv B sz [(am, .inr (7, [.ref am0, .ref am1, .ref am2, .ref am3, .int M_isHeld, .ref am4, .int M_taped, .int M_token, .int M_from, .int M_to, .int M_value, .int M_isWrong, .ref am5, .int M_rowN, .ref am6, .ref am7, .ref am8, .ref am9, .ref am10, .ref am11, .ref am12, .int M_ran, .int M_actKind, .int M_actN, .int M_actA, .int M_isParted])), (am0, .inl (cy 0, 48, .inl u_s))]) (Qw (some (.int z.1)) D [(am, .inr (7, [.ref am0, .ref am1, .ref am2, .ref am3, .int M_isHeld, .ref am4, .int M_taped, .int M_token, .int M_from, .int M_to, .int M_value, .int M_isWrong, .ref am5, .int M_rowN, .ref am6, .ref am7, .ref am8, .ref am9, .ref am10, .ref am11, .ref am12, .int M_ran, .int M_actKind, .int M_actN, .int M_actA, .int M_isParted])), (am0, .inl (cy 0, 48, .inl z.2))] (va_A [(am, .inr (7, [.ref am0, .ref am1, .ref am2, .ref am3, .int M_isHeld, .ref am4, .int M_taped, .int M_token, .int M_from, .int M_to, .int M_value, .int M_isWrong, .ref am5, .int M_rowN, .ref am6, .ref am7, .ref am8, .ref am9, .ref am10, .ref am11, .ref am12, .int M_ran, .int M_actKind, .int M_actN, .int M_actA, .int M_isParted])), (am0, .inl (cy 0, 48, .inl u_s))] sz)) 0 0 (va_A [(am, .inr (7, [.ref am0, .ref am1, .ref am2, .ref am3, .int M_isHeld, .ref am4, .int M_taped, .int M_token, .int M_from, .int M_to, .int M_value, .int M_isWrong, .ref am5, .int M_rowN, .ref am6, .ref am7, .ref am8, .ref am9, .ref am10, .ref am11, .ref am12, .int M_ran, .int M_actKind, .int M_actN, .int M_actA, .int M_isParted])), (am0, .inl (cy 0, 48, .inl u_s))] sz) := by
  refine Met.ofW (cc := cX7_courses) (maxL := 2) (ret := (some .int)) (by decide) rfl ?_
  intro p e s m args below meth c s₁ Bd hml hv
  obtain ⟨rfl, hsz, hP, hD0, hBs, hG⟩ := hv
  have hx := Bd.exec
  have hb := Bd.bytes
  have hr := Bd.returns
  have hts := atoms_spec (ws := wsX7_courses) Bd.pre
  have hown : s.vm.findClass RX7 = some m.cls := findClass_of_methodNamed Bd.named
  have hlocks := Bd.notSynchronized
  have hK := hG.1
  subst hsz
  have hD := hD0.self (sz := s.heap.size)
  have hAB0 := zA hD0 hBs
  generalize hAe : va_A [(am, .inr (7, [.ref am0, .ref am1, .ref am2, .ref am3, .int M_isHeld, .ref am4, .int M_taped, .int M_token, .int M_from, .int M_to, .int M_value, .int M_isWrong, .ref am5, .int M_rowN, .ref am6, .ref am7, .ref am8, .ref am9, .ref am10, .ref am11, .ref am12, .int M_ran, .int M_actKind, .int M_actN, .int M_actA, .int M_isParted])), (am0, .inl (cy 0, 48, .inl u_s))] s.heap.size = A at hD hAB0 ⊢
  have hA : ∀ q : Nat, s.heap.size ≤ q → A q := fun q h => by rw [← hAe]; exact Or.inr h
  have hAB : ∀ q, A q → B ≤ q := hAB0
  have hS : va_S A s.heap s.heap [] := va_S.rf
  have hfin : ∀ (z0 : Int32) (u_s : (Nat → Int32)), some (z0, u_s) = some z → ∀ (H : Heap) (t : State), t.heap = H → va_P D vwCl [(am, .inr (7, [.ref am0, .ref am1, .ref am2, .ref am3, .int M_isHeld, .ref am4, .int M_taped, .int M_token, .int M_from, .int M_to, .int M_value, .int M_isWrong, .ref am5, .int M_rowN, .ref am6, .ref am7, .ref am8, .ref am9, .ref am10, .ref am11, .ref am12, .int M_ran, .int M_actKind, .int M_actN, .int M_actA, .int M_isParted])), (am0, .inl (cy 0, 48, .inl u_s))] H → va_F A s t → Qw (some (.int z.1)) D [(am, .inr (7, [.ref am0, .ref am1, .ref am2, .ref am3, .int M_isHeld, .ref am4, .int M_taped, .int M_token, .int M_from, .int M_to, .int M_value, .int M_isWrong, .ref am5, .int M_rowN, .ref am6, .ref am7, .ref am8, .ref am9, .ref am10, .ref am11, .ref am12, .int M_ran, .int M_actKind, .int M_actN, .int M_actA, .int M_isParted])), (am0, .inl (cy 0, 48, .inl z.2))] A ([.ref am, .int x1] : List Value).toArray s (.returned (some (.int z0))) t := by
    intro z0 u_s h9 H t ht hP hF
    cases h9
    exact ⟨rfl, by rw [ht]; exact hP, hF⟩
  have hin7 : ∀ w ∈ u_ws RX7 TX7 26, w ∈ wsX7_courses := by decide +kernel
  have fl7 := hts (.fieldLink RX7 7 "KinCutleryModel" "s" "[I") (by decide +kernel)
  have hl := lv_entry ([.ref am, .int x1]) (n := 2) (Nat.le_of_ble_eq_true rfl)
  rw [lg_entry_eq]
  generalize (lg_sl ([.ref am, .int x1]) ++ List.replicate (2 - (lg_sl ([.ref am, .int x1])).length) Slot.unset).toArray = ls at hl ⊢
  have hl : lv_has ls 2 [(0, .ref am), (1, .int x1)] := hl
  have hf : ((fX7_isIn n x1.toInt64 (1 : Int64) (60 : Int64)).bind fun r6 => if r6 = 0 then (some ((-1 : Int32), u_s)) else ((fX7_goesOnMany n (M_isHeld, M_taped, M_token, M_from, M_to, M_value, M_isWrong, M_rowN, M_ran, M_actKind, M_actN, M_actA, M_isParted) u_s x1).bind fun r16 => some ((r16 (3 : Int32).toNatClampNeg), r16))) = some z := hf
  refine lv_iload_n hx hb dX7_courses_0 rfl (lv_at hl 1 rfl) ?_
  refine lv_i2l hx hb dX7_courses_1 rfl ?_
  refine lv_lconst (v := (1 : Int64)) hx hb dX7_courses_2 (by decide) ?_
  refine lv_ldc2 (v := (60 : Int64)) hx hb hown (hts (.constantLong RX7 196 (60)) (by decide +kernel)) dX7_courses_3 ?_
  obtain ⟨r6, hc6, hf⟩ := zb hf
  refine zsr (o := some (.int r6)) (As := [.long x1.toInt64, .long (1 : Int64), .long (60 : Int64)]) (rest := []) (stk := [.int r6]) ⟨hx, hb, hml, hown, hts⟩ (mX7_isIn l D cy st sk sv B  n x1.toInt64 (1 : Int64) (60 : Int64) r6 hc6) (va_cwS 3 hts gX7_courses_X7_isIn rfl rfl rfl (by decide +kernel) ⟨Nat.le_of_ble_eq_true rfl, Nat.le_of_ble_eq_true rfl⟩) hG hS hAB hP [] rfl rfl hl.1 rfl (Nat.le_of_ble_eq_true rfl) dX7_courses_6 rfl ?_
  refine lv_if_ne (tgt := 14) hx hb dX7_courses_9 (by decide) (fun c_9 => ?_) (fun c_9 => ?_)
  · have hf := zn hf c_9
    refine lv_aload_n hx hb dX7_courses_14 rfl (lv_at hl 0 rfl) ?_
    refine lv_iload_n hx hb dX7_courses_15 rfl (lv_at hl 1 rfl) ?_
    obtain ⟨r16, hc16, hf⟩ := zb hf
    refine zvw (o := none) (As := [.int x1]) (rest := []) (stk := []) ⟨hx, hb, hml, hown, hts⟩ (mX7_goesOnMany l D cy st sk sv B am am0 am1 am2 am3 am4 am5 am6 am7 am8 am9 am10 am11 am12 _ n M_isHeld M_taped M_token M_from M_to M_value M_isWrong M_rowN M_ran M_actKind M_actN M_actA M_isParted u_s x1 r16 hc16) (cwV 1 hts gX7_courses_X7_goesOnMany rfl rfl rfl (by decide +kernel) ⟨Nat.le_of_ble_eq_true rfl, Nat.le_of_ble_eq_true rfl⟩) hG hS hAB hA hP hD [0, 1] (by decide) rfl rfl rfl rfl 0 7 rfl rfl rfl rfl hl.1 rfl (Nat.le_of_ble_eq_true rfl) dX7_courses_16 rfl (fun H locs hP hD hS => ?_)
    have hP : va_P D vwCl [(am, .inr (7, [.ref am0, .ref am1, .ref am2, .ref am3, .int M_isHeld, .ref am4, .int M_taped, .int M_token, .int M_from, .int M_to, .int M_value, .int M_isWrong, .ref am5, .int M_rowN, .ref am6, .ref am7, .ref am8, .ref am9, .ref am10, .ref am11, .ref am12, .int M_ran, .int M_actKind, .int M_actN, .int M_actA, .int M_isParted])), (am0, .inl (cy 0, 48, .inl r16))] H := hP
    have hD : va_D A [(am, .inr (7, [.ref am0, .ref am1, .ref am2, .ref am3, .int M_isHeld, .ref am4, .int M_taped, .int M_token, .int M_from, .int M_to, .int M_value, .int M_isWrong, .ref am5, .int M_rowN, .ref am6, .ref am7, .ref am8, .ref am9, .ref am10, .ref am11, .ref am12, .int M_ran, .int M_actKind, .int M_actN, .int M_actA, .int M_isParted])), (am0, .inl (cy 0, 48, .inl r16))] := hD
    refine lv_aload_n hx hb dX7_courses_19 rfl (lv_at hl 0 rfl) ?_
    refine va_get (D := D) (ci := 7) (v := .ref am0) (C := RX7) (T := TX7) (N := 26) hx hb hts hin7 hown hK hP 0 rfl rfl 0 (by decide) fl7 (fun _ h9 => h9) rfl dX7_courses_20 ?_
    refine lv_iconst (v := (3 : Int32)) hx hb dX7_courses_23 (by decide) ?_
    refine va_iald hx hb hK hP 1 0 rfl rfl vi_3_48 dX7_courses_24 ?_
    exact W.iret hx hb hr (fun t ht hW => hfin (r16 (3 : Int32).toNatClampNeg) r16 hf _ t ht hP (hS.F ht)) hS.2.2 dX7_courses_25
  · have hf := zp hf c_9
    refine lv_iconst (v := (-1 : Int32)) hx hb dX7_courses_12 (by decide) ?_
    exact W.iret hx hb hr (fun t ht hW => hfin (-1 : Int32) u_s hf _ t ht hP (hS.F ht)) hS.2.2 dX7_courses_13
set_option maxRecDepth 100000 in
set_option maxHeartbeats 100000000 in
theorem mX7_seed (l : Launch) (D : va_G) (cy : Nat → ClassId) (st sk sv : Nat → Nat) (B : Nat) (am : Nat) (am0 : Nat) (am1 : Nat) (am2 : Nat) (am3 : Nat) (am4 : Nat) (am5 : Nat) (am6 : Nat) (am7 : Nat) (am8 : Nat) (am9 : Nat) (am10 : Nat) (am11 : Nat) (am12 : Nat) (sz : Nat) (n : Nat) (M_isHeld : Int32) (M_taped : Int32) (M_token : Int32) (M_from : Int32) (M_to : Int32) (M_value : Int32) (M_isWrong : Int32) (M_rowN : Int32) (M_ran : Int32) (M_actKind : Int32) (M_actN : Int32) (M_actA : Int32) (M_isParted : Int32) (u_s : (Nat → Int32)) (x1 : Int32) (z : Int32 × (Nat → Int32)) (hf : fX7_seed n (M_isHeld, M_taped, M_token, M_from, M_to, M_value, M_isWrong, M_rowN, M_ran, M_actKind, M_actN, M_actA, M_isParted) u_s x1 = some z) : Met l yX7_seed wsX7_seed ({ frames := 1, cells := 0, slots := 0, locals := 23 }) (PcW [.ref am, .int x1] D cy st sk sv B sz [(am, .inr (7, [.ref am0, .ref am1, .ref am2, .ref am3, .int M_isHeld, .ref am4, .int M_taped, .int M_token, .int M_from, .int M_to, .int M_value, .int M_isWrong, .ref am5, .int M_rowN, .ref am6, .ref am7, .ref am8, .ref am9, .ref am10, .ref am11, .ref am12, .int M_ran, .int M_actKind, .int M_actN, .int M_actA, .int M_isParted])), (am0, .inl (cy 0, 48, .inl u_s))]) (Qw (some (.int z.1)) D [(am, .inr (7, [.ref am0, .ref am1, .ref am2, .ref am3, .int M_isHeld, .ref am4, .int M_taped, .int M_token, .int M_from, .int M_to, .int M_value, .int M_isWrong, .ref am5, .int M_rowN, .ref am6, .ref am7, .ref am8, .ref am9, .ref am10, .ref am11, .ref am12, .int M_ran, .int M_actKind, .int M_actN, .int M_actA, .int M_isParted])), (am0, .inl (cy 0, 48, .inl z.2))] (va_A [(am, .inr (7, [.ref am0, .ref am1, .ref am2, .ref am3, .int M_isHeld, .ref am4, .int M_taped, .int M_token, .int M_from, .int M_to, .int M_value, .int M_isWrong, .ref am5, .int M_rowN, .ref am6, .ref am7, .ref am8, .ref am9, .ref am10, .ref am11, .ref am12, .int M_ran, .int M_actKind, .int M_actN, .int M_actA, .int M_isParted])), (am0, .inl (cy 0, 48, .inl u_s))] sz)) 0 0 (va_A [(am, .inr (7, [.ref am0, .ref am1, .ref am2, .ref am3, .int M_isHeld, .ref am4, .int M_taped, .int M_token, .int M_from, .int M_to, .int M_value, .int M_isWrong, .ref am5, .int M_rowN, .ref am6, .ref am7, .ref am8, .ref am9, .ref am10, .ref am11, .ref am12, .int M_ran, .int M_actKind, .int M_actN, .int M_actA, .int M_isParted])), (am0, .inl (cy 0, 48, .inl u_s))] sz) := by
  refine Met.ofW (cc := cX7_seed) (maxL := 2) (ret := (some .int)) (by decide) rfl ?_
  intro p e s m args below meth c s₁ Bd hml hv
  obtain ⟨rfl, hsz, hP, hD0, hBs, hG⟩ := hv
  have hx := Bd.exec
  have hb := Bd.bytes
  have hr := Bd.returns
  have hts := atoms_spec (ws := wsX7_seed) Bd.pre
  have hown : s.vm.findClass RX7 = some m.cls := findClass_of_methodNamed Bd.named
  have hlocks := Bd.notSynchronized
  have hK := hG.1
  subst hsz
  have hD := hD0.self (sz := s.heap.size)
  have hAB0 := zA hD0 hBs
  generalize hAe : va_A [(am, .inr (7, [.ref am0, .ref am1, .ref am2, .ref am3, .int M_isHeld, .ref am4, .int M_taped, .int M_token, .int M_from, .int M_to, .int M_value, .int M_isWrong, .ref am5, .int M_rowN, .ref am6, .ref am7, .ref am8, .ref am9, .ref am10, .ref am11, .ref am12, .int M_ran, .int M_actKind, .int M_actN, .int M_actA, .int M_isParted])), (am0, .inl (cy 0, 48, .inl u_s))] s.heap.size = A at hD hAB0 ⊢
  have hA : ∀ q : Nat, s.heap.size ≤ q → A q := fun q h => by rw [← hAe]; exact Or.inr h
  have hAB : ∀ q, A q → B ≤ q := hAB0
  have hS : va_S A s.heap s.heap [] := va_S.rf
  have hfin : ∀ (z0 : Int32) (u_s : (Nat → Int32)), some (z0, u_s) = some z → ∀ (H : Heap) (t : State), t.heap = H → va_P D vwCl [(am, .inr (7, [.ref am0, .ref am1, .ref am2, .ref am3, .int M_isHeld, .ref am4, .int M_taped, .int M_token, .int M_from, .int M_to, .int M_value, .int M_isWrong, .ref am5, .int M_rowN, .ref am6, .ref am7, .ref am8, .ref am9, .ref am10, .ref am11, .ref am12, .int M_ran, .int M_actKind, .int M_actN, .int M_actA, .int M_isParted])), (am0, .inl (cy 0, 48, .inl u_s))] H → va_F A s t → Qw (some (.int z.1)) D [(am, .inr (7, [.ref am0, .ref am1, .ref am2, .ref am3, .int M_isHeld, .ref am4, .int M_taped, .int M_token, .int M_from, .int M_to, .int M_value, .int M_isWrong, .ref am5, .int M_rowN, .ref am6, .ref am7, .ref am8, .ref am9, .ref am10, .ref am11, .ref am12, .int M_ran, .int M_actKind, .int M_actN, .int M_actA, .int M_isParted])), (am0, .inl (cy 0, 48, .inl z.2))] A ([.ref am, .int x1] : List Value).toArray s (.returned (some (.int z0))) t := by
    intro z0 u_s h9 H t ht hP hF
    cases h9
    exact ⟨rfl, by rw [ht]; exact hP, hF⟩
  have hl := lv_entry ([.ref am, .int x1]) (n := 2) (Nat.le_of_ble_eq_true rfl)
  rw [lg_entry_eq]
  generalize (lg_sl ([.ref am, .int x1]) ++ List.replicate (2 - (lg_sl ([.ref am, .int x1])).length) Slot.unset).toArray = ls at hl ⊢
  have hl : lv_has ls 2 [(0, .ref am), (1, .int x1)] := hl
  have hf : ((fX7_becomes n (M_isHeld, M_taped, M_token, M_from, M_to, M_value, M_isWrong, M_rowN, M_ran, M_actKind, M_actN, M_actA, M_isParted) u_s (2 : Int32) x1).bind fun r3 => some (r3.1, r3.2)) = some z := hf
  refine lv_aload_n hx hb dX7_seed_0 rfl (lv_at hl 0 rfl) ?_
  refine lv_iconst (v := (2 : Int32)) hx hb dX7_seed_1 (by decide) ?_
  refine lv_iload_n hx hb dX7_seed_2 rfl (lv_at hl 1 rfl) ?_
  obtain ⟨r3, hc3, hf⟩ := zb hf
  refine zvw (o := some (.int r3.1)) (As := [.int (2 : Int32), .int x1]) (rest := []) (stk := [.int r3.1]) ⟨hx, hb, hml, hown, hts⟩ (mX7_becomes l D cy st sk sv B am am0 am1 am2 am3 am4 am5 am6 am7 am8 am9 am10 am11 am12 _ n M_isHeld M_taped M_token M_from M_to M_value M_isWrong M_rowN M_ran M_actKind M_actN M_actA M_isParted u_s (2 : Int32) x1 r3 hc3) (cwV 2 hts gX7_seed_X7_becomes rfl rfl rfl (by decide +kernel) ⟨Nat.le_of_ble_eq_true rfl, Nat.le_of_ble_eq_true rfl⟩) hG hS hAB hA hP hD [0, 1] (by decide) rfl rfl rfl rfl 0 7 rfl rfl rfl rfl hl.1 rfl (Nat.le_of_ble_eq_true rfl) dX7_seed_3 rfl (fun H locs hP hD hS => ?_)
  have hP : va_P D vwCl [(am, .inr (7, [.ref am0, .ref am1, .ref am2, .ref am3, .int M_isHeld, .ref am4, .int M_taped, .int M_token, .int M_from, .int M_to, .int M_value, .int M_isWrong, .ref am5, .int M_rowN, .ref am6, .ref am7, .ref am8, .ref am9, .ref am10, .ref am11, .ref am12, .int M_ran, .int M_actKind, .int M_actN, .int M_actA, .int M_isParted])), (am0, .inl (cy 0, 48, .inl r3.2))] H := hP
  have hD : va_D A [(am, .inr (7, [.ref am0, .ref am1, .ref am2, .ref am3, .int M_isHeld, .ref am4, .int M_taped, .int M_token, .int M_from, .int M_to, .int M_value, .int M_isWrong, .ref am5, .int M_rowN, .ref am6, .ref am7, .ref am8, .ref am9, .ref am10, .ref am11, .ref am12, .int M_ran, .int M_actKind, .int M_actN, .int M_actA, .int M_isParted])), (am0, .inl (cy 0, 48, .inl r3.2))] := hD
  exact W.iret hx hb hr (fun t ht hW => hfin r3.1 r3.2 hf _ t ht hP (hS.F ht)) hS.2.2 dX7_seed_6
set_option maxRecDepth 100000 in
set_option maxHeartbeats 100000000 in
theorem mX7_drawn (l : Launch) (D : va_G) (cy : Nat → ClassId) (st sk sv : Nat → Nat) (B : Nat) (am : Nat) (am0 : Nat) (am1 : Nat) (am2 : Nat) (am3 : Nat) (am4 : Nat) (am5 : Nat) (am6 : Nat) (am7 : Nat) (am8 : Nat) (am9 : Nat) (am10 : Nat) (am11 : Nat) (am12 : Nat) (sz : Nat) (n : Nat) (M_isHeld : Int32) (M_taped : Int32) (M_token : Int32) (M_from : Int32) (M_to : Int32) (M_value : Int32) (M_isWrong : Int32) (M_rowN : Int32) (M_ran : Int32) (M_actKind : Int32) (M_actN : Int32) (M_actA : Int32) (M_isParted : Int32) (u_s : (Nat → Int32))  (z : Int32 × (Nat → Int32)) (hf : fX7_drawn n (M_isHeld, M_taped, M_token, M_from, M_to, M_value, M_isWrong, M_rowN, M_ran, M_actKind, M_actN, M_actA, M_isParted) u_s = some z) : Met l yX7_drawn wsX7_drawn ({ frames := 0, cells := 0, slots := 0, locals := 0 }) (PcW [.ref am] D cy st sk sv B sz [(am, .inr (7, [.ref am0, .ref am1, .ref am2, .ref am3, .int M_isHeld, .ref am4, .int M_taped, .int M_token, .int M_from, .int M_to, .int M_value, .int M_isWrong, .ref am5, .int M_rowN, .ref am6, .ref am7, .ref am8, .ref am9, .ref am10, .ref am11, .ref am12, .int M_ran, .int M_actKind, .int M_actN, .int M_actA, .int M_isParted])), (am0, .inl (cy 0, 48, .inl u_s))]) (Qw (some (.int z.1)) D [(am, .inr (7, [.ref am0, .ref am1, .ref am2, .ref am3, .int M_isHeld, .ref am4, .int M_taped, .int M_token, .int M_from, .int M_to, .int M_value, .int M_isWrong, .ref am5, .int M_rowN, .ref am6, .ref am7, .ref am8, .ref am9, .ref am10, .ref am11, .ref am12, .int M_ran, .int M_actKind, .int M_actN, .int M_actA, .int M_isParted])), (am0, .inl (cy 0, 48, .inl z.2))] (va_A [(am, .inr (7, [.ref am0, .ref am1, .ref am2, .ref am3, .int M_isHeld, .ref am4, .int M_taped, .int M_token, .int M_from, .int M_to, .int M_value, .int M_isWrong, .ref am5, .int M_rowN, .ref am6, .ref am7, .ref am8, .ref am9, .ref am10, .ref am11, .ref am12, .int M_ran, .int M_actKind, .int M_actN, .int M_actA, .int M_isParted])), (am0, .inl (cy 0, 48, .inl u_s))] sz)) 0 0 (va_A [(am, .inr (7, [.ref am0, .ref am1, .ref am2, .ref am3, .int M_isHeld, .ref am4, .int M_taped, .int M_token, .int M_from, .int M_to, .int M_value, .int M_isWrong, .ref am5, .int M_rowN, .ref am6, .ref am7, .ref am8, .ref am9, .ref am10, .ref am11, .ref am12, .int M_ran, .int M_actKind, .int M_actN, .int M_actA, .int M_isParted])), (am0, .inl (cy 0, 48, .inl u_s))] sz) := by
  refine Met.ofW (cc := cX7_drawn) (maxL := 1) (ret := (some .int)) (by decide) rfl ?_
  intro p e s m args below meth c s₁ Bd hml hv
  obtain ⟨rfl, hsz, hP, hD0, hBs, hG⟩ := hv
  have hx := Bd.exec
  have hb := Bd.bytes
  have hr := Bd.returns
  have hts := atoms_spec (ws := wsX7_drawn) Bd.pre
  have hown : s.vm.findClass RX7 = some m.cls := findClass_of_methodNamed Bd.named
  have hlocks := Bd.notSynchronized
  have hK := hG.1
  subst hsz
  have hD := hD0.self (sz := s.heap.size)
  have hAB0 := zA hD0 hBs
  generalize hAe : va_A [(am, .inr (7, [.ref am0, .ref am1, .ref am2, .ref am3, .int M_isHeld, .ref am4, .int M_taped, .int M_token, .int M_from, .int M_to, .int M_value, .int M_isWrong, .ref am5, .int M_rowN, .ref am6, .ref am7, .ref am8, .ref am9, .ref am10, .ref am11, .ref am12, .int M_ran, .int M_actKind, .int M_actN, .int M_actA, .int M_isParted])), (am0, .inl (cy 0, 48, .inl u_s))] s.heap.size = A at hD hAB0 ⊢
  have hA : ∀ q : Nat, s.heap.size ≤ q → A q := fun q h => by rw [← hAe]; exact Or.inr h
  have hAB : ∀ q, A q → B ≤ q := hAB0
  have hS : va_S A s.heap s.heap [] := va_S.rf
  have hfin : ∀ (z0 : Int32) (u_s : (Nat → Int32)), some (z0, u_s) = some z → ∀ (H : Heap) (t : State), t.heap = H → va_P D vwCl [(am, .inr (7, [.ref am0, .ref am1, .ref am2, .ref am3, .int M_isHeld, .ref am4, .int M_taped, .int M_token, .int M_from, .int M_to, .int M_value, .int M_isWrong, .ref am5, .int M_rowN, .ref am6, .ref am7, .ref am8, .ref am9, .ref am10, .ref am11, .ref am12, .int M_ran, .int M_actKind, .int M_actN, .int M_actA, .int M_isParted])), (am0, .inl (cy 0, 48, .inl u_s))] H → va_F A s t → Qw (some (.int z.1)) D [(am, .inr (7, [.ref am0, .ref am1, .ref am2, .ref am3, .int M_isHeld, .ref am4, .int M_taped, .int M_token, .int M_from, .int M_to, .int M_value, .int M_isWrong, .ref am5, .int M_rowN, .ref am6, .ref am7, .ref am8, .ref am9, .ref am10, .ref am11, .ref am12, .int M_ran, .int M_actKind, .int M_actN, .int M_actA, .int M_isParted])), (am0, .inl (cy 0, 48, .inl z.2))] A ([.ref am] : List Value).toArray s (.returned (some (.int z0))) t := by
    intro z0 u_s h9 H t ht hP hF
    cases h9
    exact ⟨rfl, by rw [ht]; exact hP, hF⟩
  have hin7 : ∀ w ∈ u_ws RX7 TX7 26, w ∈ wsX7_drawn := by decide +kernel
  have fl7 := hts (.fieldLink RX7 7 "KinCutleryModel" "s" "[I") (by decide +kernel)
  have hl := lv_entry ([.ref am]) (n := 1) (Nat.le_of_ble_eq_true rfl)
  rw [lg_entry_eq]
  generalize (lg_sl ([.ref am]) ++ List.replicate (1 - (lg_sl ([.ref am])).length) Slot.unset).toArray = ls at hl ⊢
  have hl : lv_has ls 1 [(0, .ref am)] := hl
  have hf : (some ((((upd u_s (2 : Int32).toNatClampNeg (((u_s (2 : Int32).toNatClampNeg) * (1103515245 : Int32)) + (12345 : Int32))) (2 : Int32).toNatClampNeg).toUInt32 >>> ((16 : Int32).toUInt32 &&& Int32.toUInt32 31)).toInt32, (upd u_s (2 : Int32).toNatClampNeg (((u_s (2 : Int32).toNatClampNeg) * (1103515245 : Int32)) + (12345 : Int32))))) = some z := hf
  refine lv_aload_n hx hb dX7_drawn_0 rfl (lv_at hl 0 rfl) ?_
  refine va_get (D := D) (ci := 7) (v := .ref am0) (C := RX7) (T := TX7) (N := 26) hx hb hts hin7 hown hK hP 0 rfl rfl 0 (by decide) fl7 (fun _ h9 => h9) rfl dX7_drawn_1 ?_
  refine lv_iconst (v := (2 : Int32)) hx hb dX7_drawn_4 (by decide) ?_
  refine lv_aload_n hx hb dX7_drawn_5 rfl (lv_at hl 0 rfl) ?_
  refine va_get (D := D) (ci := 7) (v := .ref am0) (C := RX7) (T := TX7) (N := 26) hx hb hts hin7 hown hK hP 0 rfl rfl 0 (by decide) fl7 (fun _ h9 => h9) rfl dX7_drawn_6 ?_
  refine lv_iconst (v := (2 : Int32)) hx hb dX7_drawn_9 (by decide) ?_
  refine va_iald hx hb hK hP 1 0 rfl rfl vi_2_48 dX7_drawn_10 ?_
  refine lv_ldc (v := (1103515245 : Int32)) hx hb hown (hts (.constant RX7 201 (1103515245)) (by decide +kernel)) dX7_drawn_11 ?_
  refine lv_imul hx hb dX7_drawn_13 ?_
  refine lv_sipush (v := (12345 : Int32)) hx hb dX7_drawn_14 (by decide) ?_
  refine lv_iadd hx hb dX7_drawn_17 ?_
  refine va_iast hx hb hK hP hD hS 1 0 rfl rfl vi_2_48 dX7_drawn_18 (fun H locs hP hD hS => ?_)
  have hP : va_P D vwCl [(am, .inr (7, [.ref am0, .ref am1, .ref am2, .ref am3, .int M_isHeld, .ref am4, .int M_taped, .int M_token, .int M_from, .int M_to, .int M_value, .int M_isWrong, .ref am5, .int M_rowN, .ref am6, .ref am7, .ref am8, .ref am9, .ref am10, .ref am11, .ref am12, .int M_ran, .int M_actKind, .int M_actN, .int M_actA, .int M_isParted])), (am0, .inl (cy 0, 48, .inl (upd u_s (2 : Int32).toNatClampNeg (((u_s (2 : Int32).toNatClampNeg) * (1103515245 : Int32)) + (12345 : Int32)))))] H := hP
  have hD : va_D A [(am, .inr (7, [.ref am0, .ref am1, .ref am2, .ref am3, .int M_isHeld, .ref am4, .int M_taped, .int M_token, .int M_from, .int M_to, .int M_value, .int M_isWrong, .ref am5, .int M_rowN, .ref am6, .ref am7, .ref am8, .ref am9, .ref am10, .ref am11, .ref am12, .int M_ran, .int M_actKind, .int M_actN, .int M_actA, .int M_isParted])), (am0, .inl (cy 0, 48, .inl (upd u_s (2 : Int32).toNatClampNeg (((u_s (2 : Int32).toNatClampNeg) * (1103515245 : Int32)) + (12345 : Int32)))))] := hD
  refine lv_aload_n hx hb dX7_drawn_19 rfl (lv_at hl 0 rfl) ?_
  refine va_get (D := D) (ci := 7) (v := .ref am0) (C := RX7) (T := TX7) (N := 26) hx hb hts hin7 hown hK hP 0 rfl rfl 0 (by decide) fl7 (fun _ h9 => h9) rfl dX7_drawn_20 ?_
  refine lv_iconst (v := (2 : Int32)) hx hb dX7_drawn_23 (by decide) ?_
  refine va_iald hx hb hK hP 1 0 rfl rfl vi_2_48 dX7_drawn_24 ?_
  refine lv_bipush (v := (16 : Int32)) hx hb dX7_drawn_25 (by decide) ?_
  refine lv_iushr hx hb dX7_drawn_27 rfl ?_
  exact W.iret hx hb hr (fun t ht hW => hfin ((((upd u_s (2 : Int32).toNatClampNeg (((u_s (2 : Int32).toNatClampNeg) * (1103515245 : Int32)) + (12345 : Int32))) (2 : Int32).toNatClampNeg).toUInt32 >>> ((16 : Int32).toUInt32 &&& Int32.toUInt32 31)).toInt32) (upd u_s (2 : Int32).toNatClampNeg (((u_s (2 : Int32).toNatClampNeg) * (1103515245 : Int32)) + (12345 : Int32))) hf _ t ht hP (hS.F ht)) hS.2.2 dX7_drawn_28
set_option maxRecDepth 100000 in
set_option maxHeartbeats 100000000 in
theorem mX7_course (l : Launch) (D : va_G) (cy : Nat → ClassId) (st sk sv : Nat → Nat) (B : Nat) (am : Nat) (am0 : Nat) (am1 : Nat) (am2 : Nat) (am3 : Nat) (am4 : Nat) (am5 : Nat) (am6 : Nat) (am7 : Nat) (am8 : Nat) (am9 : Nat) (am10 : Nat) (am11 : Nat) (am12 : Nat) (sz : Nat) (n : Nat) (M_isHeld : Int32) (M_taped : Int32) (M_token : Int32) (M_from : Int32) (M_to : Int32) (M_value : Int32) (M_isWrong : Int32) (M_rowN : Int32) (M_ran : Int32) (M_actKind : Int32) (M_actN : Int32) (M_actA : Int32) (M_isParted : Int32) (u_s : (Nat → Int32))  (z : Int32 × (Nat → Int32)) (hf : fX7_course n (M_isHeld, M_taped, M_token, M_from, M_to, M_value, M_isWrong, M_rowN, M_ran, M_actKind, M_actN, M_actA, M_isParted) u_s = some z) : Met l yX7_course wsX7_course ({ frames := 4, cells := 0, slots := 0, locals := 88 }) (PcW [.ref am] D cy st sk sv B sz [(am, .inr (7, [.ref am0, .ref am1, .ref am2, .ref am3, .int M_isHeld, .ref am4, .int M_taped, .int M_token, .int M_from, .int M_to, .int M_value, .int M_isWrong, .ref am5, .int M_rowN, .ref am6, .ref am7, .ref am8, .ref am9, .ref am10, .ref am11, .ref am12, .int M_ran, .int M_actKind, .int M_actN, .int M_actA, .int M_isParted])), (am0, .inl (cy 0, 48, .inl u_s))]) (Qw (some (.int z.1)) D [(am, .inr (7, [.ref am0, .ref am1, .ref am2, .ref am3, .int M_isHeld, .ref am4, .int M_taped, .int M_token, .int M_from, .int M_to, .int M_value, .int M_isWrong, .ref am5, .int M_rowN, .ref am6, .ref am7, .ref am8, .ref am9, .ref am10, .ref am11, .ref am12, .int M_ran, .int M_actKind, .int M_actN, .int M_actA, .int M_isParted])), (am0, .inl (cy 0, 48, .inl z.2))] (va_A [(am, .inr (7, [.ref am0, .ref am1, .ref am2, .ref am3, .int M_isHeld, .ref am4, .int M_taped, .int M_token, .int M_from, .int M_to, .int M_value, .int M_isWrong, .ref am5, .int M_rowN, .ref am6, .ref am7, .ref am8, .ref am9, .ref am10, .ref am11, .ref am12, .int M_ran, .int M_actKind, .int M_actN, .int M_actA, .int M_isParted])), (am0, .inl (cy 0, 48, .inl u_s))] sz)) 0 0 (va_A [(am, .inr (7, [.ref am0, .ref am1, .ref am2, .ref am3, .int M_isHeld, .ref am4, .int M_taped, .int M_token, .int M_from, .int M_to, .int M_value, .int M_isWrong, .ref am5, .int M_rowN, .ref am6, .ref am7, .ref am8, .ref am9, .ref am10, .ref am11, .ref am12, .int M_ran, .int M_actKind, .int M_actN, .int M_actA, .int M_isParted])), (am0, .inl (cy 0, 48, .inl u_s))] sz) := by
  refine Met.ofW (cc := cX7_course) (maxL := 2) (ret := (some .int)) (by decide) rfl ?_
  intro p e s m args below meth c s₁ Bd hml hv
  obtain ⟨rfl, hsz, hP, hD0, hBs, hG⟩ := hv
  have hx := Bd.exec
  have hb := Bd.bytes
  have hr := Bd.returns
  have hts := atoms_spec (ws := wsX7_course) Bd.pre
  have hown : s.vm.findClass RX7 = some m.cls := findClass_of_methodNamed Bd.named
  have hlocks := Bd.notSynchronized
  have hK := hG.1
  subst hsz
  have hD := hD0.self (sz := s.heap.size)
  have hAB0 := zA hD0 hBs
  generalize hAe : va_A [(am, .inr (7, [.ref am0, .ref am1, .ref am2, .ref am3, .int M_isHeld, .ref am4, .int M_taped, .int M_token, .int M_from, .int M_to, .int M_value, .int M_isWrong, .ref am5, .int M_rowN, .ref am6, .ref am7, .ref am8, .ref am9, .ref am10, .ref am11, .ref am12, .int M_ran, .int M_actKind, .int M_actN, .int M_actA, .int M_isParted])), (am0, .inl (cy 0, 48, .inl u_s))] s.heap.size = A at hD hAB0 ⊢
  have hA : ∀ q : Nat, s.heap.size ≤ q → A q := fun q h => by rw [← hAe]; exact Or.inr h
  have hAB : ∀ q, A q → B ≤ q := hAB0
  have hS : va_S A s.heap s.heap [] := va_S.rf
  have hfin : ∀ (z0 : Int32) (u_s : (Nat → Int32)), some (z0, u_s) = some z → ∀ (H : Heap) (t : State), t.heap = H → va_P D vwCl [(am, .inr (7, [.ref am0, .ref am1, .ref am2, .ref am3, .int M_isHeld, .ref am4, .int M_taped, .int M_token, .int M_from, .int M_to, .int M_value, .int M_isWrong, .ref am5, .int M_rowN, .ref am6, .ref am7, .ref am8, .ref am9, .ref am10, .ref am11, .ref am12, .int M_ran, .int M_actKind, .int M_actN, .int M_actA, .int M_isParted])), (am0, .inl (cy 0, 48, .inl u_s))] H → va_F A s t → Qw (some (.int z.1)) D [(am, .inr (7, [.ref am0, .ref am1, .ref am2, .ref am3, .int M_isHeld, .ref am4, .int M_taped, .int M_token, .int M_from, .int M_to, .int M_value, .int M_isWrong, .ref am5, .int M_rowN, .ref am6, .ref am7, .ref am8, .ref am9, .ref am10, .ref am11, .ref am12, .int M_ran, .int M_actKind, .int M_actN, .int M_actA, .int M_isParted])), (am0, .inl (cy 0, 48, .inl z.2))] A ([.ref am] : List Value).toArray s (.returned (some (.int z0))) t := by
    intro z0 u_s h9 H t ht hP hF
    cases h9
    exact ⟨rfl, by rw [ht]; exact hP, hF⟩
  have hin7 : ∀ w ∈ u_ws RX7 TX7 26, w ∈ wsX7_course := by decide +kernel
  have fl7 := hts (.fieldLink RX7 7 "KinCutleryModel" "s" "[I") (by decide +kernel)
  have hB58 : ∀ (u_s : (Nat → Int32)), fX7_course_b58 n (M_isHeld, M_taped, M_token, M_from, M_to, M_value, M_isWrong, M_rowN, M_ran, M_actKind, M_actN, M_actA, M_isParted)  u_s = some z → ∀ (H : Heap) (locs : List Loc), va_P D vwCl [(am, .inr (7, [.ref am0, .ref am1, .ref am2, .ref am3, .int M_isHeld, .ref am4, .int M_taped, .int M_token, .int M_from, .int M_to, .int M_value, .int M_isWrong, .ref am5, .int M_rowN, .ref am6, .ref am7, .ref am8, .ref am9, .ref am10, .ref am11, .ref am12, .int M_ran, .int M_actKind, .int M_actN, .int M_actA, .int M_isParted])), (am0, .inl (cy 0, 48, .inl u_s))] H → va_D A [(am, .inr (7, [.ref am0, .ref am1, .ref am2, .ref am3, .int M_isHeld, .ref am4, .int M_taped, .int M_token, .int M_from, .int M_to, .int M_value, .int M_isWrong, .ref am5, .int M_rowN, .ref am6, .ref am7, .ref am8, .ref am9, .ref am10, .ref am11, .ref am12, .int M_ran, .int M_actKind, .int M_actN, .int M_actA, .int M_isParted])), (am0, .inl (cy 0, 48, .inl u_s))] → va_S A s.heap H locs → ∀ (ls : Array Slot), lv_has ls 2 [(0, .ref am)] → W p l e (headSpec wsX7_course ({ frames := 4, cells := 0, slots := 0, locals := 88 })).room s m ([.ref am] : List Value).toArray below meth c H locs 0 0 (MQ below (Qw (some (.int z.1)) D [(am, .inr (7, [.ref am0, .ref am1, .ref am2, .ref am3, .int M_isHeld, .ref am4, .int M_taped, .int M_token, .int M_from, .int M_to, .int M_value, .int M_isWrong, .ref am5, .int M_rowN, .ref am6, .ref am7, .ref am8, .ref am9, .ref am10, .ref am11, .ref am12, .int M_ran, .int M_actKind, .int M_actN, .int M_actA, .int M_isParted])), (am0, .inl (cy 0, 48, .inl z.2))] A) ([.ref am] : List Value).toArray s 0 0 A) (F0 m 58 ls []) := by
    intro u_s hf H locs hP hD hS ls hl
    have hf : ((fX7_goesOn n (M_isHeld, M_taped, M_token, M_from, M_to, M_value, M_isWrong, M_rowN, M_ran, M_actKind, M_actN, M_actA, M_isParted) u_s).bind fun r59 => some ((r59 (3 : Int32).toNatClampNeg), r59)) = some z := hf
    refine lv_aload_n hx hb dX7_course_58 rfl (lv_at hl 0 rfl) ?_
    obtain ⟨r59, hc59, hf⟩ := zb hf
    refine zvw (o := none) (As := []) (rest := []) (stk := []) ⟨hx, hb, hml, hown, hts⟩ (mX7_goesOn l D cy st sk sv B am am0 am1 am2 am3 am4 am5 am6 am7 am8 am9 am10 am11 am12 _ n M_isHeld M_taped M_token M_from M_to M_value M_isWrong M_rowN M_ran M_actKind M_actN M_actA M_isParted u_s r59 hc59) (cwV 0 hts gX7_course_X7_goesOn rfl rfl rfl (by decide +kernel) ⟨Nat.le_of_ble_eq_true rfl, Nat.le_of_ble_eq_true rfl⟩) hG hS hAB hA hP hD [0, 1] (by decide) rfl rfl rfl rfl 0 7 rfl rfl rfl rfl hl.1 rfl (Nat.le_of_ble_eq_true rfl) dX7_course_59 rfl (fun H locs hP hD hS => ?_)
    have hP : va_P D vwCl [(am, .inr (7, [.ref am0, .ref am1, .ref am2, .ref am3, .int M_isHeld, .ref am4, .int M_taped, .int M_token, .int M_from, .int M_to, .int M_value, .int M_isWrong, .ref am5, .int M_rowN, .ref am6, .ref am7, .ref am8, .ref am9, .ref am10, .ref am11, .ref am12, .int M_ran, .int M_actKind, .int M_actN, .int M_actA, .int M_isParted])), (am0, .inl (cy 0, 48, .inl r59))] H := hP
    have hD : va_D A [(am, .inr (7, [.ref am0, .ref am1, .ref am2, .ref am3, .int M_isHeld, .ref am4, .int M_taped, .int M_token, .int M_from, .int M_to, .int M_value, .int M_isWrong, .ref am5, .int M_rowN, .ref am6, .ref am7, .ref am8, .ref am9, .ref am10, .ref am11, .ref am12, .int M_ran, .int M_actKind, .int M_actN, .int M_actA, .int M_isParted])), (am0, .inl (cy 0, 48, .inl r59))] := hD
    refine lv_aload_n hx hb dX7_course_62 rfl (lv_at hl 0 rfl) ?_
    refine va_get (D := D) (ci := 7) (v := .ref am0) (C := RX7) (T := TX7) (N := 26) hx hb hts hin7 hown hK hP 0 rfl rfl 0 (by decide) fl7 (fun _ h9 => h9) rfl dX7_course_63 ?_
    refine lv_iconst (v := (3 : Int32)) hx hb dX7_course_66 (by decide) ?_
    refine va_iald hx hb hK hP 1 0 rfl rfl vi_3_48 dX7_course_67 ?_
    exact W.iret hx hb hr (fun t ht hW => hfin (r59 (3 : Int32).toNatClampNeg) r59 hf _ t ht hP (hS.F ht)) hS.2.2 dX7_course_68
  have hl := lv_entry ([.ref am]) (n := 2) (Nat.le_of_ble_eq_true rfl)
  rw [lg_entry_eq]
  generalize (lg_sl ([.ref am]) ++ List.replicate (2 - (lg_sl ([.ref am])).length) Slot.unset).toArray = ls at hl ⊢
  have hl : lv_has ls 2 [(0, .ref am)] := hl
  have hf : (if (u_s (0 : Int32).toNatClampNeg) ≤ 0 then (fX7_course_b58 n (M_isHeld, M_taped, M_token, M_from, M_to, M_value, M_isWrong, M_rowN, M_ran, M_actKind, M_actN, M_actA, M_isParted)  u_s) else ((fX7_drawn n (M_isHeld, M_taped, M_token, M_from, M_to, M_value, M_isWrong, M_rowN, M_ran, M_actKind, M_actN, M_actA, M_isParted) u_s).bind fun r10 => if (r10.2 (0 : Int32).toNatClampNeg) = 0 then none else (fX7_drawn n (M_isHeld, M_taped, M_token, M_from, M_to, M_value, M_isWrong, M_rowN, M_ran, M_actKind, M_actN, M_actA, M_isParted) r10.2).bind fun r22 => if (r22.2 (7 : Int32).toNatClampNeg) ≤ (r22.1 - r22.1 / (100 : Int32) * (100 : Int32)) then (fX7_course_b58 n (M_isHeld, M_taped, M_token, M_from, M_to, M_value, M_isWrong, M_rowN, M_ran, M_actKind, M_actN, M_actA, M_isParted)  r22.2) else ((fX7_drawn n (M_isHeld, M_taped, M_token, M_from, M_to, M_value, M_isWrong, M_rowN, M_ran, M_actKind, M_actN, M_actA, M_isParted) r22.2).bind fun r51 => if (((8 : Int32) + ((5 : Int32) * (r10.1 - r10.1 / (r10.2 (0 : Int32).toNatClampNeg) * (r10.2 (0 : Int32).toNatClampNeg)))) + (1 : Int32)) < 0 ∨ 48 ≤ (((8 : Int32) + ((5 : Int32) * (r10.1 - r10.1 / (r10.2 (0 : Int32).toNatClampNeg) * (r10.2 (0 : Int32).toNatClampNeg)))) + (1 : Int32)).toNatClampNeg then none else fX7_course_b58 n (M_isHeld, M_taped, M_token, M_from, M_to, M_value, M_isWrong, M_rowN, M_ran, M_actKind, M_actN, M_actA, M_isParted)  (upd r51.2 (((8 : Int32) + ((5 : Int32) * (r10.1 - r10.1 / (r10.2 (0 : Int32).toNatClampNeg) * (r10.2 (0 : Int32).toNatClampNeg)))) + (1 : Int32)).toNatClampNeg (r51.1 - r51.1 / (8 : Int32) * (8 : Int32)))))) = some z := hf
  refine lv_aload_n hx hb dX7_course_0 rfl (lv_at hl 0 rfl) ?_
  refine va_get (D := D) (ci := 7) (v := .ref am0) (C := RX7) (T := TX7) (N := 26) hx hb hts hin7 hown hK hP 0 rfl rfl 0 (by decide) fl7 (fun _ h9 => h9) rfl dX7_course_1 ?_
  refine lv_iconst (v := (0 : Int32)) hx hb dX7_course_4 (by decide) ?_
  refine va_iald hx hb hK hP 1 0 rfl rfl vi_0_48 dX7_course_5 ?_
  refine lv_if_le (tgt := 58) hx hb dX7_course_6 (by decide) (fun c_6 => ?_) (fun c_6 => ?_)
  · have hf := zp hf c_6
    exact hB58 u_s hf _ _ hP hD hS _ (lv_sub hl [0] rfl)
  · have hf := zn hf c_6
    refine lv_aload_n hx hb dX7_course_9 rfl (lv_at hl 0 rfl) ?_
    obtain ⟨r10, hc10, hf⟩ := zb hf
    refine zvw (o := some (.int r10.1)) (As := []) (rest := []) (stk := [.int r10.1]) ⟨hx, hb, hml, hown, hts⟩ (mX7_drawn l D cy st sk sv B am am0 am1 am2 am3 am4 am5 am6 am7 am8 am9 am10 am11 am12 _ n M_isHeld M_taped M_token M_from M_to M_value M_isWrong M_rowN M_ran M_actKind M_actN M_actA M_isParted u_s r10 hc10) (cwV 0 hts gX7_course_X7_drawn rfl rfl rfl (by decide +kernel) ⟨Nat.le_of_ble_eq_true rfl, Nat.le_of_ble_eq_true rfl⟩) hG hS hAB hA hP hD [0, 1] (by decide) rfl rfl rfl rfl 0 7 rfl rfl rfl rfl hl.1 rfl (Nat.le_of_ble_eq_true rfl) dX7_course_10 rfl (fun H locs hP hD hS => ?_)
    have hP : va_P D vwCl [(am, .inr (7, [.ref am0, .ref am1, .ref am2, .ref am3, .int M_isHeld, .ref am4, .int M_taped, .int M_token, .int M_from, .int M_to, .int M_value, .int M_isWrong, .ref am5, .int M_rowN, .ref am6, .ref am7, .ref am8, .ref am9, .ref am10, .ref am11, .ref am12, .int M_ran, .int M_actKind, .int M_actN, .int M_actA, .int M_isParted])), (am0, .inl (cy 0, 48, .inl r10.2))] H := hP
    have hD : va_D A [(am, .inr (7, [.ref am0, .ref am1, .ref am2, .ref am3, .int M_isHeld, .ref am4, .int M_taped, .int M_token, .int M_from, .int M_to, .int M_value, .int M_isWrong, .ref am5, .int M_rowN, .ref am6, .ref am7, .ref am8, .ref am9, .ref am10, .ref am11, .ref am12, .int M_ran, .int M_actKind, .int M_actN, .int M_actA, .int M_isParted])), (am0, .inl (cy 0, 48, .inl r10.2))] := hD
    refine lv_aload_n hx hb dX7_course_13 rfl (lv_at hl 0 rfl) ?_
    refine va_get (D := D) (ci := 7) (v := .ref am0) (C := RX7) (T := TX7) (N := 26) hx hb hts hin7 hown hK hP 0 rfl rfl 0 (by decide) fl7 (fun _ h9 => h9) rfl dX7_course_14 ?_
    refine lv_iconst (v := (0 : Int32)) hx hb dX7_course_17 (by decide) ?_
    refine va_iald hx hb hK hP 1 0 rfl rfl vi_0_48 dX7_course_18 ?_
    obtain ⟨h_19, hf⟩ := zg hf
    refine lv_irem hx hb dX7_course_19 h_19 ?_
    refine lv_istore_n (lv' := [(1, .int (r10.1 - r10.1 / (r10.2 (0 : Int32).toNatClampNeg) * (r10.2 (0 : Int32).toNatClampNeg))), (0, .ref am)]) hx hb dX7_course_20 rfl hl (by decide) rfl (fun ls hl => ?_)
    refine lv_aload_n hx hb dX7_course_21 rfl (lv_at hl 1 rfl) ?_
    obtain ⟨r22, hc22, hf⟩ := zb hf
    refine zvw (o := some (.int r22.1)) (As := []) (rest := []) (stk := [.int r22.1]) ⟨hx, hb, hml, hown, hts⟩ (mX7_drawn l D cy st sk sv B am am0 am1 am2 am3 am4 am5 am6 am7 am8 am9 am10 am11 am12 _ n M_isHeld M_taped M_token M_from M_to M_value M_isWrong M_rowN M_ran M_actKind M_actN M_actA M_isParted r10.2 r22 hc22) (cwV 0 hts gX7_course_X7_drawn rfl rfl rfl (by decide +kernel) ⟨Nat.le_of_ble_eq_true rfl, Nat.le_of_ble_eq_true rfl⟩) hG hS hAB hA hP hD [0, 1] (by decide) rfl rfl rfl rfl 0 7 rfl rfl rfl rfl hl.1 rfl (Nat.le_of_ble_eq_true rfl) dX7_course_22 rfl (fun H locs hP hD hS => ?_)
    have hP : va_P D vwCl [(am, .inr (7, [.ref am0, .ref am1, .ref am2, .ref am3, .int M_isHeld, .ref am4, .int M_taped, .int M_token, .int M_from, .int M_to, .int M_value, .int M_isWrong, .ref am5, .int M_rowN, .ref am6, .ref am7, .ref am8, .ref am9, .ref am10, .ref am11, .ref am12, .int M_ran, .int M_actKind, .int M_actN, .int M_actA, .int M_isParted])), (am0, .inl (cy 0, 48, .inl r22.2))] H := hP
    have hD : va_D A [(am, .inr (7, [.ref am0, .ref am1, .ref am2, .ref am3, .int M_isHeld, .ref am4, .int M_taped, .int M_token, .int M_from, .int M_to, .int M_value, .int M_isWrong, .ref am5, .int M_rowN, .ref am6, .ref am7, .ref am8, .ref am9, .ref am10, .ref am11, .ref am12, .int M_ran, .int M_actKind, .int M_actN, .int M_actA, .int M_isParted])), (am0, .inl (cy 0, 48, .inl r22.2))] := hD
    refine lv_bipush (v := (100 : Int32)) hx hb dX7_course_25 (by decide) ?_
    refine lv_irem hx hb dX7_course_27 (by decide) ?_
    refine lv_aload_n hx hb dX7_course_28 rfl (lv_at hl 1 rfl) ?_
    refine va_get (D := D) (ci := 7) (v := .ref am0) (C := RX7) (T := TX7) (N := 26) hx hb hts hin7 hown hK hP 0 rfl rfl 0 (by decide) fl7 (fun _ h9 => h9) rfl dX7_course_29 ?_
    refine lv_bipush (v := (7 : Int32)) hx hb dX7_course_32 (by decide) ?_
    refine va_iald hx hb hK hP 1 0 rfl rfl vi_7_48 dX7_course_34 ?_
    refine lv_icmp_ge (tgt := 58) hx hb dX7_course_35 (by decide) (fun c_35 => ?_) (fun c_35 => ?_)
    · have hf := zp hf c_35
      exact hB58 r22.2 hf _ _ hP hD hS _ (lv_sub hl [1] rfl)
    · have hf := zn hf c_35
      refine lv_aload_n hx hb dX7_course_38 rfl (lv_at hl 1 rfl) ?_
      refine va_get (D := D) (ci := 7) (v := .ref am0) (C := RX7) (T := TX7) (N := 26) hx hb hts hin7 hown hK hP 0 rfl rfl 0 (by decide) fl7 (fun _ h9 => h9) rfl dX7_course_39 ?_
      refine lv_bipush (v := (8 : Int32)) hx hb dX7_course_42 (by decide) ?_
      refine lv_iconst (v := (5 : Int32)) hx hb dX7_course_44 (by decide) ?_
      refine lv_iload_n hx hb dX7_course_45 rfl (lv_at hl 0 rfl) ?_
      refine lv_imul hx hb dX7_course_46 ?_
      refine lv_iadd hx hb dX7_course_47 ?_
      refine lv_iconst (v := (1 : Int32)) hx hb dX7_course_48 (by decide) ?_
      refine lv_iadd hx hb dX7_course_49 ?_
      refine lv_aload_n hx hb dX7_course_50 rfl (lv_at hl 1 rfl) ?_
      obtain ⟨r51, hc51, hf⟩ := zb hf
      refine zvw (o := some (.int r51.1)) (As := []) (rest := [.int (((8 : Int32) + ((5 : Int32) * (r10.1 - r10.1 / (r10.2 (0 : Int32).toNatClampNeg) * (r10.2 (0 : Int32).toNatClampNeg)))) + (1 : Int32)), .ref am0]) (stk := [.int r51.1, .int (((8 : Int32) + ((5 : Int32) * (r10.1 - r10.1 / (r10.2 (0 : Int32).toNatClampNeg) * (r10.2 (0 : Int32).toNatClampNeg)))) + (1 : Int32)), .ref am0]) ⟨hx, hb, hml, hown, hts⟩ (mX7_drawn l D cy st sk sv B am am0 am1 am2 am3 am4 am5 am6 am7 am8 am9 am10 am11 am12 _ n M_isHeld M_taped M_token M_from M_to M_value M_isWrong M_rowN M_ran M_actKind M_actN M_actA M_isParted r22.2 r51 hc51) (cwV 0 hts gX7_course_X7_drawn rfl rfl rfl (by decide +kernel) ⟨Nat.le_of_ble_eq_true rfl, Nat.le_of_ble_eq_true rfl⟩) hG hS hAB hA hP hD [0, 1] (by decide) rfl rfl rfl rfl 0 7 rfl rfl rfl rfl hl.1 rfl (Nat.le_of_ble_eq_true rfl) dX7_course_51 rfl (fun H locs hP hD hS => ?_)
      have hP : va_P D vwCl [(am, .inr (7, [.ref am0, .ref am1, .ref am2, .ref am3, .int M_isHeld, .ref am4, .int M_taped, .int M_token, .int M_from, .int M_to, .int M_value, .int M_isWrong, .ref am5, .int M_rowN, .ref am6, .ref am7, .ref am8, .ref am9, .ref am10, .ref am11, .ref am12, .int M_ran, .int M_actKind, .int M_actN, .int M_actA, .int M_isParted])), (am0, .inl (cy 0, 48, .inl r51.2))] H := hP
      have hD : va_D A [(am, .inr (7, [.ref am0, .ref am1, .ref am2, .ref am3, .int M_isHeld, .ref am4, .int M_taped, .int M_token, .int M_from, .int M_to, .int M_value, .int M_isWrong, .ref am5, .int M_rowN, .ref am6, .ref am7, .ref am8, .ref am9, .ref am10, .ref am11, .ref am12, .int M_ran, .int M_actKind, .int M_actN, .int M_actA, .int M_isParted])), (am0, .inl (cy 0, 48, .inl r51.2))] := hD
      refine lv_bipush (v := (8 : Int32)) hx hb dX7_course_54 (by decide) ?_
      refine lv_irem hx hb dX7_course_56 (by decide) ?_
      obtain ⟨h_57, hf⟩ := zg hf
      refine va_iast hx hb hK hP hD hS 1 0 rfl rfl h_57 dX7_course_57 (fun H locs hP hD hS => ?_)
      have hP : va_P D vwCl [(am, .inr (7, [.ref am0, .ref am1, .ref am2, .ref am3, .int M_isHeld, .ref am4, .int M_taped, .int M_token, .int M_from, .int M_to, .int M_value, .int M_isWrong, .ref am5, .int M_rowN, .ref am6, .ref am7, .ref am8, .ref am9, .ref am10, .ref am11, .ref am12, .int M_ran, .int M_actKind, .int M_actN, .int M_actA, .int M_isParted])), (am0, .inl (cy 0, 48, .inl (upd r51.2 (((8 : Int32) + ((5 : Int32) * (r10.1 - r10.1 / (r10.2 (0 : Int32).toNatClampNeg) * (r10.2 (0 : Int32).toNatClampNeg)))) + (1 : Int32)).toNatClampNeg (r51.1 - r51.1 / (8 : Int32) * (8 : Int32)))))] H := hP
      have hD : va_D A [(am, .inr (7, [.ref am0, .ref am1, .ref am2, .ref am3, .int M_isHeld, .ref am4, .int M_taped, .int M_token, .int M_from, .int M_to, .int M_value, .int M_isWrong, .ref am5, .int M_rowN, .ref am6, .ref am7, .ref am8, .ref am9, .ref am10, .ref am11, .ref am12, .int M_ran, .int M_actKind, .int M_actN, .int M_actA, .int M_isParted])), (am0, .inl (cy 0, 48, .inl (upd r51.2 (((8 : Int32) + ((5 : Int32) * (r10.1 - r10.1 / (r10.2 (0 : Int32).toNatClampNeg) * (r10.2 (0 : Int32).toNatClampNeg)))) + (1 : Int32)).toNatClampNeg (r51.1 - r51.1 / (8 : Int32) * (8 : Int32)))))] := hD
      exact hB58 (upd r51.2 (((8 : Int32) + ((5 : Int32) * (r10.1 - r10.1 / (r10.2 (0 : Int32).toNatClampNeg) * (r10.2 (0 : Int32).toNatClampNeg)))) + (1 : Int32)).toNatClampNeg (r51.1 - r51.1 / (8 : Int32) * (8 : Int32))) hf _ _ hP hD hS _ (lv_sub hl [1] rfl)
set_option maxRecDepth 100000 in
set_option maxHeartbeats 100000000 in
theorem mX7_taleBy (l : Launch) (D : va_G) (cy : Nat → ClassId) (st sk sv : Nat → Nat) (B : Nat) (am : Nat) (am0 : Nat) (am1 : Nat) (am2 : Nat) (am3 : Nat) (am4 : Nat) (am5 : Nat) (am6 : Nat) (am7 : Nat) (am8 : Nat) (am9 : Nat) (am10 : Nat) (am11 : Nat) (am12 : Nat) (sz : Nat) (n : Nat) (M_isHeld : Int32) (M_taped : Int32) (M_token : Int32) (M_from : Int32) (M_to : Int32) (M_value : Int32) (M_isWrong : Int32) (M_rowN : Int32) (M_ran : Int32) (M_actKind : Int32) (M_actN : Int32) (M_actA : Int32) (M_isParted : Int32) (u_s : (Nat → Int32)) (u_aside : (Nat → Int32)) (x1 : Int32) (z : Int32 × (Nat → Int32) × (Nat → Int32)) (hf : fX7_taleBy n (M_isHeld, M_taped, M_token, M_from, M_to, M_value, M_isWrong, M_rowN, M_ran, M_actKind, M_actN, M_actA, M_isParted) u_s u_aside x1 = some z) : Met l yX7_taleBy wsX7_taleBy ({ frames := 5, cells := 0, slots := 0, locals := 110 }) (PcW [.ref am, .int x1] D cy st sk sv B sz [(am, .inr (7, [.ref am0, .ref am1, .ref am2, .ref am3, .int M_isHeld, .ref am4, .int M_taped, .int M_token, .int M_from, .int M_to, .int M_value, .int M_isWrong, .ref am5, .int M_rowN, .ref am6, .ref am7, .ref am8, .ref am9, .ref am10, .ref am11, .ref am12, .int M_ran, .int M_actKind, .int M_actN, .int M_actA, .int M_isParted])), (am0, .inl (cy 0, 48, .inl u_s)), (am2, .inl (cy 0, 48, .inl u_aside))]) (Qw (some (.int z.1)) D [(am, .inr (7, [.ref am0, .ref am1, .ref am2, .ref am3, .int M_isHeld, .ref am4, .int M_taped, .int M_token, .int M_from, .int M_to, .int M_value, .int M_isWrong, .ref am5, .int M_rowN, .ref am6, .ref am7, .ref am8, .ref am9, .ref am10, .ref am11, .ref am12, .int M_ran, .int M_actKind, .int M_actN, .int M_actA, .int M_isParted])), (am0, .inl (cy 0, 48, .inl z.2.1)), (am2, .inl (cy 0, 48, .inl z.2.2))] (va_A [(am, .inr (7, [.ref am0, .ref am1, .ref am2, .ref am3, .int M_isHeld, .ref am4, .int M_taped, .int M_token, .int M_from, .int M_to, .int M_value, .int M_isWrong, .ref am5, .int M_rowN, .ref am6, .ref am7, .ref am8, .ref am9, .ref am10, .ref am11, .ref am12, .int M_ran, .int M_actKind, .int M_actN, .int M_actA, .int M_isParted])), (am0, .inl (cy 0, 48, .inl u_s)), (am2, .inl (cy 0, 48, .inl u_aside))] sz)) 0 0 (va_A [(am, .inr (7, [.ref am0, .ref am1, .ref am2, .ref am3, .int M_isHeld, .ref am4, .int M_taped, .int M_token, .int M_from, .int M_to, .int M_value, .int M_isWrong, .ref am5, .int M_rowN, .ref am6, .ref am7, .ref am8, .ref am9, .ref am10, .ref am11, .ref am12, .int M_ran, .int M_actKind, .int M_actN, .int M_actA, .int M_isParted])), (am0, .inl (cy 0, 48, .inl u_s)), (am2, .inl (cy 0, 48, .inl u_aside))] sz) := by
  refine Met.ofW (cc := cX7_taleBy) (maxL := 3) (ret := (some .int)) (by decide) rfl ?_
  intro p e s m args below meth c s₁ Bd hml hv
  obtain ⟨rfl, hsz, hP, hD0, hBs, hG⟩ := hv
  have hx := Bd.exec
  have hb := Bd.bytes
  have hr := Bd.returns
  have hts := atoms_spec (ws := wsX7_taleBy) Bd.pre
  have hown : s.vm.findClass RX7 = some m.cls := findClass_of_methodNamed Bd.named
  have hlocks := Bd.notSynchronized
  have hK := hG.1
  subst hsz
  have hD := hD0.self (sz := s.heap.size)
  have hAB0 := zA hD0 hBs
  generalize hAe : va_A [(am, .inr (7, [.ref am0, .ref am1, .ref am2, .ref am3, .int M_isHeld, .ref am4, .int M_taped, .int M_token, .int M_from, .int M_to, .int M_value, .int M_isWrong, .ref am5, .int M_rowN, .ref am6, .ref am7, .ref am8, .ref am9, .ref am10, .ref am11, .ref am12, .int M_ran, .int M_actKind, .int M_actN, .int M_actA, .int M_isParted])), (am0, .inl (cy 0, 48, .inl u_s)), (am2, .inl (cy 0, 48, .inl u_aside))] s.heap.size = A at hD hAB0 ⊢
  have hA : ∀ q : Nat, s.heap.size ≤ q → A q := fun q h => by rw [← hAe]; exact Or.inr h
  have hAB : ∀ q, A q → B ≤ q := hAB0
  have hS : va_S A s.heap s.heap [] := va_S.rf
  have hfin : ∀ (z0 : Int32) (u_s : (Nat → Int32)) (u_aside : (Nat → Int32)), some (z0, u_s, u_aside) = some z → ∀ (H : Heap) (t : State), t.heap = H → va_P D vwCl [(am, .inr (7, [.ref am0, .ref am1, .ref am2, .ref am3, .int M_isHeld, .ref am4, .int M_taped, .int M_token, .int M_from, .int M_to, .int M_value, .int M_isWrong, .ref am5, .int M_rowN, .ref am6, .ref am7, .ref am8, .ref am9, .ref am10, .ref am11, .ref am12, .int M_ran, .int M_actKind, .int M_actN, .int M_actA, .int M_isParted])), (am0, .inl (cy 0, 48, .inl u_s)), (am2, .inl (cy 0, 48, .inl u_aside))] H → va_F A s t → Qw (some (.int z.1)) D [(am, .inr (7, [.ref am0, .ref am1, .ref am2, .ref am3, .int M_isHeld, .ref am4, .int M_taped, .int M_token, .int M_from, .int M_to, .int M_value, .int M_isWrong, .ref am5, .int M_rowN, .ref am6, .ref am7, .ref am8, .ref am9, .ref am10, .ref am11, .ref am12, .int M_ran, .int M_actKind, .int M_actN, .int M_actA, .int M_isParted])), (am0, .inl (cy 0, 48, .inl z.2.1)), (am2, .inl (cy 0, 48, .inl z.2.2))] A ([.ref am, .int x1] : List Value).toArray s (.returned (some (.int z0))) t := by
    intro z0 u_s u_aside h9 H t ht hP hF
    cases h9
    exact ⟨rfl, by rw [ht]; exact hP, hF⟩
  have hin7 : ∀ w ∈ u_ws RX7 TX7 26, w ∈ wsX7_taleBy := by decide +kernel
  have fl7 := hts (.fieldLink RX7 7 "KinCutleryModel" "s" "[I") (by decide +kernel)
  have fl16 := hts (.fieldLink RX7 16 "KinCutleryModel" "aside" "[I") (by decide +kernel)
  have hl := lv_entry ([.ref am, .int x1]) (n := 3) (Nat.le_of_ble_eq_true rfl)
  rw [lg_entry_eq]
  generalize (lg_sl ([.ref am, .int x1]) ++ List.replicate (3 - (lg_sl ([.ref am, .int x1])).length) Slot.unset).toArray = ls at hl ⊢
  have hl : lv_has ls 3 [(0, .ref am), (1, .int x1)] := hl
  have hf : ((fX7_copyRow n u_s u_aside).bind fun r8 => (fX7_goesOnMany n (M_isHeld, M_taped, M_token, M_from, M_to, M_value, M_isWrong, M_rowN, M_ran, M_actKind, M_actN, M_actA, M_isParted) u_s x1).bind fun r13 => (fX7_copyRow n r8 r13).bind fun r31 => some ((r13 (3 : Int32).toNatClampNeg), r31, r8)) = some z := hf
  refine lv_aload_n hx hb dX7_taleBy_0 rfl (lv_at hl 0 rfl) ?_
  refine va_get (D := D) (ci := 7) (v := .ref am0) (C := RX7) (T := TX7) (N := 26) hx hb hts hin7 hown hK hP 0 rfl rfl 0 (by decide) fl7 (fun _ h9 => h9) rfl dX7_taleBy_1 ?_
  refine lv_aload_n hx hb dX7_taleBy_4 rfl (lv_at hl 0 rfl) ?_
  refine va_get (D := D) (ci := 7) (v := .ref am2) (C := RX7) (T := TX7) (N := 26) hx hb hts hin7 hown hK hP 0 rfl rfl 2 (by decide) fl16 (fun _ h9 => h9) rfl dX7_taleBy_5 ?_
  obtain ⟨r8, hc8, hf⟩ := zb hf
  refine zsw (o := none) (As := [.ref am0, .ref am2]) (rest := []) (stk := []) ⟨hx, hb, hml, hown, hts⟩ (mX7_copyRow l D cy st sk sv B am0 am2 _ n u_s u_aside r8 hc8) (va_cwS 2 hts gX7_taleBy_X7_copyRow rfl rfl rfl (by decide +kernel) ⟨Nat.le_of_ble_eq_true rfl, Nat.le_of_ble_eq_true rfl⟩) hG hS hAB hA hP hD [1, 2] (by decide) rfl rfl rfl rfl rfl hl.1 rfl (Nat.le_of_ble_eq_true rfl) dX7_taleBy_8 rfl (fun H locs hP hD hS => ?_)
  have hP : va_P D vwCl [(am, .inr (7, [.ref am0, .ref am1, .ref am2, .ref am3, .int M_isHeld, .ref am4, .int M_taped, .int M_token, .int M_from, .int M_to, .int M_value, .int M_isWrong, .ref am5, .int M_rowN, .ref am6, .ref am7, .ref am8, .ref am9, .ref am10, .ref am11, .ref am12, .int M_ran, .int M_actKind, .int M_actN, .int M_actA, .int M_isParted])), (am0, .inl (cy 0, 48, .inl u_s)), (am2, .inl (cy 0, 48, .inl r8))] H := hP
  have hD : va_D A [(am, .inr (7, [.ref am0, .ref am1, .ref am2, .ref am3, .int M_isHeld, .ref am4, .int M_taped, .int M_token, .int M_from, .int M_to, .int M_value, .int M_isWrong, .ref am5, .int M_rowN, .ref am6, .ref am7, .ref am8, .ref am9, .ref am10, .ref am11, .ref am12, .int M_ran, .int M_actKind, .int M_actN, .int M_actA, .int M_isParted])), (am0, .inl (cy 0, 48, .inl u_s)), (am2, .inl (cy 0, 48, .inl r8))] := hD
  refine lv_aload_n hx hb dX7_taleBy_11 rfl (lv_at hl 0 rfl) ?_
  refine lv_iload_n hx hb dX7_taleBy_12 rfl (lv_at hl 1 rfl) ?_
  obtain ⟨r13, hc13, hf⟩ := zb hf
  refine zvw (o := none) (As := [.int x1]) (rest := []) (stk := []) ⟨hx, hb, hml, hown, hts⟩ (mX7_goesOnMany l D cy st sk sv B am am0 am1 am2 am3 am4 am5 am6 am7 am8 am9 am10 am11 am12 _ n M_isHeld M_taped M_token M_from M_to M_value M_isWrong M_rowN M_ran M_actKind M_actN M_actA M_isParted u_s x1 r13 hc13) (cwV 1 hts gX7_taleBy_X7_goesOnMany rfl rfl rfl (by decide +kernel) ⟨Nat.le_of_ble_eq_true rfl, Nat.le_of_ble_eq_true rfl⟩) hG hS hAB hA hP hD [0, 1] (by decide) rfl rfl rfl rfl 0 7 rfl rfl rfl rfl hl.1 rfl (Nat.le_of_ble_eq_true rfl) dX7_taleBy_13 rfl (fun H locs hP hD hS => ?_)
  have hP : va_P D vwCl [(am, .inr (7, [.ref am0, .ref am1, .ref am2, .ref am3, .int M_isHeld, .ref am4, .int M_taped, .int M_token, .int M_from, .int M_to, .int M_value, .int M_isWrong, .ref am5, .int M_rowN, .ref am6, .ref am7, .ref am8, .ref am9, .ref am10, .ref am11, .ref am12, .int M_ran, .int M_actKind, .int M_actN, .int M_actA, .int M_isParted])), (am0, .inl (cy 0, 48, .inl r13)), (am2, .inl (cy 0, 48, .inl r8))] H := hP
  have hD : va_D A [(am, .inr (7, [.ref am0, .ref am1, .ref am2, .ref am3, .int M_isHeld, .ref am4, .int M_taped, .int M_token, .int M_from, .int M_to, .int M_value, .int M_isWrong, .ref am5, .int M_rowN, .ref am6, .ref am7, .ref am8, .ref am9, .ref am10, .ref am11, .ref am12, .int M_ran, .int M_actKind, .int M_actN, .int M_actA, .int M_isParted])), (am0, .inl (cy 0, 48, .inl r13)), (am2, .inl (cy 0, 48, .inl r8))] := hD
  refine lv_aload_n hx hb dX7_taleBy_16 rfl (lv_at hl 0 rfl) ?_
  refine va_get (D := D) (ci := 7) (v := .ref am0) (C := RX7) (T := TX7) (N := 26) hx hb hts hin7 hown hK hP 0 rfl rfl 0 (by decide) fl7 (fun _ h9 => h9) rfl dX7_taleBy_17 ?_
  refine lv_iconst (v := (3 : Int32)) hx hb dX7_taleBy_20 (by decide) ?_
  refine va_iald hx hb hK hP 1 0 rfl rfl vi_3_48 dX7_taleBy_21 ?_
  refine lv_istore_n (lv' := [(2, .int (r13 (3 : Int32).toNatClampNeg)), (0, .ref am), (1, .int x1)]) hx hb dX7_taleBy_22 rfl hl (by decide) rfl (fun ls hl => ?_)
  refine lv_aload_n hx hb dX7_taleBy_23 rfl (lv_at hl 1 rfl) ?_
  refine va_get (D := D) (ci := 7) (v := .ref am2) (C := RX7) (T := TX7) (N := 26) hx hb hts hin7 hown hK hP 0 rfl rfl 2 (by decide) fl16 (fun _ h9 => h9) rfl dX7_taleBy_24 ?_
  refine lv_aload_n hx hb dX7_taleBy_27 rfl (lv_at hl 1 rfl) ?_
  refine va_get (D := D) (ci := 7) (v := .ref am0) (C := RX7) (T := TX7) (N := 26) hx hb hts hin7 hown hK hP 0 rfl rfl 0 (by decide) fl7 (fun _ h9 => h9) rfl dX7_taleBy_28 ?_
  obtain ⟨r31, hc31, hf⟩ := zb hf
  refine zsw (o := none) (As := [.ref am2, .ref am0]) (rest := []) (stk := []) ⟨hx, hb, hml, hown, hts⟩ (mX7_copyRow l D cy st sk sv B am2 am0 _ n r8 r13 r31 hc31) (va_cwS 2 hts gX7_taleBy_X7_copyRow rfl rfl rfl (by decide +kernel) ⟨Nat.le_of_ble_eq_true rfl, Nat.le_of_ble_eq_true rfl⟩) hG hS hAB hA hP hD [2, 1] (by decide) rfl rfl rfl rfl rfl hl.1 rfl (Nat.le_of_ble_eq_true rfl) dX7_taleBy_31 rfl (fun H locs hP hD hS => ?_)
  have hP : va_P D vwCl [(am, .inr (7, [.ref am0, .ref am1, .ref am2, .ref am3, .int M_isHeld, .ref am4, .int M_taped, .int M_token, .int M_from, .int M_to, .int M_value, .int M_isWrong, .ref am5, .int M_rowN, .ref am6, .ref am7, .ref am8, .ref am9, .ref am10, .ref am11, .ref am12, .int M_ran, .int M_actKind, .int M_actN, .int M_actA, .int M_isParted])), (am0, .inl (cy 0, 48, .inl r31)), (am2, .inl (cy 0, 48, .inl r8))] H := hP
  have hD : va_D A [(am, .inr (7, [.ref am0, .ref am1, .ref am2, .ref am3, .int M_isHeld, .ref am4, .int M_taped, .int M_token, .int M_from, .int M_to, .int M_value, .int M_isWrong, .ref am5, .int M_rowN, .ref am6, .ref am7, .ref am8, .ref am9, .ref am10, .ref am11, .ref am12, .int M_ran, .int M_actKind, .int M_actN, .int M_actA, .int M_isParted])), (am0, .inl (cy 0, 48, .inl r31)), (am2, .inl (cy 0, 48, .inl r8))] := hD
  refine lv_iload_n hx hb dX7_taleBy_34 rfl (lv_at hl 0 rfl) ?_
  exact W.iret hx hb hr (fun t ht hW => hfin (r13 (3 : Int32).toNatClampNeg) r31 r8 hf _ t ht hP (hS.F ht)) hS.2.2 dX7_taleBy_35
set_option maxRecDepth 100000 in
set_option maxHeartbeats 100000000 in
theorem mX7_luck (l : Launch) (D : va_G) (cy : Nat → ClassId) (st sk sv : Nat → Nat) (B : Nat) (am : Nat) (am0 : Nat) (am1 : Nat) (am2 : Nat) (am3 : Nat) (am4 : Nat) (am5 : Nat) (am6 : Nat) (am7 : Nat) (am8 : Nat) (am9 : Nat) (am10 : Nat) (am11 : Nat) (am12 : Nat) (sz : Nat) (n : Nat) (M_isHeld : Int32) (M_taped : Int32) (M_token : Int32) (M_from : Int32) (M_to : Int32) (M_value : Int32) (M_isWrong : Int32) (M_rowN : Int32) (M_ran : Int32) (M_actKind : Int32) (M_actN : Int32) (M_actA : Int32) (M_isParted : Int32) (u_s : (Nat → Int32)) (u_aside : (Nat → Int32)) (x1 : Int32) (z : Int32 × (Nat → Int32) × (Nat → Int32)) (hf : fX7_luck n (M_isHeld, M_taped, M_token, M_from, M_to, M_value, M_isWrong, M_rowN, M_ran, M_actKind, M_actN, M_actA, M_isParted) u_s u_aside x1 = some z) : Met l yX7_luck wsX7_luck ({ frames := 6, cells := 0, slots := 0, locals := 132 }) (PcW [.ref am, .int x1] D cy st sk sv B sz [(am, .inr (7, [.ref am0, .ref am1, .ref am2, .ref am3, .int M_isHeld, .ref am4, .int M_taped, .int M_token, .int M_from, .int M_to, .int M_value, .int M_isWrong, .ref am5, .int M_rowN, .ref am6, .ref am7, .ref am8, .ref am9, .ref am10, .ref am11, .ref am12, .int M_ran, .int M_actKind, .int M_actN, .int M_actA, .int M_isParted])), (am0, .inl (cy 0, 48, .inl u_s)), (am2, .inl (cy 0, 48, .inl u_aside))]) (Qw (some (.int z.1)) D [(am, .inr (7, [.ref am0, .ref am1, .ref am2, .ref am3, .int M_isHeld, .ref am4, .int M_taped, .int M_token, .int M_from, .int M_to, .int M_value, .int M_isWrong, .ref am5, .int M_rowN, .ref am6, .ref am7, .ref am8, .ref am9, .ref am10, .ref am11, .ref am12, .int M_ran, .int M_actKind, .int M_actN, .int M_actA, .int M_isParted])), (am0, .inl (cy 0, 48, .inl z.2.1)), (am2, .inl (cy 0, 48, .inl z.2.2))] (va_A [(am, .inr (7, [.ref am0, .ref am1, .ref am2, .ref am3, .int M_isHeld, .ref am4, .int M_taped, .int M_token, .int M_from, .int M_to, .int M_value, .int M_isWrong, .ref am5, .int M_rowN, .ref am6, .ref am7, .ref am8, .ref am9, .ref am10, .ref am11, .ref am12, .int M_ran, .int M_actKind, .int M_actN, .int M_actA, .int M_isParted])), (am0, .inl (cy 0, 48, .inl u_s)), (am2, .inl (cy 0, 48, .inl u_aside))] sz)) 0 0 (va_A [(am, .inr (7, [.ref am0, .ref am1, .ref am2, .ref am3, .int M_isHeld, .ref am4, .int M_taped, .int M_token, .int M_from, .int M_to, .int M_value, .int M_isWrong, .ref am5, .int M_rowN, .ref am6, .ref am7, .ref am8, .ref am9, .ref am10, .ref am11, .ref am12, .int M_ran, .int M_actKind, .int M_actN, .int M_actA, .int M_isParted])), (am0, .inl (cy 0, 48, .inl u_s)), (am2, .inl (cy 0, 48, .inl u_aside))] sz) := by
  refine Met.ofW (cc := cX7_luck) (maxL := 6) (ret := (some .int)) (by decide) rfl ?_
  intro p e s m args below meth c s₁ Bd hml hv
  obtain ⟨rfl, hsz, hP, hD0, hBs, hG⟩ := hv
  have hx := Bd.exec
  have hb := Bd.bytes
  have hr := Bd.returns
  have hts := atoms_spec (ws := wsX7_luck) Bd.pre
  have hown : s.vm.findClass RX7 = some m.cls := findClass_of_methodNamed Bd.named
  have hlocks := Bd.notSynchronized
  have hK := hG.1
  subst hsz
  have hD := hD0.self (sz := s.heap.size)
  have hAB0 := zA hD0 hBs
  generalize hAe : va_A [(am, .inr (7, [.ref am0, .ref am1, .ref am2, .ref am3, .int M_isHeld, .ref am4, .int M_taped, .int M_token, .int M_from, .int M_to, .int M_value, .int M_isWrong, .ref am5, .int M_rowN, .ref am6, .ref am7, .ref am8, .ref am9, .ref am10, .ref am11, .ref am12, .int M_ran, .int M_actKind, .int M_actN, .int M_actA, .int M_isParted])), (am0, .inl (cy 0, 48, .inl u_s)), (am2, .inl (cy 0, 48, .inl u_aside))] s.heap.size = A at hD hAB0 ⊢
  have hA : ∀ q : Nat, s.heap.size ≤ q → A q := fun q h => by rw [← hAe]; exact Or.inr h
  have hAB : ∀ q, A q → B ≤ q := hAB0
  have hS : va_S A s.heap s.heap [] := va_S.rf
  have hfin : ∀ (z0 : Int32) (u_s : (Nat → Int32)) (u_aside : (Nat → Int32)), some (z0, u_s, u_aside) = some z → ∀ (H : Heap) (t : State), t.heap = H → va_P D vwCl [(am, .inr (7, [.ref am0, .ref am1, .ref am2, .ref am3, .int M_isHeld, .ref am4, .int M_taped, .int M_token, .int M_from, .int M_to, .int M_value, .int M_isWrong, .ref am5, .int M_rowN, .ref am6, .ref am7, .ref am8, .ref am9, .ref am10, .ref am11, .ref am12, .int M_ran, .int M_actKind, .int M_actN, .int M_actA, .int M_isParted])), (am0, .inl (cy 0, 48, .inl u_s)), (am2, .inl (cy 0, 48, .inl u_aside))] H → va_F A s t → Qw (some (.int z.1)) D [(am, .inr (7, [.ref am0, .ref am1, .ref am2, .ref am3, .int M_isHeld, .ref am4, .int M_taped, .int M_token, .int M_from, .int M_to, .int M_value, .int M_isWrong, .ref am5, .int M_rowN, .ref am6, .ref am7, .ref am8, .ref am9, .ref am10, .ref am11, .ref am12, .int M_ran, .int M_actKind, .int M_actN, .int M_actA, .int M_isParted])), (am0, .inl (cy 0, 48, .inl z.2.1)), (am2, .inl (cy 0, 48, .inl z.2.2))] A ([.ref am, .int x1] : List Value).toArray s (.returned (some (.int z0))) t := by
    intro z0 u_s u_aside h9 H t ht hP hF
    cases h9
    exact ⟨rfl, by rw [ht]; exact hP, hF⟩
  have hin7 : ∀ w ∈ u_ws RX7 TX7 26, w ∈ wsX7_luck := by decide +kernel
  have fl7 := hts (.fieldLink RX7 7 "KinCutleryModel" "s" "[I") (by decide +kernel)
  have fl16 := hts (.fieldLink RX7 16 "KinCutleryModel" "aside" "[I") (by decide +kernel)
  have hL44 : ∀ (n0 : Nat) (u_s : (Nat → Int32)) (u_aside : (Nat → Int32)) (y2 : Int32) (y3 : Int32) (y4 : Int32) (y5 : Int32), lpF (fX7_luck_F44 n (M_isHeld, M_taped, M_token, M_from, M_to, M_value, M_isWrong, M_rowN, M_ran, M_actKind, M_actN, M_actA, M_isParted) x1 ) n0 (u_s, u_aside, y2, y3, y4, y5) = some z → ∀ (H : Heap) (locs : List Loc), va_P D vwCl [(am, .inr (7, [.ref am0, .ref am1, .ref am2, .ref am3, .int M_isHeld, .ref am4, .int M_taped, .int M_token, .int M_from, .int M_to, .int M_value, .int M_isWrong, .ref am5, .int M_rowN, .ref am6, .ref am7, .ref am8, .ref am9, .ref am10, .ref am11, .ref am12, .int M_ran, .int M_actKind, .int M_actN, .int M_actA, .int M_isParted])), (am0, .inl (cy 0, 48, .inl u_s)), (am2, .inl (cy 0, 48, .inl u_aside))] H → va_D A [(am, .inr (7, [.ref am0, .ref am1, .ref am2, .ref am3, .int M_isHeld, .ref am4, .int M_taped, .int M_token, .int M_from, .int M_to, .int M_value, .int M_isWrong, .ref am5, .int M_rowN, .ref am6, .ref am7, .ref am8, .ref am9, .ref am10, .ref am11, .ref am12, .int M_ran, .int M_actKind, .int M_actN, .int M_actA, .int M_isParted])), (am0, .inl (cy 0, 48, .inl u_s)), (am2, .inl (cy 0, 48, .inl u_aside))] → va_S A s.heap H locs → ∀ (ls : Array Slot), lv_has ls 6 [(0, .ref am), (1, .int x1), (2, .int y2), (3, .int y3), (4, .int y4), (5, .int y5)] → W p l e (headSpec wsX7_luck ({ frames := 6, cells := 0, slots := 0, locals := 132 })).room s m ([.ref am, .int x1] : List Value).toArray below meth c H locs 0 0 (MQ below (Qw (some (.int z.1)) D [(am, .inr (7, [.ref am0, .ref am1, .ref am2, .ref am3, .int M_isHeld, .ref am4, .int M_taped, .int M_token, .int M_from, .int M_to, .int M_value, .int M_isWrong, .ref am5, .int M_rowN, .ref am6, .ref am7, .ref am8, .ref am9, .ref am10, .ref am11, .ref am12, .int M_ran, .int M_actKind, .int M_actN, .int M_actA, .int M_isParted])), (am0, .inl (cy 0, 48, .inl z.2.1)), (am2, .inl (cy 0, 48, .inl z.2.2))] A) ([.ref am, .int x1] : List Value).toArray s 0 0 A) (F0 m 44 ls []) := by
    have key : ∀ (n0 : Nat) (v44 : (Nat → Int32) × (Nat → Int32) × Int32 × Int32 × Int32 × Int32), lpF (fX7_luck_F44 n (M_isHeld, M_taped, M_token, M_from, M_to, M_value, M_isWrong, M_rowN, M_ran, M_actKind, M_actN, M_actA, M_isParted) x1 ) n0 v44 = some z → ∀ (H : Heap) (locs : List Loc), va_P D vwCl [(am, .inr (7, [.ref am0, .ref am1, .ref am2, .ref am3, .int M_isHeld, .ref am4, .int M_taped, .int M_token, .int M_from, .int M_to, .int M_value, .int M_isWrong, .ref am5, .int M_rowN, .ref am6, .ref am7, .ref am8, .ref am9, .ref am10, .ref am11, .ref am12, .int M_ran, .int M_actKind, .int M_actN, .int M_actA, .int M_isParted])), (am0, .inl (cy 0, 48, .inl v44.1)), (am2, .inl (cy 0, 48, .inl v44.2.1))] H → va_D A [(am, .inr (7, [.ref am0, .ref am1, .ref am2, .ref am3, .int M_isHeld, .ref am4, .int M_taped, .int M_token, .int M_from, .int M_to, .int M_value, .int M_isWrong, .ref am5, .int M_rowN, .ref am6, .ref am7, .ref am8, .ref am9, .ref am10, .ref am11, .ref am12, .int M_ran, .int M_actKind, .int M_actN, .int M_actA, .int M_isParted])), (am0, .inl (cy 0, 48, .inl v44.1)), (am2, .inl (cy 0, 48, .inl v44.2.1))] → va_S A s.heap H locs → ∀ (ls : Array Slot), lv_has ls 6 [(0, .ref am), (1, .int x1), (2, .int v44.2.2.1), (3, .int v44.2.2.2.1), (4, .int v44.2.2.2.2.1), (5, .int v44.2.2.2.2.2)] → W p l e (headSpec wsX7_luck ({ frames := 6, cells := 0, slots := 0, locals := 132 })).room s m ([.ref am, .int x1] : List Value).toArray below meth c H locs 0 0 (MQ below (Qw (some (.int z.1)) D [(am, .inr (7, [.ref am0, .ref am1, .ref am2, .ref am3, .int M_isHeld, .ref am4, .int M_taped, .int M_token, .int M_from, .int M_to, .int M_value, .int M_isWrong, .ref am5, .int M_rowN, .ref am6, .ref am7, .ref am8, .ref am9, .ref am10, .ref am11, .ref am12, .int M_ran, .int M_actKind, .int M_actN, .int M_actA, .int M_isParted])), (am0, .inl (cy 0, 48, .inl z.2.1)), (am2, .inl (cy 0, 48, .inl z.2.2))] A) ([.ref am, .int x1] : List Value).toArray s 0 0 A) (F0 m 44 ls []) := by
      refine lpW ?_
      intro k44 hk440
      have hk44 : ∀ (u_s : (Nat → Int32)) (u_aside : (Nat → Int32)) (y2 : Int32) (y3 : Int32) (y4 : Int32) (y5 : Int32), k44 (u_s, u_aside, y2, y3, y4, y5) = some z → ∀ (H : Heap) (locs : List Loc), va_P D vwCl [(am, .inr (7, [.ref am0, .ref am1, .ref am2, .ref am3, .int M_isHeld, .ref am4, .int M_taped, .int M_token, .int M_from, .int M_to, .int M_value, .int M_isWrong, .ref am5, .int M_rowN, .ref am6, .ref am7, .ref am8, .ref am9, .ref am10, .ref am11, .ref am12, .int M_ran, .int M_actKind, .int M_actN, .int M_actA, .int M_isParted])), (am0, .inl (cy 0, 48, .inl u_s)), (am2, .inl (cy 0, 48, .inl u_aside))] H → va_D A [(am, .inr (7, [.ref am0, .ref am1, .ref am2, .ref am3, .int M_isHeld, .ref am4, .int M_taped, .int M_token, .int M_from, .int M_to, .int M_value, .int M_isWrong, .ref am5, .int M_rowN, .ref am6, .ref am7, .ref am8, .ref am9, .ref am10, .ref am11, .ref am12, .int M_ran, .int M_actKind, .int M_actN, .int M_actA, .int M_isParted])), (am0, .inl (cy 0, 48, .inl u_s)), (am2, .inl (cy 0, 48, .inl u_aside))] → va_S A s.heap H locs → ∀ (ls : Array Slot), lv_has ls 6 [(0, .ref am), (1, .int x1), (2, .int y2), (3, .int y3), (4, .int y4), (5, .int y5)] → W p l e (headSpec wsX7_luck ({ frames := 6, cells := 0, slots := 0, locals := 132 })).room s m ([.ref am, .int x1] : List Value).toArray below meth c H locs 0 0 (MQ below (Qw (some (.int z.1)) D [(am, .inr (7, [.ref am0, .ref am1, .ref am2, .ref am3, .int M_isHeld, .ref am4, .int M_taped, .int M_token, .int M_from, .int M_to, .int M_value, .int M_isWrong, .ref am5, .int M_rowN, .ref am6, .ref am7, .ref am8, .ref am9, .ref am10, .ref am11, .ref am12, .int M_ran, .int M_actKind, .int M_actN, .int M_actA, .int M_isParted])), (am0, .inl (cy 0, 48, .inl z.2.1)), (am2, .inl (cy 0, 48, .inl z.2.2))] A) ([.ref am, .int x1] : List Value).toArray s 0 0 A) (F0 m 44 ls []) := fun u_s u_aside y2 y3 y4 y5 h9 => hk440 (u_s, u_aside, y2, y3, y4, y5) h9
      have hB83 : ∀ (u_s : (Nat → Int32)) (u_aside : (Nat → Int32)) (y2 : Int32) (y5 : Int32) (w0 : Int32) (w1 : Int32), fX7_luck_b83 n (M_isHeld, M_taped, M_token, M_from, M_to, M_value, M_isWrong, M_rowN, M_ran, M_actKind, M_actN, M_actA, M_isParted) x1 k44 u_s u_aside y2 y5 w0 w1 = some z → ∀ (H : Heap) (locs : List Loc), va_P D vwCl [(am, .inr (7, [.ref am0, .ref am1, .ref am2, .ref am3, .int M_isHeld, .ref am4, .int M_taped, .int M_token, .int M_from, .int M_to, .int M_value, .int M_isWrong, .ref am5, .int M_rowN, .ref am6, .ref am7, .ref am8, .ref am9, .ref am10, .ref am11, .ref am12, .int M_ran, .int M_actKind, .int M_actN, .int M_actA, .int M_isParted])), (am0, .inl (cy 0, 48, .inl u_s)), (am2, .inl (cy 0, 48, .inl u_aside))] H → va_D A [(am, .inr (7, [.ref am0, .ref am1, .ref am2, .ref am3, .int M_isHeld, .ref am4, .int M_taped, .int M_token, .int M_from, .int M_to, .int M_value, .int M_isWrong, .ref am5, .int M_rowN, .ref am6, .ref am7, .ref am8, .ref am9, .ref am10, .ref am11, .ref am12, .int M_ran, .int M_actKind, .int M_actN, .int M_actA, .int M_isParted])), (am0, .inl (cy 0, 48, .inl u_s)), (am2, .inl (cy 0, 48, .inl u_aside))] → va_S A s.heap H locs → ∀ (ls : Array Slot), lv_has ls 6 [(0, .ref am), (1, .int x1), (2, .int y2), (5, .int y5)] → W p l e (headSpec wsX7_luck ({ frames := 6, cells := 0, slots := 0, locals := 132 })).room s m ([.ref am, .int x1] : List Value).toArray below meth c H locs 0 0 (MQ below (Qw (some (.int z.1)) D [(am, .inr (7, [.ref am0, .ref am1, .ref am2, .ref am3, .int M_isHeld, .ref am4, .int M_taped, .int M_token, .int M_from, .int M_to, .int M_value, .int M_isWrong, .ref am5, .int M_rowN, .ref am6, .ref am7, .ref am8, .ref am9, .ref am10, .ref am11, .ref am12, .int M_ran, .int M_actKind, .int M_actN, .int M_actA, .int M_isParted])), (am0, .inl (cy 0, 48, .inl z.2.1)), (am2, .inl (cy 0, 48, .inl z.2.2))] A) ([.ref am, .int x1] : List Value).toArray s 0 0 A) (F0 m 83 ls [.int w1, .int w0]) := by
        intro u_s u_aside y2 y5 w0 w1 hf H locs hP hD hS ls hl
        have hf : (k44 (u_s, u_aside, y2, (u_s (2 : Int32).toNatClampNeg), (w0 + w1), (y5 + (1 : Int32)))) = some z := hf
        refine lv_iadd hx hb dX7_luck_83 ?_
        refine lv_istore (lv' := [(4, .int (w0 + w1)), (0, .ref am), (1, .int x1), (2, .int y2), (5, .int y5)]) hx hb dX7_luck_84 hl (by decide) rfl (fun ls hl => ?_)
        refine lv_aload_n hx hb dX7_luck_86 rfl (lv_at hl 1 rfl) ?_
        refine va_get (D := D) (ci := 7) (v := .ref am0) (C := RX7) (T := TX7) (N := 26) hx hb hts hin7 hown hK hP 0 rfl rfl 0 (by decide) fl7 (fun _ h9 => h9) rfl dX7_luck_87 ?_
        refine lv_iconst (v := (2 : Int32)) hx hb dX7_luck_90 (by decide) ?_
        refine va_iald hx hb hK hP 1 0 rfl rfl vi_2_48 dX7_luck_91 ?_
        refine lv_istore_n (lv' := [(3, .int (u_s (2 : Int32).toNatClampNeg)), (4, .int (w0 + w1)), (0, .ref am), (1, .int x1), (2, .int y2), (5, .int y5)]) hx hb dX7_luck_92 rfl hl (by decide) rfl (fun ls hl => ?_)
        refine lv_iinc (v := (y5 + (1 : Int32))) (lv' := [(5, .int (y5 + (1 : Int32))), (3, .int (u_s (2 : Int32).toNatClampNeg)), (4, .int (w0 + w1)), (0, .ref am), (1, .int x1), (2, .int y2)]) hx hb dX7_luck_93 hl (k := 5) rfl rfl (by decide) rfl (fun ls hl => ?_)
        refine lv_goto (tgt := 44) hx hb dX7_luck_96 (by decide) ?_
        exact hk44 u_s u_aside y2 (u_s (2 : Int32).toNatClampNeg) (w0 + w1) (y5 + (1 : Int32)) hf _ _ hP hD hS _ (lv_sub hl [3, 4, 5, 1, 2, 0] rfl)
      have hstep : ∀ (u_s : (Nat → Int32)) (u_aside : (Nat → Int32)) (y2 : Int32) (y3 : Int32) (y4 : Int32) (y5 : Int32), fX7_luck_F44 n (M_isHeld, M_taped, M_token, M_from, M_to, M_value, M_isWrong, M_rowN, M_ran, M_actKind, M_actN, M_actA, M_isParted) x1  k44 (u_s, u_aside, y2, y3, y4, y5) = some z → ∀ (H : Heap) (locs : List Loc), va_P D vwCl [(am, .inr (7, [.ref am0, .ref am1, .ref am2, .ref am3, .int M_isHeld, .ref am4, .int M_taped, .int M_token, .int M_from, .int M_to, .int M_value, .int M_isWrong, .ref am5, .int M_rowN, .ref am6, .ref am7, .ref am8, .ref am9, .ref am10, .ref am11, .ref am12, .int M_ran, .int M_actKind, .int M_actN, .int M_actA, .int M_isParted])), (am0, .inl (cy 0, 48, .inl u_s)), (am2, .inl (cy 0, 48, .inl u_aside))] H → va_D A [(am, .inr (7, [.ref am0, .ref am1, .ref am2, .ref am3, .int M_isHeld, .ref am4, .int M_taped, .int M_token, .int M_from, .int M_to, .int M_value, .int M_isWrong, .ref am5, .int M_rowN, .ref am6, .ref am7, .ref am8, .ref am9, .ref am10, .ref am11, .ref am12, .int M_ran, .int M_actKind, .int M_actN, .int M_actA, .int M_isParted])), (am0, .inl (cy 0, 48, .inl u_s)), (am2, .inl (cy 0, 48, .inl u_aside))] → va_S A s.heap H locs → ∀ (ls : Array Slot), lv_has ls 6 [(0, .ref am), (1, .int x1), (2, .int y2), (3, .int y3), (4, .int y4), (5, .int y5)] → W p l e (headSpec wsX7_luck ({ frames := 6, cells := 0, slots := 0, locals := 132 })).room s m ([.ref am, .int x1] : List Value).toArray below meth c H locs 0 0 (MQ below (Qw (some (.int z.1)) D [(am, .inr (7, [.ref am0, .ref am1, .ref am2, .ref am3, .int M_isHeld, .ref am4, .int M_taped, .int M_token, .int M_from, .int M_to, .int M_value, .int M_isWrong, .ref am5, .int M_rowN, .ref am6, .ref am7, .ref am8, .ref am9, .ref am10, .ref am11, .ref am12, .int M_ran, .int M_actKind, .int M_actN, .int M_actA, .int M_isParted])), (am0, .inl (cy 0, 48, .inl z.2.1)), (am2, .inl (cy 0, 48, .inl z.2.2))] A) ([.ref am, .int x1] : List Value).toArray s 0 0 A) (F0 m 44 ls []) := by
        intro u_s u_aside y2 y3 y4 y5 hf H locs hP hD hS ls hl
        have hf : (if x1 ≤ y5 then ((fX7_copyRow n u_aside u_s).bind fun r107 => some (y4, r107, u_aside)) else ((fX7_copyRow n u_aside u_s).bind fun r58 => (fX7_course n (M_isHeld, M_taped, M_token, M_from, M_to, M_value, M_isWrong, M_rowN, M_ran, M_actKind, M_actN, M_actA, M_isParted) (upd r58 (2 : Int32).toNatClampNeg y3)).bind fun r71 => if r71.1 ≤ y2 then (fX7_luck_b83 n (M_isHeld, M_taped, M_token, M_from, M_to, M_value, M_isWrong, M_rowN, M_ran, M_actKind, M_actN, M_actA, M_isParted) x1 k44 r71.2 u_aside y2 y5 y4 (0 : Int32)) else (fX7_luck_b83 n (M_isHeld, M_taped, M_token, M_from, M_to, M_value, M_isWrong, M_rowN, M_ran, M_actKind, M_actN, M_actA, M_isParted) x1 k44 r71.2 u_aside y2 y5 y4 (1 : Int32)))) = some z := hf
        refine lv_iload hx hb dX7_luck_44 (lv_at hl 5 rfl) ?_
        refine lv_iload_n hx hb dX7_luck_46 rfl (lv_at hl 1 rfl) ?_
        refine lv_icmp_ge (tgt := 99) hx hb dX7_luck_47 (by decide) (fun c_47 => ?_) (fun c_47 => ?_)
        · have hf := zp hf c_47
          refine lv_aload_n hx hb dX7_luck_99 rfl (lv_at hl 0 rfl) ?_
          refine va_get (D := D) (ci := 7) (v := .ref am2) (C := RX7) (T := TX7) (N := 26) hx hb hts hin7 hown hK hP 0 rfl rfl 2 (by decide) fl16 (fun _ h9 => h9) rfl dX7_luck_100 ?_
          refine lv_aload_n hx hb dX7_luck_103 rfl (lv_at hl 0 rfl) ?_
          refine va_get (D := D) (ci := 7) (v := .ref am0) (C := RX7) (T := TX7) (N := 26) hx hb hts hin7 hown hK hP 0 rfl rfl 0 (by decide) fl7 (fun _ h9 => h9) rfl dX7_luck_104 ?_
          obtain ⟨r107, hc107, hf⟩ := zb hf
          refine zsw (o := none) (As := [.ref am2, .ref am0]) (rest := []) (stk := []) ⟨hx, hb, hml, hown, hts⟩ (mX7_copyRow l D cy st sk sv B am2 am0 _ n u_aside u_s r107 hc107) (va_cwS 2 hts gX7_luck_X7_copyRow rfl rfl rfl (by decide +kernel) ⟨Nat.le_of_ble_eq_true rfl, Nat.le_of_ble_eq_true rfl⟩) hG hS hAB hA hP hD [2, 1] (by decide) rfl rfl rfl rfl rfl hl.1 rfl (Nat.le_of_ble_eq_true rfl) dX7_luck_107 rfl (fun H locs hP hD hS => ?_)
          have hP : va_P D vwCl [(am, .inr (7, [.ref am0, .ref am1, .ref am2, .ref am3, .int M_isHeld, .ref am4, .int M_taped, .int M_token, .int M_from, .int M_to, .int M_value, .int M_isWrong, .ref am5, .int M_rowN, .ref am6, .ref am7, .ref am8, .ref am9, .ref am10, .ref am11, .ref am12, .int M_ran, .int M_actKind, .int M_actN, .int M_actA, .int M_isParted])), (am0, .inl (cy 0, 48, .inl r107)), (am2, .inl (cy 0, 48, .inl u_aside))] H := hP
          have hD : va_D A [(am, .inr (7, [.ref am0, .ref am1, .ref am2, .ref am3, .int M_isHeld, .ref am4, .int M_taped, .int M_token, .int M_from, .int M_to, .int M_value, .int M_isWrong, .ref am5, .int M_rowN, .ref am6, .ref am7, .ref am8, .ref am9, .ref am10, .ref am11, .ref am12, .int M_ran, .int M_actKind, .int M_actN, .int M_actA, .int M_isParted])), (am0, .inl (cy 0, 48, .inl r107)), (am2, .inl (cy 0, 48, .inl u_aside))] := hD
          refine lv_iload hx hb dX7_luck_110 (lv_at hl 4 rfl) ?_
          exact W.iret hx hb hr (fun t ht hW => hfin y4 r107 u_aside hf _ t ht hP (hS.F ht)) hS.2.2 dX7_luck_112
        · have hf := zn hf c_47
          refine lv_aload_n hx hb dX7_luck_50 rfl (lv_at hl 0 rfl) ?_
          refine va_get (D := D) (ci := 7) (v := .ref am2) (C := RX7) (T := TX7) (N := 26) hx hb hts hin7 hown hK hP 0 rfl rfl 2 (by decide) fl16 (fun _ h9 => h9) rfl dX7_luck_51 ?_
          refine lv_aload_n hx hb dX7_luck_54 rfl (lv_at hl 0 rfl) ?_
          refine va_get (D := D) (ci := 7) (v := .ref am0) (C := RX7) (T := TX7) (N := 26) hx hb hts hin7 hown hK hP 0 rfl rfl 0 (by decide) fl7 (fun _ h9 => h9) rfl dX7_luck_55 ?_
          obtain ⟨r58, hc58, hf⟩ := zb hf
          refine zsw (o := none) (As := [.ref am2, .ref am0]) (rest := []) (stk := []) ⟨hx, hb, hml, hown, hts⟩ (mX7_copyRow l D cy st sk sv B am2 am0 _ n u_aside u_s r58 hc58) (va_cwS 2 hts gX7_luck_X7_copyRow rfl rfl rfl (by decide +kernel) ⟨Nat.le_of_ble_eq_true rfl, Nat.le_of_ble_eq_true rfl⟩) hG hS hAB hA hP hD [2, 1] (by decide) rfl rfl rfl rfl rfl hl.1 rfl (Nat.le_of_ble_eq_true rfl) dX7_luck_58 rfl (fun H locs hP hD hS => ?_)
          have hP : va_P D vwCl [(am, .inr (7, [.ref am0, .ref am1, .ref am2, .ref am3, .int M_isHeld, .ref am4, .int M_taped, .int M_token, .int M_from, .int M_to, .int M_value, .int M_isWrong, .ref am5, .int M_rowN, .ref am6, .ref am7, .ref am8, .ref am9, .ref am10, .ref am11, .ref am12, .int M_ran, .int M_actKind, .int M_actN, .int M_actA, .int M_isParted])), (am0, .inl (cy 0, 48, .inl r58)), (am2, .inl (cy 0, 48, .inl u_aside))] H := hP
          have hD : va_D A [(am, .inr (7, [.ref am0, .ref am1, .ref am2, .ref am3, .int M_isHeld, .ref am4, .int M_taped, .int M_token, .int M_from, .int M_to, .int M_value, .int M_isWrong, .ref am5, .int M_rowN, .ref am6, .ref am7, .ref am8, .ref am9, .ref am10, .ref am11, .ref am12, .int M_ran, .int M_actKind, .int M_actN, .int M_actA, .int M_isParted])), (am0, .inl (cy 0, 48, .inl r58)), (am2, .inl (cy 0, 48, .inl u_aside))] := hD
          refine lv_aload_n hx hb dX7_luck_61 rfl (lv_at hl 0 rfl) ?_
          refine va_get (D := D) (ci := 7) (v := .ref am0) (C := RX7) (T := TX7) (N := 26) hx hb hts hin7 hown hK hP 0 rfl rfl 0 (by decide) fl7 (fun _ h9 => h9) rfl dX7_luck_62 ?_
          refine lv_iconst (v := (2 : Int32)) hx hb dX7_luck_65 (by decide) ?_
          refine lv_iload_n hx hb dX7_luck_66 rfl (lv_at hl 3 rfl) ?_
          refine va_iast hx hb hK hP hD hS 1 0 rfl rfl vi_2_48 dX7_luck_67 (fun H locs hP hD hS => ?_)
          have hP : va_P D vwCl [(am, .inr (7, [.ref am0, .ref am1, .ref am2, .ref am3, .int M_isHeld, .ref am4, .int M_taped, .int M_token, .int M_from, .int M_to, .int M_value, .int M_isWrong, .ref am5, .int M_rowN, .ref am6, .ref am7, .ref am8, .ref am9, .ref am10, .ref am11, .ref am12, .int M_ran, .int M_actKind, .int M_actN, .int M_actA, .int M_isParted])), (am0, .inl (cy 0, 48, .inl (upd r58 (2 : Int32).toNatClampNeg y3))), (am2, .inl (cy 0, 48, .inl u_aside))] H := hP
          have hD : va_D A [(am, .inr (7, [.ref am0, .ref am1, .ref am2, .ref am3, .int M_isHeld, .ref am4, .int M_taped, .int M_token, .int M_from, .int M_to, .int M_value, .int M_isWrong, .ref am5, .int M_rowN, .ref am6, .ref am7, .ref am8, .ref am9, .ref am10, .ref am11, .ref am12, .int M_ran, .int M_actKind, .int M_actN, .int M_actA, .int M_isParted])), (am0, .inl (cy 0, 48, .inl (upd r58 (2 : Int32).toNatClampNeg y3))), (am2, .inl (cy 0, 48, .inl u_aside))] := hD
          refine lv_iload hx hb dX7_luck_68 (lv_at hl 4 rfl) ?_
          refine lv_aload_n hx hb dX7_luck_70 rfl (lv_at hl 0 rfl) ?_
          obtain ⟨r71, hc71, hf⟩ := zb hf
          refine zvw (o := some (.int r71.1)) (As := []) (rest := [.int y4]) (stk := [.int r71.1, .int y4]) ⟨hx, hb, hml, hown, hts⟩ (mX7_course l D cy st sk sv B am am0 am1 am2 am3 am4 am5 am6 am7 am8 am9 am10 am11 am12 _ n M_isHeld M_taped M_token M_from M_to M_value M_isWrong M_rowN M_ran M_actKind M_actN M_actA M_isParted (upd r58 (2 : Int32).toNatClampNeg y3) r71 hc71) (cwV 0 hts gX7_luck_X7_course rfl rfl rfl (by decide +kernel) ⟨Nat.le_of_ble_eq_true rfl, Nat.le_of_ble_eq_true rfl⟩) hG hS hAB hA hP hD [0, 1] (by decide) rfl rfl rfl rfl 0 7 rfl rfl rfl rfl hl.1 rfl (Nat.le_of_ble_eq_true rfl) dX7_luck_71 rfl (fun H locs hP hD hS => ?_)
          have hP : va_P D vwCl [(am, .inr (7, [.ref am0, .ref am1, .ref am2, .ref am3, .int M_isHeld, .ref am4, .int M_taped, .int M_token, .int M_from, .int M_to, .int M_value, .int M_isWrong, .ref am5, .int M_rowN, .ref am6, .ref am7, .ref am8, .ref am9, .ref am10, .ref am11, .ref am12, .int M_ran, .int M_actKind, .int M_actN, .int M_actA, .int M_isParted])), (am0, .inl (cy 0, 48, .inl r71.2)), (am2, .inl (cy 0, 48, .inl u_aside))] H := hP
          have hD : va_D A [(am, .inr (7, [.ref am0, .ref am1, .ref am2, .ref am3, .int M_isHeld, .ref am4, .int M_taped, .int M_token, .int M_from, .int M_to, .int M_value, .int M_isWrong, .ref am5, .int M_rowN, .ref am6, .ref am7, .ref am8, .ref am9, .ref am10, .ref am11, .ref am12, .int M_ran, .int M_actKind, .int M_actN, .int M_actA, .int M_isParted])), (am0, .inl (cy 0, 48, .inl r71.2)), (am2, .inl (cy 0, 48, .inl u_aside))] := hD
          refine lv_iload_n hx hb dX7_luck_74 rfl (lv_at hl 2 rfl) ?_
          refine lv_icmp_le (tgt := 82) hx hb dX7_luck_75 (by decide) (fun c_75 => ?_) (fun c_75 => ?_)
          · have hf := zp hf c_75
            refine lv_iconst (v := (0 : Int32)) hx hb dX7_luck_82 (by decide) ?_
            exact hB83 r71.2 u_aside y2 y5 y4 (0 : Int32) hf _ _ hP hD hS _ (lv_sub hl [0, 1, 2, 5] rfl)
          · have hf := zn hf c_75
            refine lv_iconst (v := (1 : Int32)) hx hb dX7_luck_78 (by decide) ?_
            refine lv_goto (tgt := 83) hx hb dX7_luck_79 (by decide) ?_
            exact hB83 r71.2 u_aside y2 y5 y4 (1 : Int32) hf _ _ hP hD hS _ (lv_sub hl [0, 1, 2, 5] rfl)
      exact fun v44 h9 => hstep v44.1 v44.2.1 v44.2.2.1 v44.2.2.2.1 v44.2.2.2.2.1 v44.2.2.2.2.2 h9
    exact fun n0 u_s u_aside y2 y3 y4 y5 h9 => key n0 (u_s, u_aside, y2, y3, y4, y5) h9
  have hl := lv_entry ([.ref am, .int x1]) (n := 6) (Nat.le_of_ble_eq_true rfl)
  rw [lg_entry_eq]
  generalize (lg_sl ([.ref am, .int x1]) ++ List.replicate (6 - (lg_sl ([.ref am, .int x1])).length) Slot.unset).toArray = ls at hl ⊢
  have hl : lv_has ls 6 [(0, .ref am), (1, .int x1)] := hl
  have hf : ((fX7_isIn n x1.toInt64 (1 : Int64) (30 : Int64)).bind fun r6 => if r6 = 0 then (some ((-1 : Int32), u_s, u_aside)) else ((fX7_taleBy n (M_isHeld, M_taped, M_token, M_from, M_to, M_value, M_isWrong, M_rowN, M_ran, M_actKind, M_actN, M_actA, M_isParted) u_s u_aside (1 : Int32)).bind fun r16 => (fX7_copyRow n r16.2.1 r16.2.2).bind fun r28 => lpF (fX7_luck_F44 n (M_isHeld, M_taped, M_token, M_from, M_to, M_value, M_isWrong, M_rowN, M_ran, M_actKind, M_actN, M_actA, M_isParted) x1 ) n (r16.2.1, r28, r16.1, (r16.2.1 (2 : Int32).toNatClampNeg), (0 : Int32), (0 : Int32)))) = some z := hf
  refine lv_iload_n hx hb dX7_luck_0 rfl (lv_at hl 1 rfl) ?_
  refine lv_i2l hx hb dX7_luck_1 rfl ?_
  refine lv_lconst (v := (1 : Int64)) hx hb dX7_luck_2 (by decide) ?_
  refine lv_ldc2 (v := (30 : Int64)) hx hb hown (hts (.constantLong RX7 205 (30)) (by decide +kernel)) dX7_luck_3 ?_
  obtain ⟨r6, hc6, hf⟩ := zb hf
  refine zsr (o := some (.int r6)) (As := [.long x1.toInt64, .long (1 : Int64), .long (30 : Int64)]) (rest := []) (stk := [.int r6]) ⟨hx, hb, hml, hown, hts⟩ (mX7_isIn l D cy st sk sv B  n x1.toInt64 (1 : Int64) (30 : Int64) r6 hc6) (va_cwS 3 hts gX7_luck_X7_isIn rfl rfl rfl (by decide +kernel) ⟨Nat.le_of_ble_eq_true rfl, Nat.le_of_ble_eq_true rfl⟩) hG hS hAB hP [] rfl rfl hl.1 rfl (Nat.le_of_ble_eq_true rfl) dX7_luck_6 rfl ?_
  refine lv_if_ne (tgt := 14) hx hb dX7_luck_9 (by decide) (fun c_9 => ?_) (fun c_9 => ?_)
  · have hf := zn hf c_9
    refine lv_aload_n hx hb dX7_luck_14 rfl (lv_at hl 0 rfl) ?_
    refine lv_iconst (v := (1 : Int32)) hx hb dX7_luck_15 (by decide) ?_
    obtain ⟨r16, hc16, hf⟩ := zb hf
    refine zvw (o := some (.int r16.1)) (As := [.int (1 : Int32)]) (rest := []) (stk := [.int r16.1]) ⟨hx, hb, hml, hown, hts⟩ (mX7_taleBy l D cy st sk sv B am am0 am1 am2 am3 am4 am5 am6 am7 am8 am9 am10 am11 am12 _ n M_isHeld M_taped M_token M_from M_to M_value M_isWrong M_rowN M_ran M_actKind M_actN M_actA M_isParted u_s u_aside (1 : Int32) r16 hc16) (cwV 1 hts gX7_luck_X7_taleBy rfl rfl rfl (by decide +kernel) ⟨Nat.le_of_ble_eq_true rfl, Nat.le_of_ble_eq_true rfl⟩) hG hS hAB hA hP hD [0, 1, 2] (by decide) rfl rfl rfl rfl 0 7 rfl rfl rfl rfl hl.1 rfl (Nat.le_of_ble_eq_true rfl) dX7_luck_16 rfl (fun H locs hP hD hS => ?_)
    have hP : va_P D vwCl [(am, .inr (7, [.ref am0, .ref am1, .ref am2, .ref am3, .int M_isHeld, .ref am4, .int M_taped, .int M_token, .int M_from, .int M_to, .int M_value, .int M_isWrong, .ref am5, .int M_rowN, .ref am6, .ref am7, .ref am8, .ref am9, .ref am10, .ref am11, .ref am12, .int M_ran, .int M_actKind, .int M_actN, .int M_actA, .int M_isParted])), (am0, .inl (cy 0, 48, .inl r16.2.1)), (am2, .inl (cy 0, 48, .inl r16.2.2))] H := hP
    have hD : va_D A [(am, .inr (7, [.ref am0, .ref am1, .ref am2, .ref am3, .int M_isHeld, .ref am4, .int M_taped, .int M_token, .int M_from, .int M_to, .int M_value, .int M_isWrong, .ref am5, .int M_rowN, .ref am6, .ref am7, .ref am8, .ref am9, .ref am10, .ref am11, .ref am12, .int M_ran, .int M_actKind, .int M_actN, .int M_actA, .int M_isParted])), (am0, .inl (cy 0, 48, .inl r16.2.1)), (am2, .inl (cy 0, 48, .inl r16.2.2))] := hD
    refine lv_istore_n (lv' := [(2, .int r16.1), (0, .ref am), (1, .int x1)]) hx hb dX7_luck_19 rfl hl (by decide) rfl (fun ls hl => ?_)
    refine lv_aload_n hx hb dX7_luck_20 rfl (lv_at hl 1 rfl) ?_
    refine va_get (D := D) (ci := 7) (v := .ref am0) (C := RX7) (T := TX7) (N := 26) hx hb hts hin7 hown hK hP 0 rfl rfl 0 (by decide) fl7 (fun _ h9 => h9) rfl dX7_luck_21 ?_
    refine lv_aload_n hx hb dX7_luck_24 rfl (lv_at hl 1 rfl) ?_
    refine va_get (D := D) (ci := 7) (v := .ref am2) (C := RX7) (T := TX7) (N := 26) hx hb hts hin7 hown hK hP 0 rfl rfl 2 (by decide) fl16 (fun _ h9 => h9) rfl dX7_luck_25 ?_
    obtain ⟨r28, hc28, hf⟩ := zb hf
    refine zsw (o := none) (As := [.ref am0, .ref am2]) (rest := []) (stk := []) ⟨hx, hb, hml, hown, hts⟩ (mX7_copyRow l D cy st sk sv B am0 am2 _ n r16.2.1 r16.2.2 r28 hc28) (va_cwS 2 hts gX7_luck_X7_copyRow rfl rfl rfl (by decide +kernel) ⟨Nat.le_of_ble_eq_true rfl, Nat.le_of_ble_eq_true rfl⟩) hG hS hAB hA hP hD [1, 2] (by decide) rfl rfl rfl rfl rfl hl.1 rfl (Nat.le_of_ble_eq_true rfl) dX7_luck_28 rfl (fun H locs hP hD hS => ?_)
    have hP : va_P D vwCl [(am, .inr (7, [.ref am0, .ref am1, .ref am2, .ref am3, .int M_isHeld, .ref am4, .int M_taped, .int M_token, .int M_from, .int M_to, .int M_value, .int M_isWrong, .ref am5, .int M_rowN, .ref am6, .ref am7, .ref am8, .ref am9, .ref am10, .ref am11, .ref am12, .int M_ran, .int M_actKind, .int M_actN, .int M_actA, .int M_isParted])), (am0, .inl (cy 0, 48, .inl r16.2.1)), (am2, .inl (cy 0, 48, .inl r28))] H := hP
    have hD : va_D A [(am, .inr (7, [.ref am0, .ref am1, .ref am2, .ref am3, .int M_isHeld, .ref am4, .int M_taped, .int M_token, .int M_from, .int M_to, .int M_value, .int M_isWrong, .ref am5, .int M_rowN, .ref am6, .ref am7, .ref am8, .ref am9, .ref am10, .ref am11, .ref am12, .int M_ran, .int M_actKind, .int M_actN, .int M_actA, .int M_isParted])), (am0, .inl (cy 0, 48, .inl r16.2.1)), (am2, .inl (cy 0, 48, .inl r28))] := hD
    refine lv_aload_n hx hb dX7_luck_31 rfl (lv_at hl 1 rfl) ?_
    refine va_get (D := D) (ci := 7) (v := .ref am0) (C := RX7) (T := TX7) (N := 26) hx hb hts hin7 hown hK hP 0 rfl rfl 0 (by decide) fl7 (fun _ h9 => h9) rfl dX7_luck_32 ?_
    refine lv_iconst (v := (2 : Int32)) hx hb dX7_luck_35 (by decide) ?_
    refine va_iald hx hb hK hP 1 0 rfl rfl vi_2_48 dX7_luck_36 ?_
    refine lv_istore_n (lv' := [(3, .int (r16.2.1 (2 : Int32).toNatClampNeg)), (2, .int r16.1), (0, .ref am), (1, .int x1)]) hx hb dX7_luck_37 rfl hl (by decide) rfl (fun ls hl => ?_)
    refine lv_iconst (v := (0 : Int32)) hx hb dX7_luck_38 (by decide) ?_
    refine lv_istore (lv' := [(4, .int (0 : Int32)), (3, .int (r16.2.1 (2 : Int32).toNatClampNeg)), (2, .int r16.1), (0, .ref am), (1, .int x1)]) hx hb dX7_luck_39 hl (by decide) rfl (fun ls hl => ?_)
    refine lv_iconst (v := (0 : Int32)) hx hb dX7_luck_41 (by decide) ?_
    refine lv_istore (lv' := [(5, .int (0 : Int32)), (4, .int (0 : Int32)), (3, .int (r16.2.1 (2 : Int32).toNatClampNeg)), (2, .int r16.1), (0, .ref am), (1, .int x1)]) hx hb dX7_luck_42 hl (by decide) rfl (fun ls hl => ?_)
    exact hL44 n r16.2.1 r28 r16.1 (r16.2.1 (2 : Int32).toNatClampNeg) (0 : Int32) (0 : Int32) hf _ _ hP hD hS _ (lv_sub hl [4, 5, 3, 2, 1, 0] rfl)
  · have hf := zp hf c_9
    refine lv_iconst (v := (-1 : Int32)) hx hb dX7_luck_12 (by decide) ?_
    exact W.iret hx hb hr (fun t ht hW => hfin (-1 : Int32) u_s u_aside hf _ t ht hP (hS.F ht)) hS.2.2 dX7_luck_13
set_option maxRecDepth 100000 in
set_option maxHeartbeats 100000000 in
theorem mX7_drownedOnes (l : Launch) (D : va_G) (cy : Nat → ClassId) (st sk sv : Nat → Nat) (B : Nat) (am : Nat) (am0 : Nat) (am1 : Nat) (am2 : Nat) (am3 : Nat) (am4 : Nat) (am5 : Nat) (am6 : Nat) (am7 : Nat) (am8 : Nat) (am9 : Nat) (am10 : Nat) (am11 : Nat) (am12 : Nat) (n : Nat) (M_isHeld : Int32) (M_taped : Int32) (M_token : Int32) (M_from : Int32) (M_to : Int32) (M_value : Int32) (M_isWrong : Int32) (M_rowN : Int32) (M_ran : Int32) (M_actKind : Int32) (M_actN : Int32) (M_actA : Int32) (M_isParted : Int32) (u_s : (Nat → Int32))  (z : Int32) (hf : fX7_drownedOnes n (M_isHeld, M_taped, M_token, M_from, M_to, M_value, M_isWrong, M_rowN, M_ran, M_actKind, M_actN, M_actA, M_isParted) u_s = some z) : Met l yX7_drownedOnes wsX7_drownedOnes ({ frames := 1, cells := 0, slots := 0, locals := 22 }) (PcR [.ref am] D cy st sk sv B [(am, .inr (7, [.ref am0, .ref am1, .ref am2, .ref am3, .int M_isHeld, .ref am4, .int M_taped, .int M_token, .int M_from, .int M_to, .int M_value, .int M_isWrong, .ref am5, .int M_rowN, .ref am6, .ref am7, .ref am8, .ref am9, .ref am10, .ref am11, .ref am12, .int M_ran, .int M_actKind, .int M_actN, .int M_actA, .int M_isParted])), (am0, .inl (cy 0, 48, .inl u_s))]) (Qr (some (.int z))) 0 0 (fun _ => False) := by
  refine Met.ofW (cc := cX7_drownedOnes) (maxL := 3) (ret := (some .int)) (by decide) rfl ?_
  intro p e s m args below meth c s₁ Bd hml hv
  obtain ⟨rfl, hP, hG⟩ := hv
  have hx := Bd.exec
  have hb := Bd.bytes
  have hr := Bd.returns
  have hts := atoms_spec (ws := wsX7_drownedOnes) Bd.pre
  have hown : s.vm.findClass RX7 = some m.cls := findClass_of_methodNamed Bd.named
  have hlocks := Bd.notSynchronized
  have hK := hG.1
  have hS : va_S (fun q => B ≤ q) s.heap s.heap [] := va_S.rf
  have hAB : ∀ q, (fun q => B ≤ q) q → B ≤ q := fun _ h => h
  have hin7 : ∀ w ∈ u_ws RX7 TX7 26, w ∈ wsX7_drownedOnes := by decide +kernel
  have fl7 := hts (.fieldLink RX7 7 "KinCutleryModel" "s" "[I") (by decide +kernel)
  have hL4 : ∀ (n0 : Nat) (y1 : Int32) (y2 : Int32), lpF (fX7_drownedOnes_F4 n (M_isHeld, M_taped, M_token, M_from, M_to, M_value, M_isWrong, M_rowN, M_ran, M_actKind, M_actN, M_actA, M_isParted) u_s ) n0 (y1, y2) = some z → ∀ (ls : Array Slot), lv_has ls 3 [(0, .ref am), (1, .int y1), (2, .int y2)] → W p l e (headSpec wsX7_drownedOnes ({ frames := 1, cells := 0, slots := 0, locals := 22 })).room s m ([.ref am] : List Value).toArray below meth c s.heap [] 0 0 (MQ below (Qr (some (.int z))) ([.ref am] : List Value).toArray s 0 0 (fun _ => False)) (F0 m 4 ls []) := by
    have key : ∀ (n0 : Nat) (v4 : Int32 × Int32), lpF (fX7_drownedOnes_F4 n (M_isHeld, M_taped, M_token, M_from, M_to, M_value, M_isWrong, M_rowN, M_ran, M_actKind, M_actN, M_actA, M_isParted) u_s ) n0 v4 = some z → ∀ (ls : Array Slot), lv_has ls 3 [(0, .ref am), (1, .int v4.1), (2, .int v4.2)] → W p l e (headSpec wsX7_drownedOnes ({ frames := 1, cells := 0, slots := 0, locals := 22 })).room s m ([.ref am] : List Value).toArray below meth c s.heap [] 0 0 (MQ below (Qr (some (.int z))) ([.ref am] : List Value).toArray s 0 0 (fun _ => False)) (F0 m 4 ls []) := by
      refine lpW ?_
      intro k4 hk40
      have hk4 : ∀ (y1 : Int32) (y2 : Int32), k4 (y1, y2) = some z → ∀ (ls : Array Slot), lv_has ls 3 [(0, .ref am), (1, .int y1), (2, .int y2)] → W p l e (headSpec wsX7_drownedOnes ({ frames := 1, cells := 0, slots := 0, locals := 22 })).room s m ([.ref am] : List Value).toArray below meth c s.heap [] 0 0 (MQ below (Qr (some (.int z))) ([.ref am] : List Value).toArray s 0 0 (fun _ => False)) (F0 m 4 ls []) := fun y1 y2 h9 => hk40 (y1, y2) h9
      have hstep : ∀ (y1 : Int32) (y2 : Int32), fX7_drownedOnes_F4 n (M_isHeld, M_taped, M_token, M_from, M_to, M_value, M_isWrong, M_rowN, M_ran, M_actKind, M_actN, M_actA, M_isParted) u_s  k4 (y1, y2) = some z → ∀ (ls : Array Slot), lv_has ls 3 [(0, .ref am), (1, .int y1), (2, .int y2)] → W p l e (headSpec wsX7_drownedOnes ({ frames := 1, cells := 0, slots := 0, locals := 22 })).room s m ([.ref am] : List Value).toArray below meth c s.heap [] 0 0 (MQ below (Qr (some (.int z))) ([.ref am] : List Value).toArray s 0 0 (fun _ => False)) (F0 m 4 ls []) := by
        intro y1 y2 hf ls hl
        have hf : (if (u_s (0 : Int32).toNatClampNeg) ≤ y2 then (some y1) else ((fX7_its n (M_isHeld, M_taped, M_token, M_from, M_to, M_value, M_isWrong, M_rowN, M_ran, M_actKind, M_actN, M_actA, M_isParted) u_s y2 (4 : Int32)).bind fun r18 => k4 ((y1 ||| (r18 <<< (y2 &&& 31))), (y2 + (1 : Int32))))) = some z := hf
        refine lv_iload_n hx hb dX7_drownedOnes_4 rfl (lv_at hl 2 rfl) ?_
        refine lv_aload_n hx hb dX7_drownedOnes_5 rfl (lv_at hl 0 rfl) ?_
        refine va_get (D := D) (ci := 7) (v := .ref am0) (C := RX7) (T := TX7) (N := 26) hx hb hts hin7 hown hK hP 0 rfl rfl 0 (by decide) fl7 (fun _ h9 => h9) rfl dX7_drownedOnes_6 ?_
        refine lv_iconst (v := (0 : Int32)) hx hb dX7_drownedOnes_9 (by decide) ?_
        refine va_iald hx hb hK hP 1 0 rfl rfl vi_0_48 dX7_drownedOnes_10 ?_
        refine lv_icmp_ge (tgt := 31) hx hb dX7_drownedOnes_11 (by decide) (fun c_11 => ?_) (fun c_11 => ?_)
        · have hf := zp hf c_11
          refine lv_iload_n hx hb dX7_drownedOnes_31 rfl (lv_at hl 1 rfl) ?_
          cases hf
          exact W.iret hx hb hr (fun t ht hW => ⟨rfl, ht⟩) (fun q h => absurd h List.not_mem_nil) dX7_drownedOnes_32
        · have hf := zn hf c_11
          refine lv_iload_n hx hb dX7_drownedOnes_14 rfl (lv_at hl 1 rfl) ?_
          refine lv_aload_n hx hb dX7_drownedOnes_15 rfl (lv_at hl 0 rfl) ?_
          refine lv_iload_n hx hb dX7_drownedOnes_16 rfl (lv_at hl 2 rfl) ?_
          refine lv_iconst (v := (4 : Int32)) hx hb dX7_drownedOnes_17 (by decide) ?_
          obtain ⟨r18, hc18, hf⟩ := zb hf
          refine zvr (o := some (.int r18)) (As := [.int y2, .int (4 : Int32)]) (rest := [.int y1]) (stk := [.int r18, .int y1]) ⟨hx, hb, hml, hown, hts⟩ (mX7_its l D cy st sk sv B am am0 am1 am2 am3 am4 am5 am6 am7 am8 am9 am10 am11 am12 n M_isHeld M_taped M_token M_from M_to M_value M_isWrong M_rowN M_ran M_actKind M_actN M_actA M_isParted u_s y2 (4 : Int32) r18 hc18) (cwV 2 hts gX7_drownedOnes_X7_its rfl rfl rfl (by decide +kernel) ⟨Nat.le_of_ble_eq_true rfl, Nat.le_of_ble_eq_true rfl⟩) hG hS hAB hP [0, 1] rfl 0 7 rfl rfl rfl rfl hl.1 rfl (Nat.le_of_ble_eq_true rfl) dX7_drownedOnes_18 rfl ?_
          refine lv_iload_n hx hb dX7_drownedOnes_21 rfl (lv_at hl 2 rfl) ?_
          refine lv_ishl hx hb dX7_drownedOnes_22 ?_
          refine lv_ior hx hb dX7_drownedOnes_23 ?_
          refine lv_istore_n (lv' := [(1, .int (y1 ||| (r18 <<< (y2 &&& 31)))), (0, .ref am), (2, .int y2)]) hx hb dX7_drownedOnes_24 rfl hl (by decide) rfl (fun ls hl => ?_)
          refine lv_iinc (v := (y2 + (1 : Int32))) (lv' := [(2, .int (y2 + (1 : Int32))), (1, .int (y1 ||| (r18 <<< (y2 &&& 31)))), (0, .ref am)]) hx hb dX7_drownedOnes_25 hl (k := 2) rfl rfl (by decide) rfl (fun ls hl => ?_)
          refine lv_goto (tgt := 4) hx hb dX7_drownedOnes_28 (by decide) ?_
          exact hk4 (y1 ||| (r18 <<< (y2 &&& 31))) (y2 + (1 : Int32)) hf _ (lv_sub hl [2, 1, 0] rfl)
      exact fun v4 h9 => hstep v4.1 v4.2 h9
    exact fun n0 y1 y2 h9 => key n0 (y1, y2) h9
  have hl := lv_entry ([.ref am]) (n := 3) (Nat.le_of_ble_eq_true rfl)
  rw [lg_entry_eq]
  generalize (lg_sl ([.ref am]) ++ List.replicate (3 - (lg_sl ([.ref am])).length) Slot.unset).toArray = ls at hl ⊢
  have hl : lv_has ls 3 [(0, .ref am)] := hl
  have hf : (lpF (fX7_drownedOnes_F4 n (M_isHeld, M_taped, M_token, M_from, M_to, M_value, M_isWrong, M_rowN, M_ran, M_actKind, M_actN, M_actA, M_isParted) u_s ) n ((0 : Int32), (0 : Int32))) = some z := hf
  refine lv_iconst (v := (0 : Int32)) hx hb dX7_drownedOnes_0 (by decide) ?_
  refine lv_istore_n (lv' := [(1, .int (0 : Int32)), (0, .ref am)]) hx hb dX7_drownedOnes_1 rfl hl (by decide) rfl (fun ls hl => ?_)
  refine lv_iconst (v := (0 : Int32)) hx hb dX7_drownedOnes_2 (by decide) ?_
  refine lv_istore_n (lv' := [(2, .int (0 : Int32)), (1, .int (0 : Int32)), (0, .ref am)]) hx hb dX7_drownedOnes_3 rfl hl (by decide) rfl (fun ls hl => ?_)
  exact hL4 n (0 : Int32) (0 : Int32) hf _ (lv_sub hl [2, 1, 0] rfl)
set_option maxRecDepth 100000 in
set_option maxHeartbeats 100000000 in
theorem mX7_goneOfAll (l : Launch) (D : va_G) (cy : Nat → ClassId) (st sk sv : Nat → Nat) (B : Nat) (am : Nat) (am0 : Nat) (am1 : Nat) (am2 : Nat) (am3 : Nat) (am4 : Nat) (am5 : Nat) (am6 : Nat) (am7 : Nat) (am8 : Nat) (am9 : Nat) (am10 : Nat) (am11 : Nat) (am12 : Nat) (n : Nat) (M_isHeld : Int32) (M_taped : Int32) (M_token : Int32) (M_from : Int32) (M_to : Int32) (M_value : Int32) (M_isWrong : Int32) (M_rowN : Int32) (M_ran : Int32) (M_actKind : Int32) (M_actN : Int32) (M_actA : Int32) (M_isParted : Int32) (u_s : (Nat → Int32))  (z : Int32) (hf : fX7_goneOfAll n (M_isHeld, M_taped, M_token, M_from, M_to, M_value, M_isWrong, M_rowN, M_ran, M_actKind, M_actN, M_actA, M_isParted) u_s = some z) : Met l yX7_goneOfAll wsX7_goneOfAll ({ frames := 1, cells := 0, slots := 0, locals := 22 }) (PcR [.ref am] D cy st sk sv B [(am, .inr (7, [.ref am0, .ref am1, .ref am2, .ref am3, .int M_isHeld, .ref am4, .int M_taped, .int M_token, .int M_from, .int M_to, .int M_value, .int M_isWrong, .ref am5, .int M_rowN, .ref am6, .ref am7, .ref am8, .ref am9, .ref am10, .ref am11, .ref am12, .int M_ran, .int M_actKind, .int M_actN, .int M_actA, .int M_isParted])), (am0, .inl (cy 0, 48, .inl u_s))]) (Qr (some (.int z))) 0 0 (fun _ => False) := by
  refine Met.ofW (cc := cX7_goneOfAll) (maxL := 3) (ret := (some .int)) (by decide) rfl ?_
  intro p e s m args below meth c s₁ Bd hml hv
  obtain ⟨rfl, hP, hG⟩ := hv
  have hx := Bd.exec
  have hb := Bd.bytes
  have hr := Bd.returns
  have hts := atoms_spec (ws := wsX7_goneOfAll) Bd.pre
  have hown : s.vm.findClass RX7 = some m.cls := findClass_of_methodNamed Bd.named
  have hlocks := Bd.notSynchronized
  have hK := hG.1
  have hS : va_S (fun q => B ≤ q) s.heap s.heap [] := va_S.rf
  have hAB : ∀ q, (fun q => B ≤ q) q → B ≤ q := fun _ h => h
  have hin7 : ∀ w ∈ u_ws RX7 TX7 26, w ∈ wsX7_goneOfAll := by decide +kernel
  have fl7 := hts (.fieldLink RX7 7 "KinCutleryModel" "s" "[I") (by decide +kernel)
  have hL4 : ∀ (n0 : Nat) (y1 : Int32) (y2 : Int32), lpF (fX7_goneOfAll_F4 n (M_isHeld, M_taped, M_token, M_from, M_to, M_value, M_isWrong, M_rowN, M_ran, M_actKind, M_actN, M_actA, M_isParted) u_s ) n0 (y1, y2) = some z → ∀ (ls : Array Slot), lv_has ls 3 [(0, .ref am), (1, .int y1), (2, .int y2)] → W p l e (headSpec wsX7_goneOfAll ({ frames := 1, cells := 0, slots := 0, locals := 22 })).room s m ([.ref am] : List Value).toArray below meth c s.heap [] 0 0 (MQ below (Qr (some (.int z))) ([.ref am] : List Value).toArray s 0 0 (fun _ => False)) (F0 m 4 ls []) := by
    have key : ∀ (n0 : Nat) (v4 : Int32 × Int32), lpF (fX7_goneOfAll_F4 n (M_isHeld, M_taped, M_token, M_from, M_to, M_value, M_isWrong, M_rowN, M_ran, M_actKind, M_actN, M_actA, M_isParted) u_s ) n0 v4 = some z → ∀ (ls : Array Slot), lv_has ls 3 [(0, .ref am), (1, .int v4.1), (2, .int v4.2)] → W p l e (headSpec wsX7_goneOfAll ({ frames := 1, cells := 0, slots := 0, locals := 22 })).room s m ([.ref am] : List Value).toArray below meth c s.heap [] 0 0 (MQ below (Qr (some (.int z))) ([.ref am] : List Value).toArray s 0 0 (fun _ => False)) (F0 m 4 ls []) := by
      refine lpW ?_
      intro k4 hk40
      have hk4 : ∀ (y1 : Int32) (y2 : Int32), k4 (y1, y2) = some z → ∀ (ls : Array Slot), lv_has ls 3 [(0, .ref am), (1, .int y1), (2, .int y2)] → W p l e (headSpec wsX7_goneOfAll ({ frames := 1, cells := 0, slots := 0, locals := 22 })).room s m ([.ref am] : List Value).toArray below meth c s.heap [] 0 0 (MQ below (Qr (some (.int z))) ([.ref am] : List Value).toArray s 0 0 (fun _ => False)) (F0 m 4 ls []) := fun y1 y2 h9 => hk40 (y1, y2) h9
      have hstep : ∀ (y1 : Int32) (y2 : Int32), fX7_goneOfAll_F4 n (M_isHeld, M_taped, M_token, M_from, M_to, M_value, M_isWrong, M_rowN, M_ran, M_actKind, M_actN, M_actA, M_isParted) u_s  k4 (y1, y2) = some z → ∀ (ls : Array Slot), lv_has ls 3 [(0, .ref am), (1, .int y1), (2, .int y2)] → W p l e (headSpec wsX7_goneOfAll ({ frames := 1, cells := 0, slots := 0, locals := 22 })).room s m ([.ref am] : List Value).toArray below meth c s.heap [] 0 0 (MQ below (Qr (some (.int z))) ([.ref am] : List Value).toArray s 0 0 (fun _ => False)) (F0 m 4 ls []) := by
        intro y1 y2 hf ls hl
        have hf : (if (u_s (0 : Int32).toNatClampNeg) ≤ y2 then (some y1) else ((fX7_its n (M_isHeld, M_taped, M_token, M_from, M_to, M_value, M_isWrong, M_rowN, M_ran, M_actKind, M_actN, M_actA, M_isParted) u_s y2 (2 : Int32)).bind fun r18 => k4 ((y1 + r18), (y2 + (1 : Int32))))) = some z := hf
        refine lv_iload_n hx hb dX7_goneOfAll_4 rfl (lv_at hl 2 rfl) ?_
        refine lv_aload_n hx hb dX7_goneOfAll_5 rfl (lv_at hl 0 rfl) ?_
        refine va_get (D := D) (ci := 7) (v := .ref am0) (C := RX7) (T := TX7) (N := 26) hx hb hts hin7 hown hK hP 0 rfl rfl 0 (by decide) fl7 (fun _ h9 => h9) rfl dX7_goneOfAll_6 ?_
        refine lv_iconst (v := (0 : Int32)) hx hb dX7_goneOfAll_9 (by decide) ?_
        refine va_iald hx hb hK hP 1 0 rfl rfl vi_0_48 dX7_goneOfAll_10 ?_
        refine lv_icmp_ge (tgt := 29) hx hb dX7_goneOfAll_11 (by decide) (fun c_11 => ?_) (fun c_11 => ?_)
        · have hf := zp hf c_11
          refine lv_iload_n hx hb dX7_goneOfAll_29 rfl (lv_at hl 1 rfl) ?_
          cases hf
          exact W.iret hx hb hr (fun t ht hW => ⟨rfl, ht⟩) (fun q h => absurd h List.not_mem_nil) dX7_goneOfAll_30
        · have hf := zn hf c_11
          refine lv_iload_n hx hb dX7_goneOfAll_14 rfl (lv_at hl 1 rfl) ?_
          refine lv_aload_n hx hb dX7_goneOfAll_15 rfl (lv_at hl 0 rfl) ?_
          refine lv_iload_n hx hb dX7_goneOfAll_16 rfl (lv_at hl 2 rfl) ?_
          refine lv_iconst (v := (2 : Int32)) hx hb dX7_goneOfAll_17 (by decide) ?_
          obtain ⟨r18, hc18, hf⟩ := zb hf
          refine zvr (o := some (.int r18)) (As := [.int y2, .int (2 : Int32)]) (rest := [.int y1]) (stk := [.int r18, .int y1]) ⟨hx, hb, hml, hown, hts⟩ (mX7_its l D cy st sk sv B am am0 am1 am2 am3 am4 am5 am6 am7 am8 am9 am10 am11 am12 n M_isHeld M_taped M_token M_from M_to M_value M_isWrong M_rowN M_ran M_actKind M_actN M_actA M_isParted u_s y2 (2 : Int32) r18 hc18) (cwV 2 hts gX7_goneOfAll_X7_its rfl rfl rfl (by decide +kernel) ⟨Nat.le_of_ble_eq_true rfl, Nat.le_of_ble_eq_true rfl⟩) hG hS hAB hP [0, 1] rfl 0 7 rfl rfl rfl rfl hl.1 rfl (Nat.le_of_ble_eq_true rfl) dX7_goneOfAll_18 rfl ?_
          refine lv_iadd hx hb dX7_goneOfAll_21 ?_
          refine lv_istore_n (lv' := [(1, .int (y1 + r18)), (0, .ref am), (2, .int y2)]) hx hb dX7_goneOfAll_22 rfl hl (by decide) rfl (fun ls hl => ?_)
          refine lv_iinc (v := (y2 + (1 : Int32))) (lv' := [(2, .int (y2 + (1 : Int32))), (1, .int (y1 + r18)), (0, .ref am)]) hx hb dX7_goneOfAll_23 hl (k := 2) rfl rfl (by decide) rfl (fun ls hl => ?_)
          refine lv_goto (tgt := 4) hx hb dX7_goneOfAll_26 (by decide) ?_
          exact hk4 (y1 + r18) (y2 + (1 : Int32)) hf _ (lv_sub hl [2, 1, 0] rfl)
      exact fun v4 h9 => hstep v4.1 v4.2 h9
    exact fun n0 y1 y2 h9 => key n0 (y1, y2) h9
  have hl := lv_entry ([.ref am]) (n := 3) (Nat.le_of_ble_eq_true rfl)
  rw [lg_entry_eq]
  generalize (lg_sl ([.ref am]) ++ List.replicate (3 - (lg_sl ([.ref am])).length) Slot.unset).toArray = ls at hl ⊢
  have hl : lv_has ls 3 [(0, .ref am)] := hl
  have hf : (lpF (fX7_goneOfAll_F4 n (M_isHeld, M_taped, M_token, M_from, M_to, M_value, M_isWrong, M_rowN, M_ran, M_actKind, M_actN, M_actA, M_isParted) u_s ) n ((0 : Int32), (0 : Int32))) = some z := hf
  refine lv_iconst (v := (0 : Int32)) hx hb dX7_goneOfAll_0 (by decide) ?_
  refine lv_istore_n (lv' := [(1, .int (0 : Int32)), (0, .ref am)]) hx hb dX7_goneOfAll_1 rfl hl (by decide) rfl (fun ls hl => ?_)
  refine lv_iconst (v := (0 : Int32)) hx hb dX7_goneOfAll_2 (by decide) ?_
  refine lv_istore_n (lv' := [(2, .int (0 : Int32)), (1, .int (0 : Int32)), (0, .ref am)]) hx hb dX7_goneOfAll_3 rfl hl (by decide) rfl (fun ls hl => ?_)
  exact hL4 n (0 : Int32) (0 : Int32) hf _ (lv_sub hl [2, 1, 0] rfl)
set_option maxRecDepth 100000 in
set_option maxHeartbeats 100000000 in
theorem mX7_pieces (l : Launch) (D : va_G) (cy : Nat → ClassId) (st sk sv : Nat → Nat) (B : Nat) (am : Nat) (am0 : Nat) (am1 : Nat) (am2 : Nat) (am3 : Nat) (am4 : Nat) (am5 : Nat) (am6 : Nat) (am7 : Nat) (am8 : Nat) (am9 : Nat) (am10 : Nat) (am11 : Nat) (am12 : Nat) (n : Nat) (M_isHeld : Int32) (M_taped : Int32) (M_token : Int32) (M_from : Int32) (M_to : Int32) (M_value : Int32) (M_isWrong : Int32) (M_rowN : Int32) (M_ran : Int32) (M_actKind : Int32) (M_actN : Int32) (M_actA : Int32) (M_isParted : Int32) (u_s : (Nat → Int32))  (z : Int32) (hf : fX7_pieces n (M_isHeld, M_taped, M_token, M_from, M_to, M_value, M_isWrong, M_rowN, M_ran, M_actKind, M_actN, M_actA, M_isParted) u_s = some z) : Met l yX7_pieces wsX7_pieces ({ frames := 1, cells := 0, slots := 0, locals := 22 }) (PcR [.ref am] D cy st sk sv B [(am, .inr (7, [.ref am0, .ref am1, .ref am2, .ref am3, .int M_isHeld, .ref am4, .int M_taped, .int M_token, .int M_from, .int M_to, .int M_value, .int M_isWrong, .ref am5, .int M_rowN, .ref am6, .ref am7, .ref am8, .ref am9, .ref am10, .ref am11, .ref am12, .int M_ran, .int M_actKind, .int M_actN, .int M_actA, .int M_isParted])), (am0, .inl (cy 0, 48, .inl u_s))]) (Qr (some (.int z))) 0 0 (fun _ => False) := by
  refine Met.ofW (cc := cX7_pieces) (maxL := 3) (ret := (some .int)) (by decide) rfl ?_
  intro p e s m args below meth c s₁ Bd hml hv
  obtain ⟨rfl, hP, hG⟩ := hv
  have hx := Bd.exec
  have hb := Bd.bytes
  have hr := Bd.returns
  have hts := atoms_spec (ws := wsX7_pieces) Bd.pre
  have hown : s.vm.findClass RX7 = some m.cls := findClass_of_methodNamed Bd.named
  have hlocks := Bd.notSynchronized
  have hK := hG.1
  have hS : va_S (fun q => B ≤ q) s.heap s.heap [] := va_S.rf
  have hAB : ∀ q, (fun q => B ≤ q) q → B ≤ q := fun _ h => h
  have hin7 : ∀ w ∈ u_ws RX7 TX7 26, w ∈ wsX7_pieces := by decide +kernel
  have fl7 := hts (.fieldLink RX7 7 "KinCutleryModel" "s" "[I") (by decide +kernel)
  have hL4 : ∀ (n0 : Nat) (y1 : Int32) (y2 : Int32), lpF (fX7_pieces_F4 n (M_isHeld, M_taped, M_token, M_from, M_to, M_value, M_isWrong, M_rowN, M_ran, M_actKind, M_actN, M_actA, M_isParted) u_s ) n0 (y1, y2) = some z → ∀ (ls : Array Slot), lv_has ls 3 [(0, .ref am), (1, .int y1), (2, .int y2)] → W p l e (headSpec wsX7_pieces ({ frames := 1, cells := 0, slots := 0, locals := 22 })).room s m ([.ref am] : List Value).toArray below meth c s.heap [] 0 0 (MQ below (Qr (some (.int z))) ([.ref am] : List Value).toArray s 0 0 (fun _ => False)) (F0 m 4 ls []) := by
    have key : ∀ (n0 : Nat) (v4 : Int32 × Int32), lpF (fX7_pieces_F4 n (M_isHeld, M_taped, M_token, M_from, M_to, M_value, M_isWrong, M_rowN, M_ran, M_actKind, M_actN, M_actA, M_isParted) u_s ) n0 v4 = some z → ∀ (ls : Array Slot), lv_has ls 3 [(0, .ref am), (1, .int v4.1), (2, .int v4.2)] → W p l e (headSpec wsX7_pieces ({ frames := 1, cells := 0, slots := 0, locals := 22 })).room s m ([.ref am] : List Value).toArray below meth c s.heap [] 0 0 (MQ below (Qr (some (.int z))) ([.ref am] : List Value).toArray s 0 0 (fun _ => False)) (F0 m 4 ls []) := by
      refine lpW ?_
      intro k4 hk40
      have hk4 : ∀ (y1 : Int32) (y2 : Int32), k4 (y1, y2) = some z → ∀ (ls : Array Slot), lv_has ls 3 [(0, .ref am), (1, .int y1), (2, .int y2)] → W p l e (headSpec wsX7_pieces ({ frames := 1, cells := 0, slots := 0, locals := 22 })).room s m ([.ref am] : List Value).toArray below meth c s.heap [] 0 0 (MQ below (Qr (some (.int z))) ([.ref am] : List Value).toArray s 0 0 (fun _ => False)) (F0 m 4 ls []) := fun y1 y2 h9 => hk40 (y1, y2) h9
      have hB36 : ∀ (y2 : Int32) (w0 : Int32) (w1 : Int32), fX7_pieces_b36 n (M_isHeld, M_taped, M_token, M_from, M_to, M_value, M_isWrong, M_rowN, M_ran, M_actKind, M_actN, M_actA, M_isParted) u_s k4 y2 w0 w1 = some z → ∀ (ls : Array Slot), lv_has ls 3 [(0, .ref am), (2, .int y2)] → W p l e (headSpec wsX7_pieces ({ frames := 1, cells := 0, slots := 0, locals := 22 })).room s m ([.ref am] : List Value).toArray below meth c s.heap [] 0 0 (MQ below (Qr (some (.int z))) ([.ref am] : List Value).toArray s 0 0 (fun _ => False)) (F0 m 36 ls [.int w1, .int w0]) := by
        intro y2 w0 w1 hf ls hl
        have hf : (k4 ((w0 ||| w1), (y2 + (1 : Int32)))) = some z := hf
        refine lv_ior hx hb dX7_pieces_36 ?_
        refine lv_istore_n (lv' := [(1, .int (w0 ||| w1)), (0, .ref am), (2, .int y2)]) hx hb dX7_pieces_37 rfl hl (by decide) rfl (fun ls hl => ?_)
        refine lv_iinc (v := (y2 + (1 : Int32))) (lv' := [(2, .int (y2 + (1 : Int32))), (1, .int (w0 ||| w1)), (0, .ref am)]) hx hb dX7_pieces_38 hl (k := 2) rfl rfl (by decide) rfl (fun ls hl => ?_)
        refine lv_goto (tgt := 4) hx hb dX7_pieces_41 (by decide) ?_
        exact hk4 (w0 ||| w1) (y2 + (1 : Int32)) hf _ (lv_sub hl [2, 1, 0] rfl)
      have hstep : ∀ (y1 : Int32) (y2 : Int32), fX7_pieces_F4 n (M_isHeld, M_taped, M_token, M_from, M_to, M_value, M_isWrong, M_rowN, M_ran, M_actKind, M_actN, M_actA, M_isParted) u_s  k4 (y1, y2) = some z → ∀ (ls : Array Slot), lv_has ls 3 [(0, .ref am), (1, .int y1), (2, .int y2)] → W p l e (headSpec wsX7_pieces ({ frames := 1, cells := 0, slots := 0, locals := 22 })).room s m ([.ref am] : List Value).toArray below meth c s.heap [] 0 0 (MQ below (Qr (some (.int z))) ([.ref am] : List Value).toArray s 0 0 (fun _ => False)) (F0 m 4 ls []) := by
        intro y1 y2 hf ls hl
        have hf : (if (u_s (0 : Int32).toNatClampNeg) ≤ y2 then (some y1) else ((fX7_its n (M_isHeld, M_taped, M_token, M_from, M_to, M_value, M_isWrong, M_rowN, M_ran, M_actKind, M_actN, M_actA, M_isParted) u_s y2 (4 : Int32)).bind fun r18 => if r18 = 0 then ((fX7_its n (M_isHeld, M_taped, M_token, M_from, M_to, M_value, M_isWrong, M_rowN, M_ran, M_actKind, M_actN, M_actA, M_isParted) u_s y2 (1 : Int32)).bind fun r28 => fX7_pieces_b36 n (M_isHeld, M_taped, M_token, M_from, M_to, M_value, M_isWrong, M_rowN, M_ran, M_actKind, M_actN, M_actA, M_isParted) u_s k4 y2 y1 ((1 : Int32) <<< (r28 &&& 31))) else (fX7_pieces_b36 n (M_isHeld, M_taped, M_token, M_from, M_to, M_value, M_isWrong, M_rowN, M_ran, M_actKind, M_actN, M_actA, M_isParted) u_s k4 y2 y1 (0 : Int32)))) = some z := hf
        refine lv_iload_n hx hb dX7_pieces_4 rfl (lv_at hl 2 rfl) ?_
        refine lv_aload_n hx hb dX7_pieces_5 rfl (lv_at hl 0 rfl) ?_
        refine va_get (D := D) (ci := 7) (v := .ref am0) (C := RX7) (T := TX7) (N := 26) hx hb hts hin7 hown hK hP 0 rfl rfl 0 (by decide) fl7 (fun _ h9 => h9) rfl dX7_pieces_6 ?_
        refine lv_iconst (v := (0 : Int32)) hx hb dX7_pieces_9 (by decide) ?_
        refine va_iald hx hb hK hP 1 0 rfl rfl vi_0_48 dX7_pieces_10 ?_
        refine lv_icmp_ge (tgt := 44) hx hb dX7_pieces_11 (by decide) (fun c_11 => ?_) (fun c_11 => ?_)
        · have hf := zp hf c_11
          refine lv_iload_n hx hb dX7_pieces_44 rfl (lv_at hl 1 rfl) ?_
          cases hf
          exact W.iret hx hb hr (fun t ht hW => ⟨rfl, ht⟩) (fun q h => absurd h List.not_mem_nil) dX7_pieces_45
        · have hf := zn hf c_11
          refine lv_iload_n hx hb dX7_pieces_14 rfl (lv_at hl 1 rfl) ?_
          refine lv_aload_n hx hb dX7_pieces_15 rfl (lv_at hl 0 rfl) ?_
          refine lv_iload_n hx hb dX7_pieces_16 rfl (lv_at hl 2 rfl) ?_
          refine lv_iconst (v := (4 : Int32)) hx hb dX7_pieces_17 (by decide) ?_
          obtain ⟨r18, hc18, hf⟩ := zb hf
          refine zvr (o := some (.int r18)) (As := [.int y2, .int (4 : Int32)]) (rest := [.int y1]) (stk := [.int r18, .int y1]) ⟨hx, hb, hml, hown, hts⟩ (mX7_its l D cy st sk sv B am am0 am1 am2 am3 am4 am5 am6 am7 am8 am9 am10 am11 am12 n M_isHeld M_taped M_token M_from M_to M_value M_isWrong M_rowN M_ran M_actKind M_actN M_actA M_isParted u_s y2 (4 : Int32) r18 hc18) (cwV 2 hts gX7_pieces_X7_its rfl rfl rfl (by decide +kernel) ⟨Nat.le_of_ble_eq_true rfl, Nat.le_of_ble_eq_true rfl⟩) hG hS hAB hP [0, 1] rfl 0 7 rfl rfl rfl rfl hl.1 rfl (Nat.le_of_ble_eq_true rfl) dX7_pieces_18 rfl ?_
          refine lv_if_ne (tgt := 35) hx hb dX7_pieces_21 (by decide) (fun c_21 => ?_) (fun c_21 => ?_)
          · have hf := zn hf c_21
            refine lv_iconst (v := (0 : Int32)) hx hb dX7_pieces_35 (by decide) ?_
            exact hB36 y2 y1 (0 : Int32) hf _ (lv_sub hl [0, 2] rfl)
          · have hf := zp hf c_21
            refine lv_iconst (v := (1 : Int32)) hx hb dX7_pieces_24 (by decide) ?_
            refine lv_aload_n hx hb dX7_pieces_25 rfl (lv_at hl 0 rfl) ?_
            refine lv_iload_n hx hb dX7_pieces_26 rfl (lv_at hl 2 rfl) ?_
            refine lv_iconst (v := (1 : Int32)) hx hb dX7_pieces_27 (by decide) ?_
            obtain ⟨r28, hc28, hf⟩ := zb hf
            refine zvr (o := some (.int r28)) (As := [.int y2, .int (1 : Int32)]) (rest := [.int (1 : Int32), .int y1]) (stk := [.int r28, .int (1 : Int32), .int y1]) ⟨hx, hb, hml, hown, hts⟩ (mX7_its l D cy st sk sv B am am0 am1 am2 am3 am4 am5 am6 am7 am8 am9 am10 am11 am12 n M_isHeld M_taped M_token M_from M_to M_value M_isWrong M_rowN M_ran M_actKind M_actN M_actA M_isParted u_s y2 (1 : Int32) r28 hc28) (cwV 2 hts gX7_pieces_X7_its rfl rfl rfl (by decide +kernel) ⟨Nat.le_of_ble_eq_true rfl, Nat.le_of_ble_eq_true rfl⟩) hG hS hAB hP [0, 1] rfl 0 7 rfl rfl rfl rfl hl.1 rfl (Nat.le_of_ble_eq_true rfl) dX7_pieces_28 rfl ?_
            refine lv_ishl hx hb dX7_pieces_31 ?_
            refine lv_goto (tgt := 36) hx hb dX7_pieces_32 (by decide) ?_
            exact hB36 y2 y1 ((1 : Int32) <<< (r28 &&& 31)) hf _ (lv_sub hl [0, 2] rfl)
      exact fun v4 h9 => hstep v4.1 v4.2 h9
    exact fun n0 y1 y2 h9 => key n0 (y1, y2) h9
  have hl := lv_entry ([.ref am]) (n := 3) (Nat.le_of_ble_eq_true rfl)
  rw [lg_entry_eq]
  generalize (lg_sl ([.ref am]) ++ List.replicate (3 - (lg_sl ([.ref am])).length) Slot.unset).toArray = ls at hl ⊢
  have hl : lv_has ls 3 [(0, .ref am)] := hl
  have hf : (lpF (fX7_pieces_F4 n (M_isHeld, M_taped, M_token, M_from, M_to, M_value, M_isWrong, M_rowN, M_ran, M_actKind, M_actN, M_actA, M_isParted) u_s ) n ((0 : Int32), (0 : Int32))) = some z := hf
  refine lv_iconst (v := (0 : Int32)) hx hb dX7_pieces_0 (by decide) ?_
  refine lv_istore_n (lv' := [(1, .int (0 : Int32)), (0, .ref am)]) hx hb dX7_pieces_1 rfl hl (by decide) rfl (fun ls hl => ?_)
  refine lv_iconst (v := (0 : Int32)) hx hb dX7_pieces_2 (by decide) ?_
  refine lv_istore_n (lv' := [(2, .int (0 : Int32)), (1, .int (0 : Int32)), (0, .ref am)]) hx hb dX7_pieces_3 rfl hl (by decide) rfl (fun ls hl => ?_)
  exact hL4 n (0 : Int32) (0 : Int32) hf _ (lv_sub hl [2, 1, 0] rfl)
set_option maxRecDepth 100000 in
set_option maxHeartbeats 100000000 in
theorem mX7_gap (l : Launch) (D : va_G) (cy : Nat → ClassId) (st sk sv : Nat → Nat) (B : Nat) (am : Nat) (am0 : Nat) (am1 : Nat) (am2 : Nat) (am3 : Nat) (am4 : Nat) (am5 : Nat) (am6 : Nat) (am7 : Nat) (am8 : Nat) (am9 : Nat) (am10 : Nat) (am11 : Nat) (am12 : Nat) (n : Nat) (M_isHeld : Int32) (M_taped : Int32) (M_token : Int32) (M_from : Int32) (M_to : Int32) (M_value : Int32) (M_isWrong : Int32) (M_rowN : Int32) (M_ran : Int32) (M_actKind : Int32) (M_actN : Int32) (M_actA : Int32) (M_isParted : Int32) (u_s : (Nat → Int32))  (z : Int32) (hf : fX7_gap n (M_isHeld, M_taped, M_token, M_from, M_to, M_value, M_isWrong, M_rowN, M_ran, M_actKind, M_actN, M_actA, M_isParted) u_s = some z) : Met l yX7_gap wsX7_gap ({ frames := 2, cells := 0, slots := 0, locals := 44 }) (PcR [.ref am] D cy st sk sv B [(am, .inr (7, [.ref am0, .ref am1, .ref am2, .ref am3, .int M_isHeld, .ref am4, .int M_taped, .int M_token, .int M_from, .int M_to, .int M_value, .int M_isWrong, .ref am5, .int M_rowN, .ref am6, .ref am7, .ref am8, .ref am9, .ref am10, .ref am11, .ref am12, .int M_ran, .int M_actKind, .int M_actN, .int M_actA, .int M_isParted])), (am0, .inl (cy 0, 48, .inl u_s))]) (Qr (some (.int z))) 0 0 (fun _ => False) := by
  refine Met.ofW (cc := cX7_gap) (maxL := 4) (ret := (some .int)) (by decide) rfl ?_
  intro p e s m args below meth c s₁ Bd hml hv
  obtain ⟨rfl, hP, hG⟩ := hv
  have hx := Bd.exec
  have hb := Bd.bytes
  have hr := Bd.returns
  have hts := atoms_spec (ws := wsX7_gap) Bd.pre
  have hown : s.vm.findClass RX7 = some m.cls := findClass_of_methodNamed Bd.named
  have hlocks := Bd.notSynchronized
  have hK := hG.1
  have hS : va_S (fun q => B ≤ q) s.heap s.heap [] := va_S.rf
  have hAB : ∀ q, (fun q => B ≤ q) q → B ≤ q := fun _ h => h
  have hL7 : ∀ (n0 : Nat) (y1 : Int32) (y2 : Int32), lpF (fX7_gap_F7 n (M_isHeld, M_taped, M_token, M_from, M_to, M_value, M_isWrong, M_rowN, M_ran, M_actKind, M_actN, M_actA, M_isParted) u_s ) n0 (y1, y2) = some z → ∀ (ls : Array Slot), lv_has ls 4 [(0, .ref am), (1, .int y1), (2, .int y2)] → W p l e (headSpec wsX7_gap ({ frames := 2, cells := 0, slots := 0, locals := 44 })).room s m ([.ref am] : List Value).toArray below meth c s.heap [] 0 0 (MQ below (Qr (some (.int z))) ([.ref am] : List Value).toArray s 0 0 (fun _ => False)) (F0 m 7 ls []) := by
    have key : ∀ (n0 : Nat) (v7 : Int32 × Int32), lpF (fX7_gap_F7 n (M_isHeld, M_taped, M_token, M_from, M_to, M_value, M_isWrong, M_rowN, M_ran, M_actKind, M_actN, M_actA, M_isParted) u_s ) n0 v7 = some z → ∀ (ls : Array Slot), lv_has ls 4 [(0, .ref am), (1, .int v7.1), (2, .int v7.2)] → W p l e (headSpec wsX7_gap ({ frames := 2, cells := 0, slots := 0, locals := 44 })).room s m ([.ref am] : List Value).toArray below meth c s.heap [] 0 0 (MQ below (Qr (some (.int z))) ([.ref am] : List Value).toArray s 0 0 (fun _ => False)) (F0 m 7 ls []) := by
      refine lpW ?_
      intro k7 hk70
      have hk7 : ∀ (y1 : Int32) (y2 : Int32), k7 (y1, y2) = some z → ∀ (ls : Array Slot), lv_has ls 4 [(0, .ref am), (1, .int y1), (2, .int y2)] → W p l e (headSpec wsX7_gap ({ frames := 2, cells := 0, slots := 0, locals := 44 })).room s m ([.ref am] : List Value).toArray below meth c s.heap [] 0 0 (MQ below (Qr (some (.int z))) ([.ref am] : List Value).toArray s 0 0 (fun _ => False)) (F0 m 7 ls []) := fun y1 y2 h9 => hk70 (y1, y2) h9
      have hstep : ∀ (y1 : Int32) (y2 : Int32), fX7_gap_F7 n (M_isHeld, M_taped, M_token, M_from, M_to, M_value, M_isWrong, M_rowN, M_ran, M_actKind, M_actN, M_actA, M_isParted) u_s  k7 (y1, y2) = some z → ∀ (ls : Array Slot), lv_has ls 4 [(0, .ref am), (1, .int y1), (2, .int y2)] → W p l e (headSpec wsX7_gap ({ frames := 2, cells := 0, slots := 0, locals := 44 })).room s m ([.ref am] : List Value).toArray below meth c s.heap [] 0 0 (MQ below (Qr (some (.int z))) ([.ref am] : List Value).toArray s 0 0 (fun _ => False)) (F0 m 7 ls []) := by
        intro y1 y2 hf ls hl
        have hf : (if (8 : Int32) ≤ y2 then (some (8 : Int32)) else ((fX7_next n (M_isHeld, M_taped, M_token, M_from, M_to, M_value, M_isWrong, M_rowN, M_ran, M_actKind, M_actN, M_actA, M_isParted) u_s).bind fun r14 => if ((y1 >>> (((r14 + y2) - (r14 + y2) / (8 : Int32) * (8 : Int32)) &&& 31)) &&& (1 : Int32)) = 0 then (some ((r14 + y2) - (r14 + y2) / (8 : Int32) * (8 : Int32))) else (k7 (y1, (y2 + (1 : Int32)))))) = some z := hf
        refine lv_iload_n hx hb dX7_gap_7 rfl (lv_at hl 2 rfl) ?_
        refine lv_bipush (v := (8 : Int32)) hx hb dX7_gap_8 (by decide) ?_
        refine lv_icmp_ge (tgt := 39) hx hb dX7_gap_10 (by decide) (fun c_10 => ?_) (fun c_10 => ?_)
        · have hf := zp hf c_10
          refine lv_bipush (v := (8 : Int32)) hx hb dX7_gap_39 (by decide) ?_
          cases hf
          exact W.iret hx hb hr (fun t ht hW => ⟨rfl, ht⟩) (fun q h => absurd h List.not_mem_nil) dX7_gap_41
        · have hf := zn hf c_10
          refine lv_aload_n hx hb dX7_gap_13 rfl (lv_at hl 0 rfl) ?_
          obtain ⟨r14, hc14, hf⟩ := zb hf
          refine zvr (o := some (.int r14)) (As := []) (rest := []) (stk := [.int r14]) ⟨hx, hb, hml, hown, hts⟩ (mX7_next l D cy st sk sv B am am0 am1 am2 am3 am4 am5 am6 am7 am8 am9 am10 am11 am12 n M_isHeld M_taped M_token M_from M_to M_value M_isWrong M_rowN M_ran M_actKind M_actN M_actA M_isParted u_s r14 hc14) (cwV 0 hts gX7_gap_X7_next rfl rfl rfl (by decide +kernel) ⟨Nat.le_of_ble_eq_true rfl, Nat.le_of_ble_eq_true rfl⟩) hG hS hAB hP [0, 1] rfl 0 7 rfl rfl rfl rfl hl.1 rfl (Nat.le_of_ble_eq_true rfl) dX7_gap_14 rfl ?_
          refine lv_iload_n hx hb dX7_gap_17 rfl (lv_at hl 2 rfl) ?_
          refine lv_iadd hx hb dX7_gap_18 ?_
          refine lv_bipush (v := (8 : Int32)) hx hb dX7_gap_19 (by decide) ?_
          refine lv_irem hx hb dX7_gap_21 (by decide) ?_
          refine lv_istore_n (lv' := [(3, .int ((r14 + y2) - (r14 + y2) / (8 : Int32) * (8 : Int32))), (0, .ref am), (1, .int y1), (2, .int y2)]) hx hb dX7_gap_22 rfl hl (by decide) rfl (fun ls hl => ?_)
          refine lv_iload_n hx hb dX7_gap_23 rfl (lv_at hl 2 rfl) ?_
          refine lv_iload_n hx hb dX7_gap_24 rfl (lv_at hl 0 rfl) ?_
          refine lv_ishr hx hb dX7_gap_25 ?_
          refine lv_iconst (v := (1 : Int32)) hx hb dX7_gap_26 (by decide) ?_
          refine lv_iand hx hb dX7_gap_27 ?_
          refine lv_if_ne (tgt := 33) hx hb dX7_gap_28 (by decide) (fun c_28 => ?_) (fun c_28 => ?_)
          · have hf := zn hf c_28
            refine lv_iinc (v := (y2 + (1 : Int32))) (lv' := [(2, .int (y2 + (1 : Int32))), (3, .int ((r14 + y2) - (r14 + y2) / (8 : Int32) * (8 : Int32))), (0, .ref am), (1, .int y1)]) hx hb dX7_gap_33 hl (k := 3) rfl rfl (by decide) rfl (fun ls hl => ?_)
            refine lv_goto (tgt := 7) hx hb dX7_gap_36 (by decide) ?_
            exact hk7 y1 (y2 + (1 : Int32)) hf _ (lv_sub hl [2, 3, 0] rfl)
          · have hf := zp hf c_28
            refine lv_iload_n hx hb dX7_gap_31 rfl (lv_at hl 0 rfl) ?_
            cases hf
            exact W.iret hx hb hr (fun t ht hW => ⟨rfl, ht⟩) (fun q h => absurd h List.not_mem_nil) dX7_gap_32
      exact fun v7 h9 => hstep v7.1 v7.2 h9
    exact fun n0 y1 y2 h9 => key n0 (y1, y2) h9
  have hl := lv_entry ([.ref am]) (n := 4) (Nat.le_of_ble_eq_true rfl)
  rw [lg_entry_eq]
  generalize (lg_sl ([.ref am]) ++ List.replicate (4 - (lg_sl ([.ref am])).length) Slot.unset).toArray = ls at hl ⊢
  have hl : lv_has ls 4 [(0, .ref am)] := hl
  have hf : ((fX7_pieces n (M_isHeld, M_taped, M_token, M_from, M_to, M_value, M_isWrong, M_rowN, M_ran, M_actKind, M_actN, M_actA, M_isParted) u_s).bind fun r1 => lpF (fX7_gap_F7 n (M_isHeld, M_taped, M_token, M_from, M_to, M_value, M_isWrong, M_rowN, M_ran, M_actKind, M_actN, M_actA, M_isParted) u_s ) n (r1, (0 : Int32))) = some z := hf
  refine lv_aload_n hx hb dX7_gap_0 rfl (lv_at hl 0 rfl) ?_
  obtain ⟨r1, hc1, hf⟩ := zb hf
  refine zvr (o := some (.int r1)) (As := []) (rest := []) (stk := [.int r1]) ⟨hx, hb, hml, hown, hts⟩ (mX7_pieces l D cy st sk sv B am am0 am1 am2 am3 am4 am5 am6 am7 am8 am9 am10 am11 am12 n M_isHeld M_taped M_token M_from M_to M_value M_isWrong M_rowN M_ran M_actKind M_actN M_actA M_isParted u_s r1 hc1) (cwV 0 hts gX7_gap_X7_pieces rfl rfl rfl (by decide +kernel) ⟨Nat.le_of_ble_eq_true rfl, Nat.le_of_ble_eq_true rfl⟩) hG hS hAB hP [0, 1] rfl 0 7 rfl rfl rfl rfl hl.1 rfl (Nat.le_of_ble_eq_true rfl) dX7_gap_1 rfl ?_
  refine lv_istore_n (lv' := [(1, .int r1), (0, .ref am)]) hx hb dX7_gap_4 rfl hl (by decide) rfl (fun ls hl => ?_)
  refine lv_iconst (v := (0 : Int32)) hx hb dX7_gap_5 (by decide) ?_
  refine lv_istore_n (lv' := [(2, .int (0 : Int32)), (1, .int r1), (0, .ref am)]) hx hb dX7_gap_6 rfl hl (by decide) rfl (fun ls hl => ?_)
  exact hL7 n r1 (0 : Int32) hf _ (lv_sub hl [2, 1, 0] rfl)
set_option maxRecDepth 100000 in
set_option maxHeartbeats 100000000 in
theorem mX7_state (l : Launch) (D : va_G) (cy : Nat → ClassId) (st sk sv : Nat → Nat) (B : Nat) (am : Nat) (am0 : Nat) (am1 : Nat) (am2 : Nat) (am3 : Nat) (am4 : Nat) (am5 : Nat) (am6 : Nat) (am7 : Nat) (am8 : Nat) (am9 : Nat) (am10 : Nat) (am11 : Nat) (am12 : Nat) (n : Nat) (M_isHeld : Int32) (M_taped : Int32) (M_token : Int32) (M_from : Int32) (M_to : Int32) (M_value : Int32) (M_isWrong : Int32) (M_rowN : Int32) (M_ran : Int32) (M_actKind : Int32) (M_actN : Int32) (M_actA : Int32) (M_isParted : Int32) (u_s : (Nat → Int32)) (x1 : Int32) (z : Int32) (hf : fX7_state n (M_isHeld, M_taped, M_token, M_from, M_to, M_value, M_isWrong, M_rowN, M_ran, M_actKind, M_actN, M_actA, M_isParted) u_s x1 = some z) : Met l yX7_state wsX7_state ({ frames := 3, cells := 0, slots := 0, locals := 67 }) (PcR [.ref am, .int x1] D cy st sk sv B [(am, .inr (7, [.ref am0, .ref am1, .ref am2, .ref am3, .int M_isHeld, .ref am4, .int M_taped, .int M_token, .int M_from, .int M_to, .int M_value, .int M_isWrong, .ref am5, .int M_rowN, .ref am6, .ref am7, .ref am8, .ref am9, .ref am10, .ref am11, .ref am12, .int M_ran, .int M_actKind, .int M_actN, .int M_actA, .int M_isParted])), (am0, .inl (cy 0, 48, .inl u_s))]) (Qr (some (.int z))) 0 0 (fun _ => False) := by
  refine Met.ofW (cc := cX7_state) (maxL := 2) (ret := (some .int)) (by decide) rfl ?_
  intro p e s m args below meth c s₁ Bd hml hv
  obtain ⟨rfl, hP, hG⟩ := hv
  have hx := Bd.exec
  have hb := Bd.bytes
  have hr := Bd.returns
  have hts := atoms_spec (ws := wsX7_state) Bd.pre
  have hown : s.vm.findClass RX7 = some m.cls := findClass_of_methodNamed Bd.named
  have hlocks := Bd.notSynchronized
  have hK := hG.1
  have hS : va_S (fun q => B ≤ q) s.heap s.heap [] := va_S.rf
  have hAB : ∀ q, (fun q => B ≤ q) q → B ≤ q := fun _ h => h
  have hin7 : ∀ w ∈ u_ws RX7 TX7 26, w ∈ wsX7_state := by decide +kernel
  have fl7 := hts (.fieldLink RX7 7 "KinCutleryModel" "s" "[I") (by decide +kernel)
  have hl := lv_entry ([.ref am, .int x1]) (n := 2) (Nat.le_of_ble_eq_true rfl)
  rw [lg_entry_eq]
  generalize (lg_sl ([.ref am, .int x1]) ++ List.replicate (2 - (lg_sl ([.ref am, .int x1])).length) Slot.unset).toArray = ls at hl ⊢
  have hl : lv_has ls 2 [(0, .ref am), (1, .int x1)] := hl
  have hf : (if x1 = (0 : Int32) then (some (u_s (1 : Int32).toNatClampNeg)) else if x1 = (1 : Int32) then (some (u_s (3 : Int32).toNatClampNeg)) else if x1 = (2 : Int32) then ((fX7_next n (M_isHeld, M_taped, M_token, M_from, M_to, M_value, M_isWrong, M_rowN, M_ran, M_actKind, M_actN, M_actA, M_isParted) u_s).bind fun r55 => some r55) else if x1 = (3 : Int32) then ((fX7_drownedOnes n (M_isHeld, M_taped, M_token, M_from, M_to, M_value, M_isWrong, M_rowN, M_ran, M_actKind, M_actN, M_actA, M_isParted) u_s).bind fun r60 => some r60) else if x1 = (4 : Int32) then ((fX7_goneOfAll n (M_isHeld, M_taped, M_token, M_from, M_to, M_value, M_isWrong, M_rowN, M_ran, M_actKind, M_actN, M_actA, M_isParted) u_s).bind fun r65 => some r65) else if x1 = (5 : Int32) then ((fX7_gap n (M_isHeld, M_taped, M_token, M_from, M_to, M_value, M_isWrong, M_rowN, M_ran, M_actKind, M_actN, M_actA, M_isParted) u_s).bind fun r70 => some r70) else  (some (-1 : Int32))) = some z := hf
  refine lv_iload_n hx hb dX7_state_0 rfl (lv_at hl 1 rfl) ?_
  by_cases c_1_0 : x1 = (0 : Int32)
  · have hf := zp hf c_1_0
    refine lv_tableIn (tgt := 40) hx hb dX7_state_1 (by rw [c_1_0]; decide) (by rw [c_1_0]; decide) (by rw [c_1_0]; rfl) (by decide) ?_
    refine lv_aload_n hx hb dX7_state_40 rfl (lv_at hl 0 rfl) ?_
    refine va_get (D := D) (ci := 7) (v := .ref am0) (C := RX7) (T := TX7) (N := 26) hx hb hts hin7 hown hK hP 0 rfl rfl 0 (by decide) fl7 (fun _ h9 => h9) rfl dX7_state_41 ?_
    refine lv_iconst (v := (1 : Int32)) hx hb dX7_state_44 (by decide) ?_
    refine va_iald hx hb hK hP 1 0 rfl rfl vi_1_48 dX7_state_45 ?_
    cases hf
    exact W.iret hx hb hr (fun t ht hW => ⟨rfl, ht⟩) (fun q h => absurd h List.not_mem_nil) dX7_state_46
  have hf := zn hf c_1_0
  by_cases c_1_1 : x1 = (1 : Int32)
  · have hf := zp hf c_1_1
    refine lv_tableIn (tgt := 47) hx hb dX7_state_1 (by rw [c_1_1]; decide) (by rw [c_1_1]; decide) (by rw [c_1_1]; rfl) (by decide) ?_
    refine lv_aload_n hx hb dX7_state_47 rfl (lv_at hl 0 rfl) ?_
    refine va_get (D := D) (ci := 7) (v := .ref am0) (C := RX7) (T := TX7) (N := 26) hx hb hts hin7 hown hK hP 0 rfl rfl 0 (by decide) fl7 (fun _ h9 => h9) rfl dX7_state_48 ?_
    refine lv_iconst (v := (3 : Int32)) hx hb dX7_state_51 (by decide) ?_
    refine va_iald hx hb hK hP 1 0 rfl rfl vi_3_48 dX7_state_52 ?_
    cases hf
    exact W.iret hx hb hr (fun t ht hW => ⟨rfl, ht⟩) (fun q h => absurd h List.not_mem_nil) dX7_state_53
  have hf := zn hf c_1_1
  by_cases c_1_2 : x1 = (2 : Int32)
  · have hf := zp hf c_1_2
    refine lv_tableIn (tgt := 54) hx hb dX7_state_1 (by rw [c_1_2]; decide) (by rw [c_1_2]; decide) (by rw [c_1_2]; rfl) (by decide) ?_
    refine lv_aload_n hx hb dX7_state_54 rfl (lv_at hl 0 rfl) ?_
    obtain ⟨r55, hc55, hf⟩ := zb hf
    refine zvr (o := some (.int r55)) (As := []) (rest := []) (stk := [.int r55]) ⟨hx, hb, hml, hown, hts⟩ (mX7_next l D cy st sk sv B am am0 am1 am2 am3 am4 am5 am6 am7 am8 am9 am10 am11 am12 n M_isHeld M_taped M_token M_from M_to M_value M_isWrong M_rowN M_ran M_actKind M_actN M_actA M_isParted u_s r55 hc55) (cwV 0 hts gX7_state_X7_next rfl rfl rfl (by decide +kernel) ⟨Nat.le_of_ble_eq_true rfl, Nat.le_of_ble_eq_true rfl⟩) hG hS hAB hP [0, 1] rfl 0 7 rfl rfl rfl rfl hl.1 rfl (Nat.le_of_ble_eq_true rfl) dX7_state_55 rfl ?_
    cases hf
    exact W.iret hx hb hr (fun t ht hW => ⟨rfl, ht⟩) (fun q h => absurd h List.not_mem_nil) dX7_state_58
  have hf := zn hf c_1_2
  by_cases c_1_3 : x1 = (3 : Int32)
  · have hf := zp hf c_1_3
    refine lv_tableIn (tgt := 59) hx hb dX7_state_1 (by rw [c_1_3]; decide) (by rw [c_1_3]; decide) (by rw [c_1_3]; rfl) (by decide) ?_
    refine lv_aload_n hx hb dX7_state_59 rfl (lv_at hl 0 rfl) ?_
    obtain ⟨r60, hc60, hf⟩ := zb hf
    refine zvr (o := some (.int r60)) (As := []) (rest := []) (stk := [.int r60]) ⟨hx, hb, hml, hown, hts⟩ (mX7_drownedOnes l D cy st sk sv B am am0 am1 am2 am3 am4 am5 am6 am7 am8 am9 am10 am11 am12 n M_isHeld M_taped M_token M_from M_to M_value M_isWrong M_rowN M_ran M_actKind M_actN M_actA M_isParted u_s r60 hc60) (cwV 0 hts gX7_state_X7_drownedOnes rfl rfl rfl (by decide +kernel) ⟨Nat.le_of_ble_eq_true rfl, Nat.le_of_ble_eq_true rfl⟩) hG hS hAB hP [0, 1] rfl 0 7 rfl rfl rfl rfl hl.1 rfl (Nat.le_of_ble_eq_true rfl) dX7_state_60 rfl ?_
    cases hf
    exact W.iret hx hb hr (fun t ht hW => ⟨rfl, ht⟩) (fun q h => absurd h List.not_mem_nil) dX7_state_63
  have hf := zn hf c_1_3
  by_cases c_1_4 : x1 = (4 : Int32)
  · have hf := zp hf c_1_4
    refine lv_tableIn (tgt := 64) hx hb dX7_state_1 (by rw [c_1_4]; decide) (by rw [c_1_4]; decide) (by rw [c_1_4]; rfl) (by decide) ?_
    refine lv_aload_n hx hb dX7_state_64 rfl (lv_at hl 0 rfl) ?_
    obtain ⟨r65, hc65, hf⟩ := zb hf
    refine zvr (o := some (.int r65)) (As := []) (rest := []) (stk := [.int r65]) ⟨hx, hb, hml, hown, hts⟩ (mX7_goneOfAll l D cy st sk sv B am am0 am1 am2 am3 am4 am5 am6 am7 am8 am9 am10 am11 am12 n M_isHeld M_taped M_token M_from M_to M_value M_isWrong M_rowN M_ran M_actKind M_actN M_actA M_isParted u_s r65 hc65) (cwV 0 hts gX7_state_X7_goneOfAll rfl rfl rfl (by decide +kernel) ⟨Nat.le_of_ble_eq_true rfl, Nat.le_of_ble_eq_true rfl⟩) hG hS hAB hP [0, 1] rfl 0 7 rfl rfl rfl rfl hl.1 rfl (Nat.le_of_ble_eq_true rfl) dX7_state_65 rfl ?_
    cases hf
    exact W.iret hx hb hr (fun t ht hW => ⟨rfl, ht⟩) (fun q h => absurd h List.not_mem_nil) dX7_state_68
  have hf := zn hf c_1_4
  by_cases c_1_5 : x1 = (5 : Int32)
  · have hf := zp hf c_1_5
    refine lv_tableIn (tgt := 69) hx hb dX7_state_1 (by rw [c_1_5]; decide) (by rw [c_1_5]; decide) (by rw [c_1_5]; rfl) (by decide) ?_
    refine lv_aload_n hx hb dX7_state_69 rfl (lv_at hl 0 rfl) ?_
    obtain ⟨r70, hc70, hf⟩ := zb hf
    refine zvr (o := some (.int r70)) (As := []) (rest := []) (stk := [.int r70]) ⟨hx, hb, hml, hown, hts⟩ (mX7_gap l D cy st sk sv B am am0 am1 am2 am3 am4 am5 am6 am7 am8 am9 am10 am11 am12 n M_isHeld M_taped M_token M_from M_to M_value M_isWrong M_rowN M_ran M_actKind M_actN M_actA M_isParted u_s r70 hc70) (cwV 0 hts gX7_state_X7_gap rfl rfl rfl (by decide +kernel) ⟨Nat.le_of_ble_eq_true rfl, Nat.le_of_ble_eq_true rfl⟩) hG hS hAB hP [0, 1] rfl 0 7 rfl rfl rfl rfl hl.1 rfl (Nat.le_of_ble_eq_true rfl) dX7_state_70 rfl ?_
    cases hf
    exact W.iret hx hb hr (fun t ht hW => ⟨rfl, ht⟩) (fun q h => absurd h List.not_mem_nil) dX7_state_73
  have hf := zn hf c_1_5
  have e_1_0 : ¬ x1.toInt = 0 := fun h => c_1_0 (Int32.toInt_inj.mp (h.trans (by decide)))
  have e_1_1 : ¬ x1.toInt = 1 := fun h => c_1_1 (Int32.toInt_inj.mp (h.trans (by decide)))
  have e_1_2 : ¬ x1.toInt = 2 := fun h => c_1_2 (Int32.toInt_inj.mp (h.trans (by decide)))
  have e_1_3 : ¬ x1.toInt = 3 := fun h => c_1_3 (Int32.toInt_inj.mp (h.trans (by decide)))
  have e_1_4 : ¬ x1.toInt = 4 := fun h => c_1_4 (Int32.toInt_inj.mp (h.trans (by decide)))
  have e_1_5 : ¬ x1.toInt = 5 := fun h => c_1_5 (Int32.toInt_inj.mp (h.trans (by decide)))
  refine lv_tableOut (tgt := 74) hx hb dX7_state_1 (by omega) (by decide) ?_
  refine lv_iconst (v := (-1 : Int32)) hx hb dX7_state_74 (by decide) ?_
  cases hf
  exact W.iret hx hb hr (fun t ht hW => ⟨rfl, ht⟩) (fun q h => absurd h List.not_mem_nil) dX7_state_75
