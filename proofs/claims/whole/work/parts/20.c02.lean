set_option maxRecDepth 100000 in
set_option maxHeartbeats 100000000 in
theorem mX4_coursesUntilDrowned (l : Launch) (D : va_G) (cy : Nat → ClassId) (st sk sv : Nat → Nat) (B : Nat) (at0 : Nat) (at1 : Nat) (at2 : Nat) (at3 : Nat) (at4 : Nat) (at5 : Nat) (sz : Nat) (n : Nat) (T_laws : (Nat → Int32)) (T_kind : (Nat → Int32)) (T_holds : (Nat → Int32)) (T_gone : (Nat → Int32)) (T_tells : (Nat → Int32)) (T_drowned : Int32) (T_count : Int32) (T_course : Int32) (T_told : Int32) (T_z : Int32) (x1 : Int32) (x2 : Int32) (z : Int32 × TB) (hf : fX4_coursesUntilDrowned n (T_laws, T_kind, T_holds, T_gone, T_tells, T_drowned, T_count, T_course, T_told, T_z) x1 x2 = some z) : Met l yX4_coursesUntilDrowned wsX4_coursesUntilDrowned ({ frames := 4, cells := 0, slots := 0, locals := 94 }) (PcW [.ref at0, .int x1, .int x2] D cy st sk sv B sz [(at0, .inr (4, [.ref at1, .ref at2, .ref at3, .ref at4, .ref at5, .int T_drowned, .int T_count, .int T_course, .int T_told, .int T_z])), (at1, .inl (cy 0, 4, .inl T_laws)), (at2, .inl (cy 0, 8, .inl T_kind)), (at3, .inl (cy 0, 8, .inl T_holds)), (at4, .inl (cy 0, 8, .inl T_gone)), (at5, .inl (cy 0, 8, .inl T_tells))]) (Qw (some (.int z.1)) D [(at0, .inr (4, [.ref at1, .ref at2, .ref at3, .ref at4, .ref at5, .int z.2.2.2.2.2.2.1, .int z.2.2.2.2.2.2.2.1, .int z.2.2.2.2.2.2.2.2.1, .int z.2.2.2.2.2.2.2.2.2.1, .int z.2.2.2.2.2.2.2.2.2.2])), (at1, .inl (cy 0, 4, .inl z.2.1)), (at2, .inl (cy 0, 8, .inl z.2.2.1)), (at3, .inl (cy 0, 8, .inl z.2.2.2.1)), (at4, .inl (cy 0, 8, .inl z.2.2.2.2.1)), (at5, .inl (cy 0, 8, .inl z.2.2.2.2.2.1))] (va_A [(at0, .inr (4, [.ref at1, .ref at2, .ref at3, .ref at4, .ref at5, .int T_drowned, .int T_count, .int T_course, .int T_told, .int T_z])), (at1, .inl (cy 0, 4, .inl T_laws)), (at2, .inl (cy 0, 8, .inl T_kind)), (at3, .inl (cy 0, 8, .inl T_holds)), (at4, .inl (cy 0, 8, .inl T_gone)), (at5, .inl (cy 0, 8, .inl T_tells))] sz)) 0 0 (va_A [(at0, .inr (4, [.ref at1, .ref at2, .ref at3, .ref at4, .ref at5, .int T_drowned, .int T_count, .int T_course, .int T_told, .int T_z])), (at1, .inl (cy 0, 4, .inl T_laws)), (at2, .inl (cy 0, 8, .inl T_kind)), (at3, .inl (cy 0, 8, .inl T_holds)), (at4, .inl (cy 0, 8, .inl T_gone)), (at5, .inl (cy 0, 8, .inl T_tells))] sz) := by
  refine Met.ofW (cc := cX4_coursesUntilDrowned) (maxL := 4) (ret := (some .int)) (by decide) rfl ?_
  intro p e s m args below meth c s₁ Bd hml hv
  obtain ⟨rfl, hsz, hP, hD0, hBs, hG⟩ := hv
  have hx := Bd.exec
  have hb := Bd.bytes
  have hr := Bd.returns
  have hts := atoms_spec (ws := wsX4_coursesUntilDrowned) Bd.pre
  have hown : s.vm.findClass RX4 = some m.cls := findClass_of_methodNamed Bd.named
  have hlocks := Bd.notSynchronized
  have hK := hG.1
  subst hsz
  have hD := hD0.self (sz := s.heap.size)
  have hAB0 := zA hD0 hBs
  generalize hAe : va_A [(at0, .inr (4, [.ref at1, .ref at2, .ref at3, .ref at4, .ref at5, .int T_drowned, .int T_count, .int T_course, .int T_told, .int T_z])), (at1, .inl (cy 0, 4, .inl T_laws)), (at2, .inl (cy 0, 8, .inl T_kind)), (at3, .inl (cy 0, 8, .inl T_holds)), (at4, .inl (cy 0, 8, .inl T_gone)), (at5, .inl (cy 0, 8, .inl T_tells))] s.heap.size = A at hD hAB0 ⊢
  have hA : ∀ q : Nat, s.heap.size ≤ q → A q := fun q h => by rw [← hAe]; exact Or.inr h
  have hAB : ∀ q, A q → B ≤ q := hAB0
  have hS : va_S A s.heap s.heap [] := va_S.rf
  have hfin : ∀ (z0 : Int32) (T_laws : (Nat → Int32)) (T_kind : (Nat → Int32)) (T_holds : (Nat → Int32)) (T_gone : (Nat → Int32)) (T_tells : (Nat → Int32)) (T_drowned : Int32) (T_count : Int32) (T_course : Int32) (T_told : Int32) (T_z : Int32), some (z0, (T_laws, T_kind, T_holds, T_gone, T_tells, T_drowned, T_count, T_course, T_told, T_z)) = some z → ∀ (H : Heap) (t : State), t.heap = H → va_P D vwCl [(at0, .inr (4, [.ref at1, .ref at2, .ref at3, .ref at4, .ref at5, .int T_drowned, .int T_count, .int T_course, .int T_told, .int T_z])), (at1, .inl (cy 0, 4, .inl T_laws)), (at2, .inl (cy 0, 8, .inl T_kind)), (at3, .inl (cy 0, 8, .inl T_holds)), (at4, .inl (cy 0, 8, .inl T_gone)), (at5, .inl (cy 0, 8, .inl T_tells))] H → va_F A s t → Qw (some (.int z.1)) D [(at0, .inr (4, [.ref at1, .ref at2, .ref at3, .ref at4, .ref at5, .int z.2.2.2.2.2.2.1, .int z.2.2.2.2.2.2.2.1, .int z.2.2.2.2.2.2.2.2.1, .int z.2.2.2.2.2.2.2.2.2.1, .int z.2.2.2.2.2.2.2.2.2.2])), (at1, .inl (cy 0, 4, .inl z.2.1)), (at2, .inl (cy 0, 8, .inl z.2.2.1)), (at3, .inl (cy 0, 8, .inl z.2.2.2.1)), (at4, .inl (cy 0, 8, .inl z.2.2.2.2.1)), (at5, .inl (cy 0, 8, .inl z.2.2.2.2.2.1))] A ([.ref at0, .int x1, .int x2] : List Value).toArray s (.returned (some (.int z0))) t := by
    intro z0 T_laws T_kind T_holds T_gone T_tells T_drowned T_count T_course T_told T_z h9 H t ht hP hF
    cases h9
    exact ⟨rfl, by rw [ht]; exact hP, hF⟩
  have hL2 : ∀ (n0 : Nat) (T_laws : (Nat → Int32)) (T_kind : (Nat → Int32)) (T_holds : (Nat → Int32)) (T_gone : (Nat → Int32)) (T_tells : (Nat → Int32)) (T_drowned : Int32) (T_count : Int32) (T_course : Int32) (T_told : Int32) (T_z : Int32) (y3 : Int32), lpF (fX4_coursesUntilDrowned_F2 n x1 x2 ) n0 ((T_laws, T_kind, T_holds, T_gone, T_tells, T_drowned, T_count, T_course, T_told, T_z), y3) = some z → ∀ (H : Heap) (locs : List Loc), va_P D vwCl [(at0, .inr (4, [.ref at1, .ref at2, .ref at3, .ref at4, .ref at5, .int T_drowned, .int T_count, .int T_course, .int T_told, .int T_z])), (at1, .inl (cy 0, 4, .inl T_laws)), (at2, .inl (cy 0, 8, .inl T_kind)), (at3, .inl (cy 0, 8, .inl T_holds)), (at4, .inl (cy 0, 8, .inl T_gone)), (at5, .inl (cy 0, 8, .inl T_tells))] H → va_D A [(at0, .inr (4, [.ref at1, .ref at2, .ref at3, .ref at4, .ref at5, .int T_drowned, .int T_count, .int T_course, .int T_told, .int T_z])), (at1, .inl (cy 0, 4, .inl T_laws)), (at2, .inl (cy 0, 8, .inl T_kind)), (at3, .inl (cy 0, 8, .inl T_holds)), (at4, .inl (cy 0, 8, .inl T_gone)), (at5, .inl (cy 0, 8, .inl T_tells))] → va_S A s.heap H locs → ∀ (ls : Array Slot), lv_has ls 4 [(0, .ref at0), (1, .int x1), (2, .int x2), (3, .int y3)] → W p l e (headSpec wsX4_coursesUntilDrowned ({ frames := 4, cells := 0, slots := 0, locals := 94 })).room s m ([.ref at0, .int x1, .int x2] : List Value).toArray below meth c H locs 0 0 (MQ below (Qw (some (.int z.1)) D [(at0, .inr (4, [.ref at1, .ref at2, .ref at3, .ref at4, .ref at5, .int z.2.2.2.2.2.2.1, .int z.2.2.2.2.2.2.2.1, .int z.2.2.2.2.2.2.2.2.1, .int z.2.2.2.2.2.2.2.2.2.1, .int z.2.2.2.2.2.2.2.2.2.2])), (at1, .inl (cy 0, 4, .inl z.2.1)), (at2, .inl (cy 0, 8, .inl z.2.2.1)), (at3, .inl (cy 0, 8, .inl z.2.2.2.1)), (at4, .inl (cy 0, 8, .inl z.2.2.2.2.1)), (at5, .inl (cy 0, 8, .inl z.2.2.2.2.2.1))] A) ([.ref at0, .int x1, .int x2] : List Value).toArray s 0 0 A) (F0 m 2 ls []) := by
    have key : ∀ (n0 : Nat) (v2 : TB × Int32), lpF (fX4_coursesUntilDrowned_F2 n x1 x2 ) n0 v2 = some z → ∀ (H : Heap) (locs : List Loc), va_P D vwCl [(at0, .inr (4, [.ref at1, .ref at2, .ref at3, .ref at4, .ref at5, .int v2.1.2.2.2.2.2.1, .int v2.1.2.2.2.2.2.2.1, .int v2.1.2.2.2.2.2.2.2.1, .int v2.1.2.2.2.2.2.2.2.2.1, .int v2.1.2.2.2.2.2.2.2.2.2])), (at1, .inl (cy 0, 4, .inl v2.1.1)), (at2, .inl (cy 0, 8, .inl v2.1.2.1)), (at3, .inl (cy 0, 8, .inl v2.1.2.2.1)), (at4, .inl (cy 0, 8, .inl v2.1.2.2.2.1)), (at5, .inl (cy 0, 8, .inl v2.1.2.2.2.2.1))] H → va_D A [(at0, .inr (4, [.ref at1, .ref at2, .ref at3, .ref at4, .ref at5, .int v2.1.2.2.2.2.2.1, .int v2.1.2.2.2.2.2.2.1, .int v2.1.2.2.2.2.2.2.2.1, .int v2.1.2.2.2.2.2.2.2.2.1, .int v2.1.2.2.2.2.2.2.2.2.2])), (at1, .inl (cy 0, 4, .inl v2.1.1)), (at2, .inl (cy 0, 8, .inl v2.1.2.1)), (at3, .inl (cy 0, 8, .inl v2.1.2.2.1)), (at4, .inl (cy 0, 8, .inl v2.1.2.2.2.1)), (at5, .inl (cy 0, 8, .inl v2.1.2.2.2.2.1))] → va_S A s.heap H locs → ∀ (ls : Array Slot), lv_has ls 4 [(0, .ref at0), (1, .int x1), (2, .int x2), (3, .int v2.2)] → W p l e (headSpec wsX4_coursesUntilDrowned ({ frames := 4, cells := 0, slots := 0, locals := 94 })).room s m ([.ref at0, .int x1, .int x2] : List Value).toArray below meth c H locs 0 0 (MQ below (Qw (some (.int z.1)) D [(at0, .inr (4, [.ref at1, .ref at2, .ref at3, .ref at4, .ref at5, .int z.2.2.2.2.2.2.1, .int z.2.2.2.2.2.2.2.1, .int z.2.2.2.2.2.2.2.2.1, .int z.2.2.2.2.2.2.2.2.2.1, .int z.2.2.2.2.2.2.2.2.2.2])), (at1, .inl (cy 0, 4, .inl z.2.1)), (at2, .inl (cy 0, 8, .inl z.2.2.1)), (at3, .inl (cy 0, 8, .inl z.2.2.2.1)), (at4, .inl (cy 0, 8, .inl z.2.2.2.2.1)), (at5, .inl (cy 0, 8, .inl z.2.2.2.2.2.1))] A) ([.ref at0, .int x1, .int x2] : List Value).toArray s 0 0 A) (F0 m 2 ls []) := by
      refine lpW ?_
      intro k2 hk20
      have hk2 : ∀ (T_laws : (Nat → Int32)) (T_kind : (Nat → Int32)) (T_holds : (Nat → Int32)) (T_gone : (Nat → Int32)) (T_tells : (Nat → Int32)) (T_drowned : Int32) (T_count : Int32) (T_course : Int32) (T_told : Int32) (T_z : Int32) (y3 : Int32), k2 ((T_laws, T_kind, T_holds, T_gone, T_tells, T_drowned, T_count, T_course, T_told, T_z), y3) = some z → ∀ (H : Heap) (locs : List Loc), va_P D vwCl [(at0, .inr (4, [.ref at1, .ref at2, .ref at3, .ref at4, .ref at5, .int T_drowned, .int T_count, .int T_course, .int T_told, .int T_z])), (at1, .inl (cy 0, 4, .inl T_laws)), (at2, .inl (cy 0, 8, .inl T_kind)), (at3, .inl (cy 0, 8, .inl T_holds)), (at4, .inl (cy 0, 8, .inl T_gone)), (at5, .inl (cy 0, 8, .inl T_tells))] H → va_D A [(at0, .inr (4, [.ref at1, .ref at2, .ref at3, .ref at4, .ref at5, .int T_drowned, .int T_count, .int T_course, .int T_told, .int T_z])), (at1, .inl (cy 0, 4, .inl T_laws)), (at2, .inl (cy 0, 8, .inl T_kind)), (at3, .inl (cy 0, 8, .inl T_holds)), (at4, .inl (cy 0, 8, .inl T_gone)), (at5, .inl (cy 0, 8, .inl T_tells))] → va_S A s.heap H locs → ∀ (ls : Array Slot), lv_has ls 4 [(0, .ref at0), (1, .int x1), (2, .int x2), (3, .int y3)] → W p l e (headSpec wsX4_coursesUntilDrowned ({ frames := 4, cells := 0, slots := 0, locals := 94 })).room s m ([.ref at0, .int x1, .int x2] : List Value).toArray below meth c H locs 0 0 (MQ below (Qw (some (.int z.1)) D [(at0, .inr (4, [.ref at1, .ref at2, .ref at3, .ref at4, .ref at5, .int z.2.2.2.2.2.2.1, .int z.2.2.2.2.2.2.2.1, .int z.2.2.2.2.2.2.2.2.1, .int z.2.2.2.2.2.2.2.2.2.1, .int z.2.2.2.2.2.2.2.2.2.2])), (at1, .inl (cy 0, 4, .inl z.2.1)), (at2, .inl (cy 0, 8, .inl z.2.2.1)), (at3, .inl (cy 0, 8, .inl z.2.2.2.1)), (at4, .inl (cy 0, 8, .inl z.2.2.2.2.1)), (at5, .inl (cy 0, 8, .inl z.2.2.2.2.2.1))] A) ([.ref at0, .int x1, .int x2] : List Value).toArray s 0 0 A) (F0 m 2 ls []) := fun T_laws T_kind T_holds T_gone T_tells T_drowned T_count T_course T_told T_z y3 h9 => hk20 ((T_laws, T_kind, T_holds, T_gone, T_tells, T_drowned, T_count, T_course, T_told, T_z), y3) h9
      have hstep : ∀ (T_laws : (Nat → Int32)) (T_kind : (Nat → Int32)) (T_holds : (Nat → Int32)) (T_gone : (Nat → Int32)) (T_tells : (Nat → Int32)) (T_drowned : Int32) (T_count : Int32) (T_course : Int32) (T_told : Int32) (T_z : Int32) (y3 : Int32), fX4_coursesUntilDrowned_F2 n x1 x2  k2 ((T_laws, T_kind, T_holds, T_gone, T_tells, T_drowned, T_count, T_course, T_told, T_z), y3) = some z → ∀ (H : Heap) (locs : List Loc), va_P D vwCl [(at0, .inr (4, [.ref at1, .ref at2, .ref at3, .ref at4, .ref at5, .int T_drowned, .int T_count, .int T_course, .int T_told, .int T_z])), (at1, .inl (cy 0, 4, .inl T_laws)), (at2, .inl (cy 0, 8, .inl T_kind)), (at3, .inl (cy 0, 8, .inl T_holds)), (at4, .inl (cy 0, 8, .inl T_gone)), (at5, .inl (cy 0, 8, .inl T_tells))] H → va_D A [(at0, .inr (4, [.ref at1, .ref at2, .ref at3, .ref at4, .ref at5, .int T_drowned, .int T_count, .int T_course, .int T_told, .int T_z])), (at1, .inl (cy 0, 4, .inl T_laws)), (at2, .inl (cy 0, 8, .inl T_kind)), (at3, .inl (cy 0, 8, .inl T_holds)), (at4, .inl (cy 0, 8, .inl T_gone)), (at5, .inl (cy 0, 8, .inl T_tells))] → va_S A s.heap H locs → ∀ (ls : Array Slot), lv_has ls 4 [(0, .ref at0), (1, .int x1), (2, .int x2), (3, .int y3)] → W p l e (headSpec wsX4_coursesUntilDrowned ({ frames := 4, cells := 0, slots := 0, locals := 94 })).room s m ([.ref at0, .int x1, .int x2] : List Value).toArray below meth c H locs 0 0 (MQ below (Qw (some (.int z.1)) D [(at0, .inr (4, [.ref at1, .ref at2, .ref at3, .ref at4, .ref at5, .int z.2.2.2.2.2.2.1, .int z.2.2.2.2.2.2.2.1, .int z.2.2.2.2.2.2.2.2.1, .int z.2.2.2.2.2.2.2.2.2.1, .int z.2.2.2.2.2.2.2.2.2.2])), (at1, .inl (cy 0, 4, .inl z.2.1)), (at2, .inl (cy 0, 8, .inl z.2.2.1)), (at3, .inl (cy 0, 8, .inl z.2.2.2.1)), (at4, .inl (cy 0, 8, .inl z.2.2.2.2.1)), (at5, .inl (cy 0, 8, .inl z.2.2.2.2.2.1))] A) ([.ref at0, .int x1, .int x2] : List Value).toArray s 0 0 A) (F0 m 2 ls []) := by
        intro T_laws T_kind T_holds T_gone T_tells T_drowned T_count T_course T_told T_z y3 hf H locs hP hD hS ls hl
        have hf : (if x2 < y3 then (some ((-3 : Int32), (T_laws, T_kind, T_holds, T_gone, T_tells, T_drowned, T_count, T_course, T_told, T_z))) else ((fX4_isDrowned n (T_laws, T_kind, T_holds, T_gone, T_tells, T_drowned, T_count, T_course, T_told, T_z) x1).bind fun r9 => if r9 = 0 then ((fX4_serve n (T_laws, T_kind, T_holds, T_gone, T_tells, T_drowned, T_count, T_course, T_told, T_z)).bind fun r18 => k2 (r18, (y3 + (1 : Int32)))) else (some (y3, (T_laws, T_kind, T_holds, T_gone, T_tells, T_drowned, T_count, T_course, T_told, T_z))))) = some z := hf
        refine lv_iload_n hx hb dX4_coursesUntilDrowned_2 rfl (lv_at hl 3 rfl) ?_
        refine lv_iload_n hx hb dX4_coursesUntilDrowned_3 rfl (lv_at hl 2 rfl) ?_
        refine lv_icmp_gt (tgt := 27) hx hb dX4_coursesUntilDrowned_4 (by decide) (fun c_4 => ?_) (fun c_4 => ?_)
        · have hf := zp hf c_4
          refine lv_bipush (v := (-3 : Int32)) hx hb dX4_coursesUntilDrowned_27 (by decide) ?_
          exact W.iret hx hb hr (fun t ht hW => hfin (-3 : Int32) T_laws T_kind T_holds T_gone T_tells T_drowned T_count T_course T_told T_z hf _ t ht hP (hS.F ht)) hS.2.2 dX4_coursesUntilDrowned_29
        · have hf := zn hf c_4
          refine lv_aload_n hx hb dX4_coursesUntilDrowned_7 rfl (lv_at hl 0 rfl) ?_
          refine lv_iload_n hx hb dX4_coursesUntilDrowned_8 rfl (lv_at hl 1 rfl) ?_
          obtain ⟨r9, hc9, hf⟩ := zb hf
          refine zvr (o := some (.int r9)) (As := [.int x1]) (rest := []) (stk := [.int r9]) ⟨hx, hb, hml, hown, hts⟩ (mX4_isDrowned l D cy st sk sv B at0 at1 at2 at3 at4 at5 n T_laws T_kind T_holds T_gone T_tells T_drowned T_count T_course T_told T_z x1 r9 hc9) (cwV 1 hts gX4_coursesUntilDrowned_X4_isDrowned rfl rfl rfl (by decide +kernel) ⟨Nat.le_of_ble_eq_true rfl, Nat.le_of_ble_eq_true rfl⟩) hG hS hAB hP [0, 1, 2, 3, 4, 5] rfl 0 4 rfl rfl rfl rfl hl.1 rfl (Nat.le_of_ble_eq_true rfl) dX4_coursesUntilDrowned_9 rfl ?_
          refine lv_if_eq (tgt := 17) hx hb dX4_coursesUntilDrowned_12 (by decide) (fun c_12 => ?_) (fun c_12 => ?_)
          · have hf := zp hf c_12
            refine lv_aload_n hx hb dX4_coursesUntilDrowned_17 rfl (lv_at hl 0 rfl) ?_
            obtain ⟨r18, hc18, hf⟩ := zb hf
            refine zvw (o := none) (As := []) (rest := []) (stk := []) ⟨hx, hb, hml, hown, hts⟩ (mX4_serve l D cy st sk sv B at0 at1 at2 at3 at4 at5 _ n T_laws T_kind T_holds T_gone T_tells T_drowned T_count T_course T_told T_z r18 hc18) (cwV 0 hts gX4_coursesUntilDrowned_X4_serve rfl rfl rfl (by decide +kernel) ⟨Nat.le_of_ble_eq_true rfl, Nat.le_of_ble_eq_true rfl⟩) hG hS hAB hA hP hD [0, 1, 2, 3, 4, 5] (by decide) rfl rfl rfl rfl 0 4 rfl rfl rfl rfl hl.1 rfl (Nat.le_of_ble_eq_true rfl) dX4_coursesUntilDrowned_18 rfl (fun H locs hP hD hS => ?_)
            have hP : va_P D vwCl [(at0, .inr (4, [.ref at1, .ref at2, .ref at3, .ref at4, .ref at5, .int r18.2.2.2.2.2.1, .int r18.2.2.2.2.2.2.1, .int r18.2.2.2.2.2.2.2.1, .int r18.2.2.2.2.2.2.2.2.1, .int r18.2.2.2.2.2.2.2.2.2])), (at1, .inl (cy 0, 4, .inl r18.1)), (at2, .inl (cy 0, 8, .inl r18.2.1)), (at3, .inl (cy 0, 8, .inl r18.2.2.1)), (at4, .inl (cy 0, 8, .inl r18.2.2.2.1)), (at5, .inl (cy 0, 8, .inl r18.2.2.2.2.1))] H := hP
            have hD : va_D A [(at0, .inr (4, [.ref at1, .ref at2, .ref at3, .ref at4, .ref at5, .int r18.2.2.2.2.2.1, .int r18.2.2.2.2.2.2.1, .int r18.2.2.2.2.2.2.2.1, .int r18.2.2.2.2.2.2.2.2.1, .int r18.2.2.2.2.2.2.2.2.2])), (at1, .inl (cy 0, 4, .inl r18.1)), (at2, .inl (cy 0, 8, .inl r18.2.1)), (at3, .inl (cy 0, 8, .inl r18.2.2.1)), (at4, .inl (cy 0, 8, .inl r18.2.2.2.1)), (at5, .inl (cy 0, 8, .inl r18.2.2.2.2.1))] := hD
            refine lv_iinc (v := (y3 + (1 : Int32))) (lv' := [(3, .int (y3 + (1 : Int32))), (0, .ref at0), (1, .int x1), (2, .int x2)]) hx hb dX4_coursesUntilDrowned_21 hl (k := 3) rfl rfl (by decide) rfl (fun ls hl => ?_)
            refine lv_goto (tgt := 2) hx hb dX4_coursesUntilDrowned_24 (by decide) ?_
            exact hk2 r18.1 r18.2.1 r18.2.2.1 r18.2.2.2.1 r18.2.2.2.2.1 r18.2.2.2.2.2.1 r18.2.2.2.2.2.2.1 r18.2.2.2.2.2.2.2.1 r18.2.2.2.2.2.2.2.2.1 r18.2.2.2.2.2.2.2.2.2 (y3 + (1 : Int32)) hf _ _ hP hD hS _ (lv_sub hl [1, 2, 3, 0] rfl)
          · have hf := zn hf c_12
            refine lv_iload_n hx hb dX4_coursesUntilDrowned_15 rfl (lv_at hl 3 rfl) ?_
            exact W.iret hx hb hr (fun t ht hW => hfin y3 T_laws T_kind T_holds T_gone T_tells T_drowned T_count T_course T_told T_z hf _ t ht hP (hS.F ht)) hS.2.2 dX4_coursesUntilDrowned_16
      exact fun v2 h9 => hstep v2.1.1 v2.1.2.1 v2.1.2.2.1 v2.1.2.2.2.1 v2.1.2.2.2.2.1 v2.1.2.2.2.2.2.1 v2.1.2.2.2.2.2.2.1 v2.1.2.2.2.2.2.2.2.1 v2.1.2.2.2.2.2.2.2.2.1 v2.1.2.2.2.2.2.2.2.2.2 v2.2 h9
    exact fun n0 T_laws T_kind T_holds T_gone T_tells T_drowned T_count T_course T_told T_z y3 h9 => key n0 ((T_laws, T_kind, T_holds, T_gone, T_tells, T_drowned, T_count, T_course, T_told, T_z), y3) h9
  have hl := lv_entry ([.ref at0, .int x1, .int x2]) (n := 4) (Nat.le_of_ble_eq_true rfl)
  rw [lg_entry_eq]
  generalize (lg_sl ([.ref at0, .int x1, .int x2]) ++ List.replicate (4 - (lg_sl ([.ref at0, .int x1, .int x2])).length) Slot.unset).toArray = ls at hl ⊢
  have hl : lv_has ls 4 [(0, .ref at0), (1, .int x1), (2, .int x2)] := hl
  have hf : (lpF (fX4_coursesUntilDrowned_F2 n x1 x2 ) n ((T_laws, T_kind, T_holds, T_gone, T_tells, T_drowned, T_count, T_course, T_told, T_z), (0 : Int32))) = some z := hf
  refine lv_iconst (v := (0 : Int32)) hx hb dX4_coursesUntilDrowned_0 (by decide) ?_
  refine lv_istore_n (lv' := [(3, .int (0 : Int32)), (0, .ref at0), (1, .int x1), (2, .int x2)]) hx hb dX4_coursesUntilDrowned_1 rfl hl (by decide) rfl (fun ls hl => ?_)
  exact hL2 n T_laws T_kind T_holds T_gone T_tells T_drowned T_count T_course T_told T_z (0 : Int32) hf _ _ hP hD hS _ (lv_sub hl [1, 2, 3, 0] rfl)
set_option maxRecDepth 100000 in
set_option maxHeartbeats 100000000 in
theorem mX4_coursesUntilWhole (l : Launch) (D : va_G) (cy : Nat → ClassId) (st sk sv : Nat → Nat) (B : Nat) (at0 : Nat) (at1 : Nat) (at2 : Nat) (at3 : Nat) (at4 : Nat) (at5 : Nat) (sz : Nat) (n : Nat) (T_laws : (Nat → Int32)) (T_kind : (Nat → Int32)) (T_holds : (Nat → Int32)) (T_gone : (Nat → Int32)) (T_tells : (Nat → Int32)) (T_drowned : Int32) (T_count : Int32) (T_course : Int32) (T_told : Int32) (T_z : Int32) (x1 : Int32) (z : Int32 × TB) (hf : fX4_coursesUntilWhole n (T_laws, T_kind, T_holds, T_gone, T_tells, T_drowned, T_count, T_course, T_told, T_z) x1 = some z) : Met l yX4_coursesUntilWhole wsX4_coursesUntilWhole ({ frames := 4, cells := 0, slots := 0, locals := 94 }) (PcW [.ref at0, .int x1] D cy st sk sv B sz [(at0, .inr (4, [.ref at1, .ref at2, .ref at3, .ref at4, .ref at5, .int T_drowned, .int T_count, .int T_course, .int T_told, .int T_z])), (at1, .inl (cy 0, 4, .inl T_laws)), (at2, .inl (cy 0, 8, .inl T_kind)), (at3, .inl (cy 0, 8, .inl T_holds)), (at4, .inl (cy 0, 8, .inl T_gone)), (at5, .inl (cy 0, 8, .inl T_tells))]) (Qw (some (.int z.1)) D [(at0, .inr (4, [.ref at1, .ref at2, .ref at3, .ref at4, .ref at5, .int z.2.2.2.2.2.2.1, .int z.2.2.2.2.2.2.2.1, .int z.2.2.2.2.2.2.2.2.1, .int z.2.2.2.2.2.2.2.2.2.1, .int z.2.2.2.2.2.2.2.2.2.2])), (at1, .inl (cy 0, 4, .inl z.2.1)), (at2, .inl (cy 0, 8, .inl z.2.2.1)), (at3, .inl (cy 0, 8, .inl z.2.2.2.1)), (at4, .inl (cy 0, 8, .inl z.2.2.2.2.1)), (at5, .inl (cy 0, 8, .inl z.2.2.2.2.2.1))] (va_A [(at0, .inr (4, [.ref at1, .ref at2, .ref at3, .ref at4, .ref at5, .int T_drowned, .int T_count, .int T_course, .int T_told, .int T_z])), (at1, .inl (cy 0, 4, .inl T_laws)), (at2, .inl (cy 0, 8, .inl T_kind)), (at3, .inl (cy 0, 8, .inl T_holds)), (at4, .inl (cy 0, 8, .inl T_gone)), (at5, .inl (cy 0, 8, .inl T_tells))] sz)) 0 0 (va_A [(at0, .inr (4, [.ref at1, .ref at2, .ref at3, .ref at4, .ref at5, .int T_drowned, .int T_count, .int T_course, .int T_told, .int T_z])), (at1, .inl (cy 0, 4, .inl T_laws)), (at2, .inl (cy 0, 8, .inl T_kind)), (at3, .inl (cy 0, 8, .inl T_holds)), (at4, .inl (cy 0, 8, .inl T_gone)), (at5, .inl (cy 0, 8, .inl T_tells))] sz) := by
  refine Met.ofW (cc := cX4_coursesUntilWhole) (maxL := 4) (ret := (some .int)) (by decide) rfl ?_
  intro p e s m args below meth c s₁ Bd hml hv
  obtain ⟨rfl, hsz, hP, hD0, hBs, hG⟩ := hv
  have hx := Bd.exec
  have hb := Bd.bytes
  have hr := Bd.returns
  have hts := atoms_spec (ws := wsX4_coursesUntilWhole) Bd.pre
  have hown : s.vm.findClass RX4 = some m.cls := findClass_of_methodNamed Bd.named
  have hlocks := Bd.notSynchronized
  have hK := hG.1
  subst hsz
  have hD := hD0.self (sz := s.heap.size)
  have hAB0 := zA hD0 hBs
  generalize hAe : va_A [(at0, .inr (4, [.ref at1, .ref at2, .ref at3, .ref at4, .ref at5, .int T_drowned, .int T_count, .int T_course, .int T_told, .int T_z])), (at1, .inl (cy 0, 4, .inl T_laws)), (at2, .inl (cy 0, 8, .inl T_kind)), (at3, .inl (cy 0, 8, .inl T_holds)), (at4, .inl (cy 0, 8, .inl T_gone)), (at5, .inl (cy 0, 8, .inl T_tells))] s.heap.size = A at hD hAB0 ⊢
  have hA : ∀ q : Nat, s.heap.size ≤ q → A q := fun q h => by rw [← hAe]; exact Or.inr h
  have hAB : ∀ q, A q → B ≤ q := hAB0
  have hS : va_S A s.heap s.heap [] := va_S.rf
  have hfin : ∀ (z0 : Int32) (T_laws : (Nat → Int32)) (T_kind : (Nat → Int32)) (T_holds : (Nat → Int32)) (T_gone : (Nat → Int32)) (T_tells : (Nat → Int32)) (T_drowned : Int32) (T_count : Int32) (T_course : Int32) (T_told : Int32) (T_z : Int32), some (z0, (T_laws, T_kind, T_holds, T_gone, T_tells, T_drowned, T_count, T_course, T_told, T_z)) = some z → ∀ (H : Heap) (t : State), t.heap = H → va_P D vwCl [(at0, .inr (4, [.ref at1, .ref at2, .ref at3, .ref at4, .ref at5, .int T_drowned, .int T_count, .int T_course, .int T_told, .int T_z])), (at1, .inl (cy 0, 4, .inl T_laws)), (at2, .inl (cy 0, 8, .inl T_kind)), (at3, .inl (cy 0, 8, .inl T_holds)), (at4, .inl (cy 0, 8, .inl T_gone)), (at5, .inl (cy 0, 8, .inl T_tells))] H → va_F A s t → Qw (some (.int z.1)) D [(at0, .inr (4, [.ref at1, .ref at2, .ref at3, .ref at4, .ref at5, .int z.2.2.2.2.2.2.1, .int z.2.2.2.2.2.2.2.1, .int z.2.2.2.2.2.2.2.2.1, .int z.2.2.2.2.2.2.2.2.2.1, .int z.2.2.2.2.2.2.2.2.2.2])), (at1, .inl (cy 0, 4, .inl z.2.1)), (at2, .inl (cy 0, 8, .inl z.2.2.1)), (at3, .inl (cy 0, 8, .inl z.2.2.2.1)), (at4, .inl (cy 0, 8, .inl z.2.2.2.2.1)), (at5, .inl (cy 0, 8, .inl z.2.2.2.2.2.1))] A ([.ref at0, .int x1] : List Value).toArray s (.returned (some (.int z0))) t := by
    intro z0 T_laws T_kind T_holds T_gone T_tells T_drowned T_count T_course T_told T_z h9 H t ht hP hF
    cases h9
    exact ⟨rfl, by rw [ht]; exact hP, hF⟩
  have hin4 : ∀ w ∈ u_ws RX4 TX4 10, w ∈ wsX4_coursesUntilWhole := by decide +kernel
  have fl52 := hts (.fieldLink RX4 52 "KinCutlery$Table" "told" "I") (by decide +kernel)
  have hL10 : ∀ (n0 : Nat) (T_laws : (Nat → Int32)) (T_kind : (Nat → Int32)) (T_holds : (Nat → Int32)) (T_gone : (Nat → Int32)) (T_tells : (Nat → Int32)) (T_drowned : Int32) (T_count : Int32) (T_course : Int32) (T_told : Int32) (T_z : Int32) (y2 : Int32) (y3 : Int32), lpF (fX4_coursesUntilWhole_F10 n x1 ) n0 ((T_laws, T_kind, T_holds, T_gone, T_tells, T_drowned, T_count, T_course, T_told, T_z), y2, y3) = some z → ∀ (H : Heap) (locs : List Loc), va_P D vwCl [(at0, .inr (4, [.ref at1, .ref at2, .ref at3, .ref at4, .ref at5, .int T_drowned, .int T_count, .int T_course, .int T_told, .int T_z])), (at1, .inl (cy 0, 4, .inl T_laws)), (at2, .inl (cy 0, 8, .inl T_kind)), (at3, .inl (cy 0, 8, .inl T_holds)), (at4, .inl (cy 0, 8, .inl T_gone)), (at5, .inl (cy 0, 8, .inl T_tells))] H → va_D A [(at0, .inr (4, [.ref at1, .ref at2, .ref at3, .ref at4, .ref at5, .int T_drowned, .int T_count, .int T_course, .int T_told, .int T_z])), (at1, .inl (cy 0, 4, .inl T_laws)), (at2, .inl (cy 0, 8, .inl T_kind)), (at3, .inl (cy 0, 8, .inl T_holds)), (at4, .inl (cy 0, 8, .inl T_gone)), (at5, .inl (cy 0, 8, .inl T_tells))] → va_S A s.heap H locs → ∀ (ls : Array Slot), lv_has ls 4 [(0, .ref at0), (1, .int x1), (2, .int y2), (3, .int y3)] → W p l e (headSpec wsX4_coursesUntilWhole ({ frames := 4, cells := 0, slots := 0, locals := 94 })).room s m ([.ref at0, .int x1] : List Value).toArray below meth c H locs 0 0 (MQ below (Qw (some (.int z.1)) D [(at0, .inr (4, [.ref at1, .ref at2, .ref at3, .ref at4, .ref at5, .int z.2.2.2.2.2.2.1, .int z.2.2.2.2.2.2.2.1, .int z.2.2.2.2.2.2.2.2.1, .int z.2.2.2.2.2.2.2.2.2.1, .int z.2.2.2.2.2.2.2.2.2.2])), (at1, .inl (cy 0, 4, .inl z.2.1)), (at2, .inl (cy 0, 8, .inl z.2.2.1)), (at3, .inl (cy 0, 8, .inl z.2.2.2.1)), (at4, .inl (cy 0, 8, .inl z.2.2.2.2.1)), (at5, .inl (cy 0, 8, .inl z.2.2.2.2.2.1))] A) ([.ref at0, .int x1] : List Value).toArray s 0 0 A) (F0 m 10 ls []) := by
    have key : ∀ (n0 : Nat) (v10 : TB × Int32 × Int32), lpF (fX4_coursesUntilWhole_F10 n x1 ) n0 v10 = some z → ∀ (H : Heap) (locs : List Loc), va_P D vwCl [(at0, .inr (4, [.ref at1, .ref at2, .ref at3, .ref at4, .ref at5, .int v10.1.2.2.2.2.2.1, .int v10.1.2.2.2.2.2.2.1, .int v10.1.2.2.2.2.2.2.2.1, .int v10.1.2.2.2.2.2.2.2.2.1, .int v10.1.2.2.2.2.2.2.2.2.2])), (at1, .inl (cy 0, 4, .inl v10.1.1)), (at2, .inl (cy 0, 8, .inl v10.1.2.1)), (at3, .inl (cy 0, 8, .inl v10.1.2.2.1)), (at4, .inl (cy 0, 8, .inl v10.1.2.2.2.1)), (at5, .inl (cy 0, 8, .inl v10.1.2.2.2.2.1))] H → va_D A [(at0, .inr (4, [.ref at1, .ref at2, .ref at3, .ref at4, .ref at5, .int v10.1.2.2.2.2.2.1, .int v10.1.2.2.2.2.2.2.1, .int v10.1.2.2.2.2.2.2.2.1, .int v10.1.2.2.2.2.2.2.2.2.1, .int v10.1.2.2.2.2.2.2.2.2.2])), (at1, .inl (cy 0, 4, .inl v10.1.1)), (at2, .inl (cy 0, 8, .inl v10.1.2.1)), (at3, .inl (cy 0, 8, .inl v10.1.2.2.1)), (at4, .inl (cy 0, 8, .inl v10.1.2.2.2.1)), (at5, .inl (cy 0, 8, .inl v10.1.2.2.2.2.1))] → va_S A s.heap H locs → ∀ (ls : Array Slot), lv_has ls 4 [(0, .ref at0), (1, .int x1), (2, .int v10.2.1), (3, .int v10.2.2)] → W p l e (headSpec wsX4_coursesUntilWhole ({ frames := 4, cells := 0, slots := 0, locals := 94 })).room s m ([.ref at0, .int x1] : List Value).toArray below meth c H locs 0 0 (MQ below (Qw (some (.int z.1)) D [(at0, .inr (4, [.ref at1, .ref at2, .ref at3, .ref at4, .ref at5, .int z.2.2.2.2.2.2.1, .int z.2.2.2.2.2.2.2.1, .int z.2.2.2.2.2.2.2.2.1, .int z.2.2.2.2.2.2.2.2.2.1, .int z.2.2.2.2.2.2.2.2.2.2])), (at1, .inl (cy 0, 4, .inl z.2.1)), (at2, .inl (cy 0, 8, .inl z.2.2.1)), (at3, .inl (cy 0, 8, .inl z.2.2.2.1)), (at4, .inl (cy 0, 8, .inl z.2.2.2.2.1)), (at5, .inl (cy 0, 8, .inl z.2.2.2.2.2.1))] A) ([.ref at0, .int x1] : List Value).toArray s 0 0 A) (F0 m 10 ls []) := by
      refine lpW ?_
      intro k10 hk100
      have hk10 : ∀ (T_laws : (Nat → Int32)) (T_kind : (Nat → Int32)) (T_holds : (Nat → Int32)) (T_gone : (Nat → Int32)) (T_tells : (Nat → Int32)) (T_drowned : Int32) (T_count : Int32) (T_course : Int32) (T_told : Int32) (T_z : Int32) (y2 : Int32) (y3 : Int32), k10 ((T_laws, T_kind, T_holds, T_gone, T_tells, T_drowned, T_count, T_course, T_told, T_z), y2, y3) = some z → ∀ (H : Heap) (locs : List Loc), va_P D vwCl [(at0, .inr (4, [.ref at1, .ref at2, .ref at3, .ref at4, .ref at5, .int T_drowned, .int T_count, .int T_course, .int T_told, .int T_z])), (at1, .inl (cy 0, 4, .inl T_laws)), (at2, .inl (cy 0, 8, .inl T_kind)), (at3, .inl (cy 0, 8, .inl T_holds)), (at4, .inl (cy 0, 8, .inl T_gone)), (at5, .inl (cy 0, 8, .inl T_tells))] H → va_D A [(at0, .inr (4, [.ref at1, .ref at2, .ref at3, .ref at4, .ref at5, .int T_drowned, .int T_count, .int T_course, .int T_told, .int T_z])), (at1, .inl (cy 0, 4, .inl T_laws)), (at2, .inl (cy 0, 8, .inl T_kind)), (at3, .inl (cy 0, 8, .inl T_holds)), (at4, .inl (cy 0, 8, .inl T_gone)), (at5, .inl (cy 0, 8, .inl T_tells))] → va_S A s.heap H locs → ∀ (ls : Array Slot), lv_has ls 4 [(0, .ref at0), (1, .int x1), (2, .int y2), (3, .int y3)] → W p l e (headSpec wsX4_coursesUntilWhole ({ frames := 4, cells := 0, slots := 0, locals := 94 })).room s m ([.ref at0, .int x1] : List Value).toArray below meth c H locs 0 0 (MQ below (Qw (some (.int z.1)) D [(at0, .inr (4, [.ref at1, .ref at2, .ref at3, .ref at4, .ref at5, .int z.2.2.2.2.2.2.1, .int z.2.2.2.2.2.2.2.1, .int z.2.2.2.2.2.2.2.2.1, .int z.2.2.2.2.2.2.2.2.2.1, .int z.2.2.2.2.2.2.2.2.2.2])), (at1, .inl (cy 0, 4, .inl z.2.1)), (at2, .inl (cy 0, 8, .inl z.2.2.1)), (at3, .inl (cy 0, 8, .inl z.2.2.2.1)), (at4, .inl (cy 0, 8, .inl z.2.2.2.2.1)), (at5, .inl (cy 0, 8, .inl z.2.2.2.2.2.1))] A) ([.ref at0, .int x1] : List Value).toArray s 0 0 A) (F0 m 10 ls []) := fun T_laws T_kind T_holds T_gone T_tells T_drowned T_count T_course T_told T_z y2 y3 h9 => hk100 ((T_laws, T_kind, T_holds, T_gone, T_tells, T_drowned, T_count, T_course, T_told, T_z), y2, y3) h9
      have hstep : ∀ (T_laws : (Nat → Int32)) (T_kind : (Nat → Int32)) (T_holds : (Nat → Int32)) (T_gone : (Nat → Int32)) (T_tells : (Nat → Int32)) (T_drowned : Int32) (T_count : Int32) (T_course : Int32) (T_told : Int32) (T_z : Int32) (y2 : Int32) (y3 : Int32), fX4_coursesUntilWhole_F10 n x1  k10 ((T_laws, T_kind, T_holds, T_gone, T_tells, T_drowned, T_count, T_course, T_told, T_z), y2, y3) = some z → ∀ (H : Heap) (locs : List Loc), va_P D vwCl [(at0, .inr (4, [.ref at1, .ref at2, .ref at3, .ref at4, .ref at5, .int T_drowned, .int T_count, .int T_course, .int T_told, .int T_z])), (at1, .inl (cy 0, 4, .inl T_laws)), (at2, .inl (cy 0, 8, .inl T_kind)), (at3, .inl (cy 0, 8, .inl T_holds)), (at4, .inl (cy 0, 8, .inl T_gone)), (at5, .inl (cy 0, 8, .inl T_tells))] H → va_D A [(at0, .inr (4, [.ref at1, .ref at2, .ref at3, .ref at4, .ref at5, .int T_drowned, .int T_count, .int T_course, .int T_told, .int T_z])), (at1, .inl (cy 0, 4, .inl T_laws)), (at2, .inl (cy 0, 8, .inl T_kind)), (at3, .inl (cy 0, 8, .inl T_holds)), (at4, .inl (cy 0, 8, .inl T_gone)), (at5, .inl (cy 0, 8, .inl T_tells))] → va_S A s.heap H locs → ∀ (ls : Array Slot), lv_has ls 4 [(0, .ref at0), (1, .int x1), (2, .int y2), (3, .int y3)] → W p l e (headSpec wsX4_coursesUntilWhole ({ frames := 4, cells := 0, slots := 0, locals := 94 })).room s m ([.ref at0, .int x1] : List Value).toArray below meth c H locs 0 0 (MQ below (Qw (some (.int z.1)) D [(at0, .inr (4, [.ref at1, .ref at2, .ref at3, .ref at4, .ref at5, .int z.2.2.2.2.2.2.1, .int z.2.2.2.2.2.2.2.1, .int z.2.2.2.2.2.2.2.2.1, .int z.2.2.2.2.2.2.2.2.2.1, .int z.2.2.2.2.2.2.2.2.2.2])), (at1, .inl (cy 0, 4, .inl z.2.1)), (at2, .inl (cy 0, 8, .inl z.2.2.1)), (at3, .inl (cy 0, 8, .inl z.2.2.2.1)), (at4, .inl (cy 0, 8, .inl z.2.2.2.2.1)), (at5, .inl (cy 0, 8, .inl z.2.2.2.2.2.1))] A) ([.ref at0, .int x1] : List Value).toArray s 0 0 A) (F0 m 10 ls []) := by
        intro T_laws T_kind T_holds T_gone T_tells T_drowned T_count T_course T_told T_z y2 y3 hf H locs hP hD hS ls hl
        have hf : (if x1 < y3 then (some ((-3 : Int32), (T_laws, T_kind, T_holds, T_gone, T_tells, T_drowned, T_count, T_course, T_told, T_z))) else ((fX4_serve n (T_laws, T_kind, T_holds, T_gone, T_tells, T_drowned, T_count, T_course, T_told, T_z)).bind fun r16 => if (r16.2.2.2.2.2.2.2.2.1 / (8 : Int32)) ≤ y2 then (k10 (r16, y2, (y3 + (1 : Int32)))) else (some (y3, r16)))) = some z := hf
        refine lv_iload_n hx hb dX4_coursesUntilWhole_10 rfl (lv_at hl 3 rfl) ?_
        refine lv_iload_n hx hb dX4_coursesUntilWhole_11 rfl (lv_at hl 1 rfl) ?_
        refine lv_icmp_gt (tgt := 38) hx hb dX4_coursesUntilWhole_12 (by decide) (fun c_12 => ?_) (fun c_12 => ?_)
        · have hf := zp hf c_12
          refine lv_bipush (v := (-3 : Int32)) hx hb dX4_coursesUntilWhole_38 (by decide) ?_
          exact W.iret hx hb hr (fun t ht hW => hfin (-3 : Int32) T_laws T_kind T_holds T_gone T_tells T_drowned T_count T_course T_told T_z hf _ t ht hP (hS.F ht)) hS.2.2 dX4_coursesUntilWhole_40
        · have hf := zn hf c_12
          refine lv_aload_n hx hb dX4_coursesUntilWhole_15 rfl (lv_at hl 0 rfl) ?_
          obtain ⟨r16, hc16, hf⟩ := zb hf
          refine zvw (o := none) (As := []) (rest := []) (stk := []) ⟨hx, hb, hml, hown, hts⟩ (mX4_serve l D cy st sk sv B at0 at1 at2 at3 at4 at5 _ n T_laws T_kind T_holds T_gone T_tells T_drowned T_count T_course T_told T_z r16 hc16) (cwV 0 hts gX4_coursesUntilWhole_X4_serve rfl rfl rfl (by decide +kernel) ⟨Nat.le_of_ble_eq_true rfl, Nat.le_of_ble_eq_true rfl⟩) hG hS hAB hA hP hD [0, 1, 2, 3, 4, 5] (by decide) rfl rfl rfl rfl 0 4 rfl rfl rfl rfl hl.1 rfl (Nat.le_of_ble_eq_true rfl) dX4_coursesUntilWhole_16 rfl (fun H locs hP hD hS => ?_)
          have hP : va_P D vwCl [(at0, .inr (4, [.ref at1, .ref at2, .ref at3, .ref at4, .ref at5, .int r16.2.2.2.2.2.1, .int r16.2.2.2.2.2.2.1, .int r16.2.2.2.2.2.2.2.1, .int r16.2.2.2.2.2.2.2.2.1, .int r16.2.2.2.2.2.2.2.2.2])), (at1, .inl (cy 0, 4, .inl r16.1)), (at2, .inl (cy 0, 8, .inl r16.2.1)), (at3, .inl (cy 0, 8, .inl r16.2.2.1)), (at4, .inl (cy 0, 8, .inl r16.2.2.2.1)), (at5, .inl (cy 0, 8, .inl r16.2.2.2.2.1))] H := hP
          have hD : va_D A [(at0, .inr (4, [.ref at1, .ref at2, .ref at3, .ref at4, .ref at5, .int r16.2.2.2.2.2.1, .int r16.2.2.2.2.2.2.1, .int r16.2.2.2.2.2.2.2.1, .int r16.2.2.2.2.2.2.2.2.1, .int r16.2.2.2.2.2.2.2.2.2])), (at1, .inl (cy 0, 4, .inl r16.1)), (at2, .inl (cy 0, 8, .inl r16.2.1)), (at3, .inl (cy 0, 8, .inl r16.2.2.1)), (at4, .inl (cy 0, 8, .inl r16.2.2.2.1)), (at5, .inl (cy 0, 8, .inl r16.2.2.2.2.1))] := hD
          refine lv_aload_n hx hb dX4_coursesUntilWhole_19 rfl (lv_at hl 0 rfl) ?_
          refine va_get (D := D) (ci := 4) (v := .int r16.2.2.2.2.2.2.2.2.1) (C := RX4) (T := TX4) (N := 10) hx hb hts hin4 hown hK hP 0 rfl rfl 8 (by decide) fl52 (fun _ h9 => h9) rfl dX4_coursesUntilWhole_20 ?_
          refine lv_bipush (v := (8 : Int32)) hx hb dX4_coursesUntilWhole_23 (by decide) ?_
          refine lv_idiv hx hb dX4_coursesUntilWhole_25 (by decide) ?_
          refine lv_iload_n hx hb dX4_coursesUntilWhole_26 rfl (lv_at hl 2 rfl) ?_
          refine lv_icmp_le (tgt := 32) hx hb dX4_coursesUntilWhole_27 (by decide) (fun c_27 => ?_) (fun c_27 => ?_)
          · have hf := zp hf c_27
            refine lv_iinc (v := (y3 + (1 : Int32))) (lv' := [(3, .int (y3 + (1 : Int32))), (0, .ref at0), (1, .int x1), (2, .int y2)]) hx hb dX4_coursesUntilWhole_32 hl (k := 3) rfl rfl (by decide) rfl (fun ls hl => ?_)
            refine lv_goto (tgt := 10) hx hb dX4_coursesUntilWhole_35 (by decide) ?_
            exact hk10 r16.1 r16.2.1 r16.2.2.1 r16.2.2.2.1 r16.2.2.2.2.1 r16.2.2.2.2.2.1 r16.2.2.2.2.2.2.1 r16.2.2.2.2.2.2.2.1 r16.2.2.2.2.2.2.2.2.1 r16.2.2.2.2.2.2.2.2.2 y2 (y3 + (1 : Int32)) hf _ _ hP hD hS _ (lv_sub hl [1, 2, 3, 0] rfl)
          · have hf := zn hf c_27
            refine lv_iload_n hx hb dX4_coursesUntilWhole_30 rfl (lv_at hl 3 rfl) ?_
            exact W.iret hx hb hr (fun t ht hW => hfin y3 r16.1 r16.2.1 r16.2.2.1 r16.2.2.2.1 r16.2.2.2.2.1 r16.2.2.2.2.2.1 r16.2.2.2.2.2.2.1 r16.2.2.2.2.2.2.2.1 r16.2.2.2.2.2.2.2.2.1 r16.2.2.2.2.2.2.2.2.2 hf _ t ht hP (hS.F ht)) hS.2.2 dX4_coursesUntilWhole_31
      exact fun v10 h9 => hstep v10.1.1 v10.1.2.1 v10.1.2.2.1 v10.1.2.2.2.1 v10.1.2.2.2.2.1 v10.1.2.2.2.2.2.1 v10.1.2.2.2.2.2.2.1 v10.1.2.2.2.2.2.2.2.1 v10.1.2.2.2.2.2.2.2.2.1 v10.1.2.2.2.2.2.2.2.2.2 v10.2.1 v10.2.2 h9
    exact fun n0 T_laws T_kind T_holds T_gone T_tells T_drowned T_count T_course T_told T_z y2 y3 h9 => key n0 ((T_laws, T_kind, T_holds, T_gone, T_tells, T_drowned, T_count, T_course, T_told, T_z), y2, y3) h9
  have hl := lv_entry ([.ref at0, .int x1]) (n := 4) (Nat.le_of_ble_eq_true rfl)
  rw [lg_entry_eq]
  generalize (lg_sl ([.ref at0, .int x1]) ++ List.replicate (4 - (lg_sl ([.ref at0, .int x1])).length) Slot.unset).toArray = ls at hl ⊢
  have hl : lv_has ls 4 [(0, .ref at0), (1, .int x1)] := hl
  have hf : (lpF (fX4_coursesUntilWhole_F10 n x1 ) n ((T_laws, T_kind, T_holds, T_gone, T_tells, T_drowned, T_count, T_course, T_told, T_z), (T_told / (8 : Int32)), (1 : Int32))) = some z := hf
  refine lv_aload_n hx hb dX4_coursesUntilWhole_0 rfl (lv_at hl 0 rfl) ?_
  refine va_get (D := D) (ci := 4) (v := .int T_told) (C := RX4) (T := TX4) (N := 10) hx hb hts hin4 hown hK hP 0 rfl rfl 8 (by decide) fl52 (fun _ h9 => h9) rfl dX4_coursesUntilWhole_1 ?_
  refine lv_bipush (v := (8 : Int32)) hx hb dX4_coursesUntilWhole_4 (by decide) ?_
  refine lv_idiv hx hb dX4_coursesUntilWhole_6 (by decide) ?_
  refine lv_istore_n (lv' := [(2, .int (T_told / (8 : Int32))), (0, .ref at0), (1, .int x1)]) hx hb dX4_coursesUntilWhole_7 rfl hl (by decide) rfl (fun ls hl => ?_)
  refine lv_iconst (v := (1 : Int32)) hx hb dX4_coursesUntilWhole_8 (by decide) ?_
  refine lv_istore_n (lv' := [(3, .int (1 : Int32)), (2, .int (T_told / (8 : Int32))), (0, .ref at0), (1, .int x1)]) hx hb dX4_coursesUntilWhole_9 rfl hl (by decide) rfl (fun ls hl => ?_)
  exact hL10 n T_laws T_kind T_holds T_gone T_tells T_drowned T_count T_course T_told T_z (T_told / (8 : Int32)) (1 : Int32) hf _ _ hP hD hS _ (lv_sub hl [2, 3, 1, 0] rfl)
set_option maxRecDepth 100000 in
set_option maxHeartbeats 100000000 in
theorem mX4_deepestAlive (l : Launch) (D : va_G) (cy : Nat → ClassId) (st sk sv : Nat → Nat) (B : Nat) (at0 : Nat) (at1 : Nat) (at2 : Nat) (at3 : Nat) (at4 : Nat) (at5 : Nat) (n : Nat) (T_laws : (Nat → Int32)) (T_kind : (Nat → Int32)) (T_holds : (Nat → Int32)) (T_gone : (Nat → Int32)) (T_tells : (Nat → Int32)) (T_drowned : Int32) (T_count : Int32) (T_course : Int32) (T_told : Int32) (T_z : Int32)  (z : Int32) (hf : fX4_deepestAlive n (T_laws, T_kind, T_holds, T_gone, T_tells, T_drowned, T_count, T_course, T_told, T_z) = some z) : Met l yX4_deepestAlive wsX4_deepestAlive ({ frames := 1, cells := 0, slots := 0, locals := 30 }) (PcR [.ref at0] D cy st sk sv B [(at0, .inr (4, [.ref at1, .ref at2, .ref at3, .ref at4, .ref at5, .int T_drowned, .int T_count, .int T_course, .int T_told, .int T_z])), (at1, .inl (cy 0, 4, .inl T_laws)), (at2, .inl (cy 0, 8, .inl T_kind)), (at3, .inl (cy 0, 8, .inl T_holds)), (at4, .inl (cy 0, 8, .inl T_gone)), (at5, .inl (cy 0, 8, .inl T_tells))]) (Qr (some (.int z))) 0 0 (fun _ => False) := by
  refine Met.ofW (cc := cX4_deepestAlive) (maxL := 3) (ret := (some .int)) (by decide) rfl ?_
  intro p e s m args below meth c s₁ Bd hml hv
  obtain ⟨rfl, hP, hG⟩ := hv
  have hx := Bd.exec
  have hb := Bd.bytes
  have hr := Bd.returns
  have hts := atoms_spec (ws := wsX4_deepestAlive) Bd.pre
  have hown : s.vm.findClass RX4 = some m.cls := findClass_of_methodNamed Bd.named
  have hlocks := Bd.notSynchronized
  have hK := hG.1
  have hS : va_S (fun q => B ≤ q) s.heap s.heap [] := va_S.rf
  have hAB : ∀ q, (fun q => B ≤ q) q → B ≤ q := fun _ h => h
  have hin4 : ∀ w ∈ u_ws RX4 TX4 10, w ∈ wsX4_deepestAlive := by decide +kernel
  have fl21 := hts (.fieldLink RX4 21 "KinCutlery$Table" "gone" "[I") (by decide +kernel)
  have fl46 := hts (.fieldLink RX4 46 "KinCutlery$Table" "count" "I") (by decide +kernel)
  have hL4 : ∀ (n0 : Nat) (y1 : Int32) (y2 : Int32), lpF (fX4_deepestAlive_F4 n (T_laws, T_kind, T_holds, T_gone, T_tells, T_drowned, T_count, T_course, T_told, T_z) ) n0 (y1, y2) = some z → ∀ (ls : Array Slot), lv_has ls 3 [(0, .ref at0), (1, .int y1), (2, .int y2)] → W p l e (headSpec wsX4_deepestAlive ({ frames := 1, cells := 0, slots := 0, locals := 30 })).room s m ([.ref at0] : List Value).toArray below meth c s.heap [] 0 0 (MQ below (Qr (some (.int z))) ([.ref at0] : List Value).toArray s 0 0 (fun _ => False)) (F0 m 4 ls []) := by
    have key : ∀ (n0 : Nat) (v4 : Int32 × Int32), lpF (fX4_deepestAlive_F4 n (T_laws, T_kind, T_holds, T_gone, T_tells, T_drowned, T_count, T_course, T_told, T_z) ) n0 v4 = some z → ∀ (ls : Array Slot), lv_has ls 3 [(0, .ref at0), (1, .int v4.1), (2, .int v4.2)] → W p l e (headSpec wsX4_deepestAlive ({ frames := 1, cells := 0, slots := 0, locals := 30 })).room s m ([.ref at0] : List Value).toArray below meth c s.heap [] 0 0 (MQ below (Qr (some (.int z))) ([.ref at0] : List Value).toArray s 0 0 (fun _ => False)) (F0 m 4 ls []) := by
      refine lpW ?_
      intro k4 hk40
      have hk4 : ∀ (y1 : Int32) (y2 : Int32), k4 (y1, y2) = some z → ∀ (ls : Array Slot), lv_has ls 3 [(0, .ref at0), (1, .int y1), (2, .int y2)] → W p l e (headSpec wsX4_deepestAlive ({ frames := 1, cells := 0, slots := 0, locals := 30 })).room s m ([.ref at0] : List Value).toArray below meth c s.heap [] 0 0 (MQ below (Qr (some (.int z))) ([.ref at0] : List Value).toArray s 0 0 (fun _ => False)) (F0 m 4 ls []) := fun y1 y2 h9 => hk40 (y1, y2) h9
      have hB31 : ∀ (y1 : Int32) (y2 : Int32), fX4_deepestAlive_b31 n (T_laws, T_kind, T_holds, T_gone, T_tells, T_drowned, T_count, T_course, T_told, T_z) k4 y1 y2 = some z → ∀ (ls : Array Slot), lv_has ls 3 [(0, .ref at0), (1, .int y1), (2, .int y2)] → W p l e (headSpec wsX4_deepestAlive ({ frames := 1, cells := 0, slots := 0, locals := 30 })).room s m ([.ref at0] : List Value).toArray below meth c s.heap [] 0 0 (MQ below (Qr (some (.int z))) ([.ref at0] : List Value).toArray s 0 0 (fun _ => False)) (F0 m 31 ls []) := by
        intro y1 y2 hf ls hl
        have hf : (k4 (y1, (y2 + (1 : Int32)))) = some z := hf
        refine lv_iinc (v := (y2 + (1 : Int32))) (lv' := [(2, .int (y2 + (1 : Int32))), (0, .ref at0), (1, .int y1)]) hx hb dX4_deepestAlive_31 hl (k := 2) rfl rfl (by decide) rfl (fun ls hl => ?_)
        refine lv_goto (tgt := 4) hx hb dX4_deepestAlive_34 (by decide) ?_
        exact hk4 y1 (y2 + (1 : Int32)) hf _ (lv_sub hl [1, 2, 0] rfl)
      have hstep : ∀ (y1 : Int32) (y2 : Int32), fX4_deepestAlive_F4 n (T_laws, T_kind, T_holds, T_gone, T_tells, T_drowned, T_count, T_course, T_told, T_z)  k4 (y1, y2) = some z → ∀ (ls : Array Slot), lv_has ls 3 [(0, .ref at0), (1, .int y1), (2, .int y2)] → W p l e (headSpec wsX4_deepestAlive ({ frames := 1, cells := 0, slots := 0, locals := 30 })).room s m ([.ref at0] : List Value).toArray below meth c s.heap [] 0 0 (MQ below (Qr (some (.int z))) ([.ref at0] : List Value).toArray s 0 0 (fun _ => False)) (F0 m 4 ls []) := by
        intro y1 y2 hf ls hl
        have hf : (if T_count ≤ y2 then (some y1) else ((fX4_isDrowned n (T_laws, T_kind, T_holds, T_gone, T_tells, T_drowned, T_count, T_course, T_told, T_z) y2).bind fun r14 => if r14 = 0 then (if y2 < 0 ∨ 8 ≤ y2.toNatClampNeg then none else fX4_deepestAlive_b31 n (T_laws, T_kind, T_holds, T_gone, T_tells, T_drowned, T_count, T_course, T_told, T_z) k4 (if y1 < (T_gone y2.toNatClampNeg) then (T_gone y2.toNatClampNeg) else y1) y2) else (fX4_deepestAlive_b31 n (T_laws, T_kind, T_holds, T_gone, T_tells, T_drowned, T_count, T_course, T_told, T_z) k4 y1 y2))) = some z := hf
        refine lv_iload_n hx hb dX4_deepestAlive_4 rfl (lv_at hl 2 rfl) ?_
        refine lv_aload_n hx hb dX4_deepestAlive_5 rfl (lv_at hl 0 rfl) ?_
        refine va_get (D := D) (ci := 4) (v := .int T_count) (C := RX4) (T := TX4) (N := 10) hx hb hts hin4 hown hK hP 0 rfl rfl 6 (by decide) fl46 (fun _ h9 => h9) rfl dX4_deepestAlive_6 ?_
        refine lv_icmp_ge (tgt := 37) hx hb dX4_deepestAlive_9 (by decide) (fun c_9 => ?_) (fun c_9 => ?_)
        · have hf := zp hf c_9
          refine lv_iload_n hx hb dX4_deepestAlive_37 rfl (lv_at hl 1 rfl) ?_
          cases hf
          exact W.iret hx hb hr (fun t ht hW => ⟨rfl, ht⟩) (fun q h => absurd h List.not_mem_nil) dX4_deepestAlive_38
        · have hf := zn hf c_9
          refine lv_aload_n hx hb dX4_deepestAlive_12 rfl (lv_at hl 0 rfl) ?_
          refine lv_iload_n hx hb dX4_deepestAlive_13 rfl (lv_at hl 2 rfl) ?_
          obtain ⟨r14, hc14, hf⟩ := zb hf
          refine zvr (o := some (.int r14)) (As := [.int y2]) (rest := []) (stk := [.int r14]) ⟨hx, hb, hml, hown, hts⟩ (mX4_isDrowned l D cy st sk sv B at0 at1 at2 at3 at4 at5 n T_laws T_kind T_holds T_gone T_tells T_drowned T_count T_course T_told T_z y2 r14 hc14) (cwV 1 hts gX4_deepestAlive_X4_isDrowned rfl rfl rfl (by decide +kernel) ⟨Nat.le_of_ble_eq_true rfl, Nat.le_of_ble_eq_true rfl⟩) hG hS hAB hP [0, 1, 2, 3, 4, 5] rfl 0 4 rfl rfl rfl rfl hl.1 rfl (Nat.le_of_ble_eq_true rfl) dX4_deepestAlive_14 rfl ?_
          refine lv_if_ne (tgt := 31) hx hb dX4_deepestAlive_17 (by decide) (fun c_17 => ?_) (fun c_17 => ?_)
          · have hf := zn hf c_17
            exact hB31 y1 y2 hf _ (lv_sub hl [0, 1, 2] rfl)
          · have hf := zp hf c_17
            refine lv_iload_n hx hb dX4_deepestAlive_20 rfl (lv_at hl 1 rfl) ?_
            refine lv_aload_n hx hb dX4_deepestAlive_21 rfl (lv_at hl 0 rfl) ?_
            refine va_get (D := D) (ci := 4) (v := .ref at4) (C := RX4) (T := TX4) (N := 10) hx hb hts hin4 hown hK hP 0 rfl rfl 3 (by decide) fl21 (fun _ h9 => h9) rfl dX4_deepestAlive_22 ?_
            refine lv_iload_n hx hb dX4_deepestAlive_25 rfl (lv_at hl 2 rfl) ?_
            obtain ⟨h_26, hf⟩ := zg hf
            refine va_iald hx hb hK hP 4 0 rfl rfl h_26 dX4_deepestAlive_26 ?_
            refine va_mmax hx hb (hml.trans hl.1.symm) hown (hts (.methodLink RX4 105 Lib.Math.max.name) (by decide +kernel)) (hts (.static Lib.Math.max.name) (by decide +kernel)) (hts (.initialized "java/lang/Math") (by decide +kernel)) (hts (.code Lib.Math.max.name Lib.Math.max.code 2 (some .int)) (by decide +kernel)) (Nat.le_of_ble_eq_true rfl) (Nat.le_of_ble_eq_true rfl) (Nat.zero_le _) (Nat.zero_le _) dX4_deepestAlive_27 ?_
            refine lv_istore_n (lv' := [(1, .int (if y1 < (T_gone y2.toNatClampNeg) then (T_gone y2.toNatClampNeg) else y1)), (0, .ref at0), (2, .int y2)]) hx hb dX4_deepestAlive_30 rfl hl (by decide) rfl (fun ls hl => ?_)
            exact hB31 (if y1 < (T_gone y2.toNatClampNeg) then (T_gone y2.toNatClampNeg) else y1) y2 hf _ (lv_sub hl [1, 0, 2] rfl)
      exact fun v4 h9 => hstep v4.1 v4.2 h9
    exact fun n0 y1 y2 h9 => key n0 (y1, y2) h9
  have hl := lv_entry ([.ref at0]) (n := 3) (Nat.le_of_ble_eq_true rfl)
  rw [lg_entry_eq]
  generalize (lg_sl ([.ref at0]) ++ List.replicate (3 - (lg_sl ([.ref at0])).length) Slot.unset).toArray = ls at hl ⊢
  have hl : lv_has ls 3 [(0, .ref at0)] := hl
  have hf : (lpF (fX4_deepestAlive_F4 n (T_laws, T_kind, T_holds, T_gone, T_tells, T_drowned, T_count, T_course, T_told, T_z) ) n ((0 : Int32), (0 : Int32))) = some z := hf
  refine lv_iconst (v := (0 : Int32)) hx hb dX4_deepestAlive_0 (by decide) ?_
  refine lv_istore_n (lv' := [(1, .int (0 : Int32)), (0, .ref at0)]) hx hb dX4_deepestAlive_1 rfl hl (by decide) rfl (fun ls hl => ?_)
  refine lv_iconst (v := (0 : Int32)) hx hb dX4_deepestAlive_2 (by decide) ?_
  refine lv_istore_n (lv' := [(2, .int (0 : Int32)), (1, .int (0 : Int32)), (0, .ref at0)]) hx hb dX4_deepestAlive_3 rfl hl (by decide) rfl (fun ls hl => ?_)
  exact hL4 n (0 : Int32) (0 : Int32) hf _ (lv_sub hl [2, 1, 0] rfl)
set_option maxRecDepth 100000 in
set_option maxHeartbeats 100000000 in
theorem mX4_goneTogether (l : Launch) (D : va_G) (cy : Nat → ClassId) (st sk sv : Nat → Nat) (B : Nat) (at0 : Nat) (at1 : Nat) (at2 : Nat) (at3 : Nat) (at4 : Nat) (at5 : Nat) (n : Nat) (T_laws : (Nat → Int32)) (T_kind : (Nat → Int32)) (T_holds : (Nat → Int32)) (T_gone : (Nat → Int32)) (T_tells : (Nat → Int32)) (T_drowned : Int32) (T_count : Int32) (T_course : Int32) (T_told : Int32) (T_z : Int32)  (z : Int32) (hf : fX4_goneTogether n (T_laws, T_kind, T_holds, T_gone, T_tells, T_drowned, T_count, T_course, T_told, T_z) = some z) : Met l yX4_goneTogether wsX4_goneTogether ({ frames := 0, cells := 0, slots := 0, locals := 0 }) (PcR [.ref at0] D cy st sk sv B [(at0, .inr (4, [.ref at1, .ref at2, .ref at3, .ref at4, .ref at5, .int T_drowned, .int T_count, .int T_course, .int T_told, .int T_z])), (at1, .inl (cy 0, 4, .inl T_laws)), (at2, .inl (cy 0, 8, .inl T_kind)), (at3, .inl (cy 0, 8, .inl T_holds)), (at4, .inl (cy 0, 8, .inl T_gone)), (at5, .inl (cy 0, 8, .inl T_tells))]) (Qr (some (.int z))) 0 0 (fun _ => False) := by
  refine Met.ofW (cc := cX4_goneTogether) (maxL := 3) (ret := (some .int)) (by decide) rfl ?_
  intro p e s m args below meth c s₁ Bd hml hv
  obtain ⟨rfl, hP, hG⟩ := hv
  have hx := Bd.exec
  have hb := Bd.bytes
  have hr := Bd.returns
  have hts := atoms_spec (ws := wsX4_goneTogether) Bd.pre
  have hown : s.vm.findClass RX4 = some m.cls := findClass_of_methodNamed Bd.named
  have hlocks := Bd.notSynchronized
  have hK := hG.1
  have hS : va_S (fun q => B ≤ q) s.heap s.heap [] := va_S.rf
  have hAB : ∀ q, (fun q => B ≤ q) q → B ≤ q := fun _ h => h
  have hin4 : ∀ w ∈ u_ws RX4 TX4 10, w ∈ wsX4_goneTogether := by decide +kernel
  have fl21 := hts (.fieldLink RX4 21 "KinCutlery$Table" "gone" "[I") (by decide +kernel)
  have fl46 := hts (.fieldLink RX4 46 "KinCutlery$Table" "count" "I") (by decide +kernel)
  have hL4 : ∀ (n0 : Nat) (y1 : Int32) (y2 : Int32), lpF (fX4_goneTogether_F4 n (T_laws, T_kind, T_holds, T_gone, T_tells, T_drowned, T_count, T_course, T_told, T_z) ) n0 (y1, y2) = some z → ∀ (ls : Array Slot), lv_has ls 3 [(0, .ref at0), (1, .int y1), (2, .int y2)] → W p l e (headSpec wsX4_goneTogether ({ frames := 0, cells := 0, slots := 0, locals := 0 })).room s m ([.ref at0] : List Value).toArray below meth c s.heap [] 0 0 (MQ below (Qr (some (.int z))) ([.ref at0] : List Value).toArray s 0 0 (fun _ => False)) (F0 m 4 ls []) := by
    have key : ∀ (n0 : Nat) (v4 : Int32 × Int32), lpF (fX4_goneTogether_F4 n (T_laws, T_kind, T_holds, T_gone, T_tells, T_drowned, T_count, T_course, T_told, T_z) ) n0 v4 = some z → ∀ (ls : Array Slot), lv_has ls 3 [(0, .ref at0), (1, .int v4.1), (2, .int v4.2)] → W p l e (headSpec wsX4_goneTogether ({ frames := 0, cells := 0, slots := 0, locals := 0 })).room s m ([.ref at0] : List Value).toArray below meth c s.heap [] 0 0 (MQ below (Qr (some (.int z))) ([.ref at0] : List Value).toArray s 0 0 (fun _ => False)) (F0 m 4 ls []) := by
      refine lpW ?_
      intro k4 hk40
      have hk4 : ∀ (y1 : Int32) (y2 : Int32), k4 (y1, y2) = some z → ∀ (ls : Array Slot), lv_has ls 3 [(0, .ref at0), (1, .int y1), (2, .int y2)] → W p l e (headSpec wsX4_goneTogether ({ frames := 0, cells := 0, slots := 0, locals := 0 })).room s m ([.ref at0] : List Value).toArray below meth c s.heap [] 0 0 (MQ below (Qr (some (.int z))) ([.ref at0] : List Value).toArray s 0 0 (fun _ => False)) (F0 m 4 ls []) := fun y1 y2 h9 => hk40 (y1, y2) h9
      have hstep : ∀ (y1 : Int32) (y2 : Int32), fX4_goneTogether_F4 n (T_laws, T_kind, T_holds, T_gone, T_tells, T_drowned, T_count, T_course, T_told, T_z)  k4 (y1, y2) = some z → ∀ (ls : Array Slot), lv_has ls 3 [(0, .ref at0), (1, .int y1), (2, .int y2)] → W p l e (headSpec wsX4_goneTogether ({ frames := 0, cells := 0, slots := 0, locals := 0 })).room s m ([.ref at0] : List Value).toArray below meth c s.heap [] 0 0 (MQ below (Qr (some (.int z))) ([.ref at0] : List Value).toArray s 0 0 (fun _ => False)) (F0 m 4 ls []) := by
        intro y1 y2 hf ls hl
        have hf : (if T_count ≤ y2 then (some y1) else (if y2 < 0 ∨ 8 ≤ y2.toNatClampNeg then none else k4 ((y1 + (T_gone y2.toNatClampNeg)), (y2 + (1 : Int32))))) = some z := hf
        refine lv_iload_n hx hb dX4_goneTogether_4 rfl (lv_at hl 2 rfl) ?_
        refine lv_aload_n hx hb dX4_goneTogether_5 rfl (lv_at hl 0 rfl) ?_
        refine va_get (D := D) (ci := 4) (v := .int T_count) (C := RX4) (T := TX4) (N := 10) hx hb hts hin4 hown hK hP 0 rfl rfl 6 (by decide) fl46 (fun _ h9 => h9) rfl dX4_goneTogether_6 ?_
        refine lv_icmp_ge (tgt := 27) hx hb dX4_goneTogether_9 (by decide) (fun c_9 => ?_) (fun c_9 => ?_)
        · have hf := zp hf c_9
          refine lv_iload_n hx hb dX4_goneTogether_27 rfl (lv_at hl 1 rfl) ?_
          cases hf
          exact W.iret hx hb hr (fun t ht hW => ⟨rfl, ht⟩) (fun q h => absurd h List.not_mem_nil) dX4_goneTogether_28
        · have hf := zn hf c_9
          refine lv_iload_n hx hb dX4_goneTogether_12 rfl (lv_at hl 1 rfl) ?_
          refine lv_aload_n hx hb dX4_goneTogether_13 rfl (lv_at hl 0 rfl) ?_
          refine va_get (D := D) (ci := 4) (v := .ref at4) (C := RX4) (T := TX4) (N := 10) hx hb hts hin4 hown hK hP 0 rfl rfl 3 (by decide) fl21 (fun _ h9 => h9) rfl dX4_goneTogether_14 ?_
          refine lv_iload_n hx hb dX4_goneTogether_17 rfl (lv_at hl 2 rfl) ?_
          obtain ⟨h_18, hf⟩ := zg hf
          refine va_iald hx hb hK hP 4 0 rfl rfl h_18 dX4_goneTogether_18 ?_
          refine lv_iadd hx hb dX4_goneTogether_19 ?_
          refine lv_istore_n (lv' := [(1, .int (y1 + (T_gone y2.toNatClampNeg))), (0, .ref at0), (2, .int y2)]) hx hb dX4_goneTogether_20 rfl hl (by decide) rfl (fun ls hl => ?_)
          refine lv_iinc (v := (y2 + (1 : Int32))) (lv' := [(2, .int (y2 + (1 : Int32))), (1, .int (y1 + (T_gone y2.toNatClampNeg))), (0, .ref at0)]) hx hb dX4_goneTogether_21 hl (k := 2) rfl rfl (by decide) rfl (fun ls hl => ?_)
          refine lv_goto (tgt := 4) hx hb dX4_goneTogether_24 (by decide) ?_
          exact hk4 (y1 + (T_gone y2.toNatClampNeg)) (y2 + (1 : Int32)) hf _ (lv_sub hl [2, 1, 0] rfl)
      exact fun v4 h9 => hstep v4.1 v4.2 h9
    exact fun n0 y1 y2 h9 => key n0 (y1, y2) h9
  have hl := lv_entry ([.ref at0]) (n := 3) (Nat.le_of_ble_eq_true rfl)
  rw [lg_entry_eq]
  generalize (lg_sl ([.ref at0]) ++ List.replicate (3 - (lg_sl ([.ref at0])).length) Slot.unset).toArray = ls at hl ⊢
  have hl : lv_has ls 3 [(0, .ref at0)] := hl
  have hf : (lpF (fX4_goneTogether_F4 n (T_laws, T_kind, T_holds, T_gone, T_tells, T_drowned, T_count, T_course, T_told, T_z) ) n ((0 : Int32), (0 : Int32))) = some z := hf
  refine lv_iconst (v := (0 : Int32)) hx hb dX4_goneTogether_0 (by decide) ?_
  refine lv_istore_n (lv' := [(1, .int (0 : Int32)), (0, .ref at0)]) hx hb dX4_goneTogether_1 rfl hl (by decide) rfl (fun ls hl => ?_)
  refine lv_iconst (v := (0 : Int32)) hx hb dX4_goneTogether_2 (by decide) ?_
  refine lv_istore_n (lv' := [(2, .int (0 : Int32)), (1, .int (0 : Int32)), (0, .ref at0)]) hx hb dX4_goneTogether_3 rfl hl (by decide) rfl (fun ls hl => ?_)
  exact hL4 n (0 : Int32) (0 : Int32) hf _ (lv_sub hl [2, 1, 0] rfl)
set_option maxRecDepth 100000 in
set_option maxHeartbeats 100000000 in
theorem mX4_tellers (l : Launch) (D : va_G) (cy : Nat → ClassId) (st sk sv : Nat → Nat) (B : Nat) (at0 : Nat) (at1 : Nat) (at2 : Nat) (at3 : Nat) (at4 : Nat) (at5 : Nat) (n : Nat) (T_laws : (Nat → Int32)) (T_kind : (Nat → Int32)) (T_holds : (Nat → Int32)) (T_gone : (Nat → Int32)) (T_tells : (Nat → Int32)) (T_drowned : Int32) (T_count : Int32) (T_course : Int32) (T_told : Int32) (T_z : Int32)  (z : Int32) (hf : fX4_tellers n (T_laws, T_kind, T_holds, T_gone, T_tells, T_drowned, T_count, T_course, T_told, T_z) = some z) : Met l yX4_tellers wsX4_tellers ({ frames := 0, cells := 0, slots := 0, locals := 0 }) (PcR [.ref at0] D cy st sk sv B [(at0, .inr (4, [.ref at1, .ref at2, .ref at3, .ref at4, .ref at5, .int T_drowned, .int T_count, .int T_course, .int T_told, .int T_z])), (at1, .inl (cy 0, 4, .inl T_laws)), (at2, .inl (cy 0, 8, .inl T_kind)), (at3, .inl (cy 0, 8, .inl T_holds)), (at4, .inl (cy 0, 8, .inl T_gone)), (at5, .inl (cy 0, 8, .inl T_tells))]) (Qr (some (.int z))) 0 0 (fun _ => False) := by
  refine Met.ofW (cc := cX4_tellers) (maxL := 3) (ret := (some .int)) (by decide) rfl ?_
  intro p e s m args below meth c s₁ Bd hml hv
  obtain ⟨rfl, hP, hG⟩ := hv
  have hx := Bd.exec
  have hb := Bd.bytes
  have hr := Bd.returns
  have hts := atoms_spec (ws := wsX4_tellers) Bd.pre
  have hown : s.vm.findClass RX4 = some m.cls := findClass_of_methodNamed Bd.named
  have hlocks := Bd.notSynchronized
  have hK := hG.1
  have hS : va_S (fun q => B ≤ q) s.heap s.heap [] := va_S.rf
  have hAB : ∀ q, (fun q => B ≤ q) q → B ≤ q := fun _ h => h
  have hin4 : ∀ w ∈ u_ws RX4 TX4 10, w ∈ wsX4_tellers := by decide +kernel
  have fl24 := hts (.fieldLink RX4 24 "KinCutlery$Table" "tells" "[I") (by decide +kernel)
  have fl46 := hts (.fieldLink RX4 46 "KinCutlery$Table" "count" "I") (by decide +kernel)
  have hL4 : ∀ (n0 : Nat) (y1 : Int32) (y2 : Int32), lpF (fX4_tellers_F4 n (T_laws, T_kind, T_holds, T_gone, T_tells, T_drowned, T_count, T_course, T_told, T_z) ) n0 (y1, y2) = some z → ∀ (ls : Array Slot), lv_has ls 3 [(0, .ref at0), (1, .int y1), (2, .int y2)] → W p l e (headSpec wsX4_tellers ({ frames := 0, cells := 0, slots := 0, locals := 0 })).room s m ([.ref at0] : List Value).toArray below meth c s.heap [] 0 0 (MQ below (Qr (some (.int z))) ([.ref at0] : List Value).toArray s 0 0 (fun _ => False)) (F0 m 4 ls []) := by
    have key : ∀ (n0 : Nat) (v4 : Int32 × Int32), lpF (fX4_tellers_F4 n (T_laws, T_kind, T_holds, T_gone, T_tells, T_drowned, T_count, T_course, T_told, T_z) ) n0 v4 = some z → ∀ (ls : Array Slot), lv_has ls 3 [(0, .ref at0), (1, .int v4.1), (2, .int v4.2)] → W p l e (headSpec wsX4_tellers ({ frames := 0, cells := 0, slots := 0, locals := 0 })).room s m ([.ref at0] : List Value).toArray below meth c s.heap [] 0 0 (MQ below (Qr (some (.int z))) ([.ref at0] : List Value).toArray s 0 0 (fun _ => False)) (F0 m 4 ls []) := by
      refine lpW ?_
      intro k4 hk40
      have hk4 : ∀ (y1 : Int32) (y2 : Int32), k4 (y1, y2) = some z → ∀ (ls : Array Slot), lv_has ls 3 [(0, .ref at0), (1, .int y1), (2, .int y2)] → W p l e (headSpec wsX4_tellers ({ frames := 0, cells := 0, slots := 0, locals := 0 })).room s m ([.ref at0] : List Value).toArray below meth c s.heap [] 0 0 (MQ below (Qr (some (.int z))) ([.ref at0] : List Value).toArray s 0 0 (fun _ => False)) (F0 m 4 ls []) := fun y1 y2 h9 => hk40 (y1, y2) h9
      have hB24 : ∀ (y1 : Int32) (y2 : Int32), fX4_tellers_b24 n (T_laws, T_kind, T_holds, T_gone, T_tells, T_drowned, T_count, T_course, T_told, T_z) k4 y1 y2 = some z → ∀ (ls : Array Slot), lv_has ls 3 [(0, .ref at0), (1, .int y1), (2, .int y2)] → W p l e (headSpec wsX4_tellers ({ frames := 0, cells := 0, slots := 0, locals := 0 })).room s m ([.ref at0] : List Value).toArray below meth c s.heap [] 0 0 (MQ below (Qr (some (.int z))) ([.ref at0] : List Value).toArray s 0 0 (fun _ => False)) (F0 m 24 ls []) := by
        intro y1 y2 hf ls hl
        have hf : (k4 (y1, (y2 + (1 : Int32)))) = some z := hf
        refine lv_iinc (v := (y2 + (1 : Int32))) (lv' := [(2, .int (y2 + (1 : Int32))), (0, .ref at0), (1, .int y1)]) hx hb dX4_tellers_24 hl (k := 2) rfl rfl (by decide) rfl (fun ls hl => ?_)
        refine lv_goto (tgt := 4) hx hb dX4_tellers_27 (by decide) ?_
        exact hk4 y1 (y2 + (1 : Int32)) hf _ (lv_sub hl [1, 2, 0] rfl)
      have hstep : ∀ (y1 : Int32) (y2 : Int32), fX4_tellers_F4 n (T_laws, T_kind, T_holds, T_gone, T_tells, T_drowned, T_count, T_course, T_told, T_z)  k4 (y1, y2) = some z → ∀ (ls : Array Slot), lv_has ls 3 [(0, .ref at0), (1, .int y1), (2, .int y2)] → W p l e (headSpec wsX4_tellers ({ frames := 0, cells := 0, slots := 0, locals := 0 })).room s m ([.ref at0] : List Value).toArray below meth c s.heap [] 0 0 (MQ below (Qr (some (.int z))) ([.ref at0] : List Value).toArray s 0 0 (fun _ => False)) (F0 m 4 ls []) := by
        intro y1 y2 hf ls hl
        have hf : (if T_count ≤ y2 then (some y1) else (if y2 < 0 ∨ 8 ≤ y2.toNatClampNeg then none else if (T_tells y2.toNatClampNeg) ≤ 0 then (fX4_tellers_b24 n (T_laws, T_kind, T_holds, T_gone, T_tells, T_drowned, T_count, T_course, T_told, T_z) k4 y1 y2) else (fX4_tellers_b24 n (T_laws, T_kind, T_holds, T_gone, T_tells, T_drowned, T_count, T_course, T_told, T_z) k4 (y1 + (1 : Int32)) y2))) = some z := hf
        refine lv_iload_n hx hb dX4_tellers_4 rfl (lv_at hl 2 rfl) ?_
        refine lv_aload_n hx hb dX4_tellers_5 rfl (lv_at hl 0 rfl) ?_
        refine va_get (D := D) (ci := 4) (v := .int T_count) (C := RX4) (T := TX4) (N := 10) hx hb hts hin4 hown hK hP 0 rfl rfl 6 (by decide) fl46 (fun _ h9 => h9) rfl dX4_tellers_6 ?_
        refine lv_icmp_ge (tgt := 30) hx hb dX4_tellers_9 (by decide) (fun c_9 => ?_) (fun c_9 => ?_)
        · have hf := zp hf c_9
          refine lv_iload_n hx hb dX4_tellers_30 rfl (lv_at hl 1 rfl) ?_
          cases hf
          exact W.iret hx hb hr (fun t ht hW => ⟨rfl, ht⟩) (fun q h => absurd h List.not_mem_nil) dX4_tellers_31
        · have hf := zn hf c_9
          refine lv_aload_n hx hb dX4_tellers_12 rfl (lv_at hl 0 rfl) ?_
          refine va_get (D := D) (ci := 4) (v := .ref at5) (C := RX4) (T := TX4) (N := 10) hx hb hts hin4 hown hK hP 0 rfl rfl 4 (by decide) fl24 (fun _ h9 => h9) rfl dX4_tellers_13 ?_
          refine lv_iload_n hx hb dX4_tellers_16 rfl (lv_at hl 2 rfl) ?_
          obtain ⟨h_17, hf⟩ := zg hf
          refine va_iald hx hb hK hP 5 0 rfl rfl h_17 dX4_tellers_17 ?_
          refine lv_if_le (tgt := 24) hx hb dX4_tellers_18 (by decide) (fun c_18 => ?_) (fun c_18 => ?_)
          · have hf := zp hf c_18
            exact hB24 y1 y2 hf _ (lv_sub hl [0, 1, 2] rfl)
          · have hf := zn hf c_18
            refine lv_iinc (v := (y1 + (1 : Int32))) (lv' := [(1, .int (y1 + (1 : Int32))), (0, .ref at0), (2, .int y2)]) hx hb dX4_tellers_21 hl (k := 1) rfl rfl (by decide) rfl (fun ls hl => ?_)
            exact hB24 (y1 + (1 : Int32)) y2 hf _ (lv_sub hl [1, 0, 2] rfl)
      exact fun v4 h9 => hstep v4.1 v4.2 h9
    exact fun n0 y1 y2 h9 => key n0 (y1, y2) h9
  have hl := lv_entry ([.ref at0]) (n := 3) (Nat.le_of_ble_eq_true rfl)
  rw [lg_entry_eq]
  generalize (lg_sl ([.ref at0]) ++ List.replicate (3 - (lg_sl ([.ref at0])).length) Slot.unset).toArray = ls at hl ⊢
  have hl : lv_has ls 3 [(0, .ref at0)] := hl
  have hf : (lpF (fX4_tellers_F4 n (T_laws, T_kind, T_holds, T_gone, T_tells, T_drowned, T_count, T_course, T_told, T_z) ) n ((0 : Int32), (0 : Int32))) = some z := hf
  refine lv_iconst (v := (0 : Int32)) hx hb dX4_tellers_0 (by decide) ?_
  refine lv_istore_n (lv' := [(1, .int (0 : Int32)), (0, .ref at0)]) hx hb dX4_tellers_1 rfl hl (by decide) rfl (fun ls hl => ?_)
  refine lv_iconst (v := (0 : Int32)) hx hb dX4_tellers_2 (by decide) ?_
  refine lv_istore_n (lv' := [(2, .int (0 : Int32)), (1, .int (0 : Int32)), (0, .ref at0)]) hx hb dX4_tellers_3 rfl hl (by decide) rfl (fun ls hl => ?_)
  exact hL4 n (0 : Int32) (0 : Int32) hf _ (lv_sub hl [2, 1, 0] rfl)
set_option maxRecDepth 100000 in
set_option maxHeartbeats 100000000 in
theorem mX4_piecesOf (l : Launch) (D : va_G) (cy : Nat → ClassId) (st sk sv : Nat → Nat) (B : Nat) (at0 : Nat) (at1 : Nat) (at2 : Nat) (at3 : Nat) (at4 : Nat) (at5 : Nat) (n : Nat) (T_laws : (Nat → Int32)) (T_kind : (Nat → Int32)) (T_holds : (Nat → Int32)) (T_gone : (Nat → Int32)) (T_tells : (Nat → Int32)) (T_drowned : Int32) (T_count : Int32) (T_course : Int32) (T_told : Int32) (T_z : Int32) (x1 : Int32) (z : Int32) (hf : fX4_piecesOf n (T_laws, T_kind, T_holds, T_gone, T_tells, T_drowned, T_count, T_course, T_told, T_z) x1 = some z) : Met l yX4_piecesOf wsX4_piecesOf ({ frames := 0, cells := 0, slots := 0, locals := 0 }) (PcR [.ref at0, .int x1] D cy st sk sv B [(at0, .inr (4, [.ref at1, .ref at2, .ref at3, .ref at4, .ref at5, .int T_drowned, .int T_count, .int T_course, .int T_told, .int T_z])), (at1, .inl (cy 0, 4, .inl T_laws)), (at2, .inl (cy 0, 8, .inl T_kind)), (at3, .inl (cy 0, 8, .inl T_holds)), (at4, .inl (cy 0, 8, .inl T_gone)), (at5, .inl (cy 0, 8, .inl T_tells))]) (Qr (some (.int z))) 0 0 (fun _ => False) := by
  refine Met.ofW (cc := cX4_piecesOf) (maxL := 4) (ret := (some .int)) (by decide) rfl ?_
  intro p e s m args below meth c s₁ Bd hml hv
  obtain ⟨rfl, hP, hG⟩ := hv
  have hx := Bd.exec
  have hb := Bd.bytes
  have hr := Bd.returns
  have hts := atoms_spec (ws := wsX4_piecesOf) Bd.pre
  have hown : s.vm.findClass RX4 = some m.cls := findClass_of_methodNamed Bd.named
  have hlocks := Bd.notSynchronized
  have hK := hG.1
  have hS : va_S (fun q => B ≤ q) s.heap s.heap [] := va_S.rf
  have hAB : ∀ q, (fun q => B ≤ q) q → B ≤ q := fun _ h => h
  have hin4 : ∀ w ∈ u_ws RX4 TX4 10, w ∈ wsX4_piecesOf := by decide +kernel
  have fl18 := hts (.fieldLink RX4 18 "KinCutlery$Table" "holds" "[I") (by decide +kernel)
  have fl46 := hts (.fieldLink RX4 46 "KinCutlery$Table" "count" "I") (by decide +kernel)
  have hL4 : ∀ (n0 : Nat) (y2 : Int32) (y3 : Int32), lpF (fX4_piecesOf_F4 n (T_laws, T_kind, T_holds, T_gone, T_tells, T_drowned, T_count, T_course, T_told, T_z) x1 ) n0 (y2, y3) = some z → ∀ (ls : Array Slot), lv_has ls 4 [(0, .ref at0), (1, .int x1), (2, .int y2), (3, .int y3)] → W p l e (headSpec wsX4_piecesOf ({ frames := 0, cells := 0, slots := 0, locals := 0 })).room s m ([.ref at0, .int x1] : List Value).toArray below meth c s.heap [] 0 0 (MQ below (Qr (some (.int z))) ([.ref at0, .int x1] : List Value).toArray s 0 0 (fun _ => False)) (F0 m 4 ls []) := by
    have key : ∀ (n0 : Nat) (v4 : Int32 × Int32), lpF (fX4_piecesOf_F4 n (T_laws, T_kind, T_holds, T_gone, T_tells, T_drowned, T_count, T_course, T_told, T_z) x1 ) n0 v4 = some z → ∀ (ls : Array Slot), lv_has ls 4 [(0, .ref at0), (1, .int x1), (2, .int v4.1), (3, .int v4.2)] → W p l e (headSpec wsX4_piecesOf ({ frames := 0, cells := 0, slots := 0, locals := 0 })).room s m ([.ref at0, .int x1] : List Value).toArray below meth c s.heap [] 0 0 (MQ below (Qr (some (.int z))) ([.ref at0, .int x1] : List Value).toArray s 0 0 (fun _ => False)) (F0 m 4 ls []) := by
      refine lpW ?_
      intro k4 hk40
      have hk4 : ∀ (y2 : Int32) (y3 : Int32), k4 (y2, y3) = some z → ∀ (ls : Array Slot), lv_has ls 4 [(0, .ref at0), (1, .int x1), (2, .int y2), (3, .int y3)] → W p l e (headSpec wsX4_piecesOf ({ frames := 0, cells := 0, slots := 0, locals := 0 })).room s m ([.ref at0, .int x1] : List Value).toArray below meth c s.heap [] 0 0 (MQ below (Qr (some (.int z))) ([.ref at0, .int x1] : List Value).toArray s 0 0 (fun _ => False)) (F0 m 4 ls []) := fun y2 y3 h9 => hk40 (y2, y3) h9
      have hB32 : ∀ (y2 : Int32) (y3 : Int32), fX4_piecesOf_b32 n (T_laws, T_kind, T_holds, T_gone, T_tells, T_drowned, T_count, T_course, T_told, T_z) x1 k4 y2 y3 = some z → ∀ (ls : Array Slot), lv_has ls 4 [(0, .ref at0), (1, .int x1), (2, .int y2), (3, .int y3)] → W p l e (headSpec wsX4_piecesOf ({ frames := 0, cells := 0, slots := 0, locals := 0 })).room s m ([.ref at0, .int x1] : List Value).toArray below meth c s.heap [] 0 0 (MQ below (Qr (some (.int z))) ([.ref at0, .int x1] : List Value).toArray s 0 0 (fun _ => False)) (F0 m 32 ls []) := by
        intro y2 y3 hf ls hl
        have hf : (k4 (y2, (y3 + (1 : Int32)))) = some z := hf
        refine lv_iinc (v := (y3 + (1 : Int32))) (lv' := [(3, .int (y3 + (1 : Int32))), (0, .ref at0), (1, .int x1), (2, .int y2)]) hx hb dX4_piecesOf_32 hl (k := 3) rfl rfl (by decide) rfl (fun ls hl => ?_)
        refine lv_goto (tgt := 4) hx hb dX4_piecesOf_35 (by decide) ?_
        exact hk4 y2 (y3 + (1 : Int32)) hf _ (lv_sub hl [1, 2, 3, 0] rfl)
      have hstep : ∀ (y2 : Int32) (y3 : Int32), fX4_piecesOf_F4 n (T_laws, T_kind, T_holds, T_gone, T_tells, T_drowned, T_count, T_course, T_told, T_z) x1  k4 (y2, y3) = some z → ∀ (ls : Array Slot), lv_has ls 4 [(0, .ref at0), (1, .int x1), (2, .int y2), (3, .int y3)] → W p l e (headSpec wsX4_piecesOf ({ frames := 0, cells := 0, slots := 0, locals := 0 })).room s m ([.ref at0, .int x1] : List Value).toArray below meth c s.heap [] 0 0 (MQ below (Qr (some (.int z))) ([.ref at0, .int x1] : List Value).toArray s 0 0 (fun _ => False)) (F0 m 4 ls []) := by
        intro y2 y3 hf ls hl
        have hf : (if T_count ≤ y3 then (some y2) else (if ((x1 >>> (y3 &&& 31)) &&& (1 : Int32)) = (1 : Int32) then (if y3 < 0 ∨ 8 ≤ y3.toNatClampNeg then none else fX4_piecesOf_b32 n (T_laws, T_kind, T_holds, T_gone, T_tells, T_drowned, T_count, T_course, T_told, T_z) x1 k4 (y2 ||| ((1 : Int32) <<< ((T_holds y3.toNatClampNeg) &&& 31))) y3) else (fX4_piecesOf_b32 n (T_laws, T_kind, T_holds, T_gone, T_tells, T_drowned, T_count, T_course, T_told, T_z) x1 k4 y2 y3))) = some z := hf
        refine lv_iload_n hx hb dX4_piecesOf_4 rfl (lv_at hl 3 rfl) ?_
        refine lv_aload_n hx hb dX4_piecesOf_5 rfl (lv_at hl 0 rfl) ?_
        refine va_get (D := D) (ci := 4) (v := .int T_count) (C := RX4) (T := TX4) (N := 10) hx hb hts hin4 hown hK hP 0 rfl rfl 6 (by decide) fl46 (fun _ h9 => h9) rfl dX4_piecesOf_6 ?_
        refine lv_icmp_ge (tgt := 38) hx hb dX4_piecesOf_9 (by decide) (fun c_9 => ?_) (fun c_9 => ?_)
        · have hf := zp hf c_9
          refine lv_iload_n hx hb dX4_piecesOf_38 rfl (lv_at hl 2 rfl) ?_
          cases hf
          exact W.iret hx hb hr (fun t ht hW => ⟨rfl, ht⟩) (fun q h => absurd h List.not_mem_nil) dX4_piecesOf_39
        · have hf := zn hf c_9
          refine lv_iload_n hx hb dX4_piecesOf_12 rfl (lv_at hl 1 rfl) ?_
          refine lv_iload_n hx hb dX4_piecesOf_13 rfl (lv_at hl 3 rfl) ?_
          refine lv_ishr hx hb dX4_piecesOf_14 ?_
          refine lv_iconst (v := (1 : Int32)) hx hb dX4_piecesOf_15 (by decide) ?_
          refine lv_iand hx hb dX4_piecesOf_16 ?_
          refine lv_iconst (v := (1 : Int32)) hx hb dX4_piecesOf_17 (by decide) ?_
          refine lv_icmp_ne (tgt := 32) hx hb dX4_piecesOf_18 (by decide) (fun c_18 => ?_) (fun c_18 => ?_)
          · have hf := zn hf c_18
            exact hB32 y2 y3 hf _ (lv_sub hl [0, 1, 2, 3] rfl)
          · have hf := zp hf c_18
            refine lv_iload_n hx hb dX4_piecesOf_21 rfl (lv_at hl 2 rfl) ?_
            refine lv_iconst (v := (1 : Int32)) hx hb dX4_piecesOf_22 (by decide) ?_
            refine lv_aload_n hx hb dX4_piecesOf_23 rfl (lv_at hl 0 rfl) ?_
            refine va_get (D := D) (ci := 4) (v := .ref at3) (C := RX4) (T := TX4) (N := 10) hx hb hts hin4 hown hK hP 0 rfl rfl 2 (by decide) fl18 (fun _ h9 => h9) rfl dX4_piecesOf_24 ?_
            refine lv_iload_n hx hb dX4_piecesOf_27 rfl (lv_at hl 3 rfl) ?_
            obtain ⟨h_28, hf⟩ := zg hf
            refine va_iald hx hb hK hP 3 0 rfl rfl h_28 dX4_piecesOf_28 ?_
            refine lv_ishl hx hb dX4_piecesOf_29 ?_
            refine lv_ior hx hb dX4_piecesOf_30 ?_
            refine lv_istore_n (lv' := [(2, .int (y2 ||| ((1 : Int32) <<< ((T_holds y3.toNatClampNeg) &&& 31)))), (0, .ref at0), (1, .int x1), (3, .int y3)]) hx hb dX4_piecesOf_31 rfl hl (by decide) rfl (fun ls hl => ?_)
            exact hB32 (y2 ||| ((1 : Int32) <<< ((T_holds y3.toNatClampNeg) &&& 31))) y3 hf _ (lv_sub hl [1, 2, 0, 3] rfl)
      exact fun v4 h9 => hstep v4.1 v4.2 h9
    exact fun n0 y2 y3 h9 => key n0 (y2, y3) h9
  have hl := lv_entry ([.ref at0, .int x1]) (n := 4) (Nat.le_of_ble_eq_true rfl)
  rw [lg_entry_eq]
  generalize (lg_sl ([.ref at0, .int x1]) ++ List.replicate (4 - (lg_sl ([.ref at0, .int x1])).length) Slot.unset).toArray = ls at hl ⊢
  have hl : lv_has ls 4 [(0, .ref at0), (1, .int x1)] := hl
  have hf : (lpF (fX4_piecesOf_F4 n (T_laws, T_kind, T_holds, T_gone, T_tells, T_drowned, T_count, T_course, T_told, T_z) x1 ) n ((0 : Int32), (0 : Int32))) = some z := hf
  refine lv_iconst (v := (0 : Int32)) hx hb dX4_piecesOf_0 (by decide) ?_
  refine lv_istore_n (lv' := [(2, .int (0 : Int32)), (0, .ref at0), (1, .int x1)]) hx hb dX4_piecesOf_1 rfl hl (by decide) rfl (fun ls hl => ?_)
  refine lv_iconst (v := (0 : Int32)) hx hb dX4_piecesOf_2 (by decide) ?_
  refine lv_istore_n (lv' := [(3, .int (0 : Int32)), (2, .int (0 : Int32)), (0, .ref at0), (1, .int x1)]) hx hb dX4_piecesOf_3 rfl hl (by decide) rfl (fun ls hl => ?_)
  exact hL4 n (0 : Int32) (0 : Int32) hf _ (lv_sub hl [2, 3, 1, 0] rfl)
set_option maxRecDepth 100000 in
set_option maxHeartbeats 100000000 in
theorem mX4_piecesUntil (l : Launch) (D : va_G) (cy : Nat → ClassId) (st sk sv : Nat → Nat) (B : Nat) (at0 : Nat) (at1 : Nat) (at2 : Nat) (at3 : Nat) (at4 : Nat) (at5 : Nat) (n : Nat) (T_laws : (Nat → Int32)) (T_kind : (Nat → Int32)) (T_holds : (Nat → Int32)) (T_gone : (Nat → Int32)) (T_tells : (Nat → Int32)) (T_drowned : Int32) (T_count : Int32) (T_course : Int32) (T_told : Int32) (T_z : Int32) (x1 : Int32) (z : Int32) (hf : fX4_piecesUntil n (T_laws, T_kind, T_holds, T_gone, T_tells, T_drowned, T_count, T_course, T_told, T_z) x1 = some z) : Met l yX4_piecesUntil wsX4_piecesUntil ({ frames := 0, cells := 0, slots := 0, locals := 0 }) (PcR [.ref at0, .int x1] D cy st sk sv B [(at0, .inr (4, [.ref at1, .ref at2, .ref at3, .ref at4, .ref at5, .int T_drowned, .int T_count, .int T_course, .int T_told, .int T_z])), (at1, .inl (cy 0, 4, .inl T_laws)), (at2, .inl (cy 0, 8, .inl T_kind)), (at3, .inl (cy 0, 8, .inl T_holds)), (at4, .inl (cy 0, 8, .inl T_gone)), (at5, .inl (cy 0, 8, .inl T_tells))]) (Qr (some (.int z))) 0 0 (fun _ => False) := by
  refine Met.ofW (cc := cX4_piecesUntil) (maxL := 4) (ret := (some .int)) (by decide) rfl ?_
  intro p e s m args below meth c s₁ Bd hml hv
  obtain ⟨rfl, hP, hG⟩ := hv
  have hx := Bd.exec
  have hb := Bd.bytes
  have hr := Bd.returns
  have hts := atoms_spec (ws := wsX4_piecesUntil) Bd.pre
  have hown : s.vm.findClass RX4 = some m.cls := findClass_of_methodNamed Bd.named
  have hlocks := Bd.notSynchronized
  have hK := hG.1
  have hS : va_S (fun q => B ≤ q) s.heap s.heap [] := va_S.rf
  have hAB : ∀ q, (fun q => B ≤ q) q → B ≤ q := fun _ h => h
  have hin4 : ∀ w ∈ u_ws RX4 TX4 10, w ∈ wsX4_piecesUntil := by decide +kernel
  have fl52 := hts (.fieldLink RX4 52 "KinCutlery$Table" "told" "I") (by decide +kernel)
  have hL4 : ∀ (n0 : Nat) (y2 : Int32) (y3 : Int32), lpF (fX4_piecesUntil_F4 n (T_laws, T_kind, T_holds, T_gone, T_tells, T_drowned, T_count, T_course, T_told, T_z) x1 ) n0 (y2, y3) = some z → ∀ (ls : Array Slot), lv_has ls 4 [(0, .ref at0), (1, .int x1), (2, .int y2), (3, .int y3)] → W p l e (headSpec wsX4_piecesUntil ({ frames := 0, cells := 0, slots := 0, locals := 0 })).room s m ([.ref at0, .int x1] : List Value).toArray below meth c s.heap [] 0 0 (MQ below (Qr (some (.int z))) ([.ref at0, .int x1] : List Value).toArray s 0 0 (fun _ => False)) (F0 m 4 ls []) := by
    have key : ∀ (n0 : Nat) (v4 : Int32 × Int32), lpF (fX4_piecesUntil_F4 n (T_laws, T_kind, T_holds, T_gone, T_tells, T_drowned, T_count, T_course, T_told, T_z) x1 ) n0 v4 = some z → ∀ (ls : Array Slot), lv_has ls 4 [(0, .ref at0), (1, .int x1), (2, .int v4.1), (3, .int v4.2)] → W p l e (headSpec wsX4_piecesUntil ({ frames := 0, cells := 0, slots := 0, locals := 0 })).room s m ([.ref at0, .int x1] : List Value).toArray below meth c s.heap [] 0 0 (MQ below (Qr (some (.int z))) ([.ref at0, .int x1] : List Value).toArray s 0 0 (fun _ => False)) (F0 m 4 ls []) := by
      refine lpW ?_
      intro k4 hk40
      have hk4 : ∀ (y2 : Int32) (y3 : Int32), k4 (y2, y3) = some z → ∀ (ls : Array Slot), lv_has ls 4 [(0, .ref at0), (1, .int x1), (2, .int y2), (3, .int y3)] → W p l e (headSpec wsX4_piecesUntil ({ frames := 0, cells := 0, slots := 0, locals := 0 })).room s m ([.ref at0, .int x1] : List Value).toArray below meth c s.heap [] 0 0 (MQ below (Qr (some (.int z))) ([.ref at0, .int x1] : List Value).toArray s 0 0 (fun _ => False)) (F0 m 4 ls []) := fun y2 y3 h9 => hk40 (y2, y3) h9
      have hstep : ∀ (y2 : Int32) (y3 : Int32), fX4_piecesUntil_F4 n (T_laws, T_kind, T_holds, T_gone, T_tells, T_drowned, T_count, T_course, T_told, T_z) x1  k4 (y2, y3) = some z → ∀ (ls : Array Slot), lv_has ls 4 [(0, .ref at0), (1, .int x1), (2, .int y2), (3, .int y3)] → W p l e (headSpec wsX4_piecesUntil ({ frames := 0, cells := 0, slots := 0, locals := 0 })).room s m ([.ref at0, .int x1] : List Value).toArray below meth c s.heap [] 0 0 (MQ below (Qr (some (.int z))) ([.ref at0, .int x1] : List Value).toArray s 0 0 (fun _ => False)) (F0 m 4 ls []) := by
        intro y2 y3 hf ls hl
        have hf : (if (8 : Int32) ≤ y3 then (some y2) else (if x1 ≤ (T_told + y3) then (some y2) else (k4 ((y2 ||| ((1 : Int32) <<< (((T_told + y3) - (T_told + y3) / (8 : Int32) * (8 : Int32)) &&& 31))), (y3 + (1 : Int32)))))) = some z := hf
        refine lv_iload_n hx hb dX4_piecesUntil_4 rfl (lv_at hl 3 rfl) ?_
        refine lv_bipush (v := (8 : Int32)) hx hb dX4_piecesUntil_5 (by decide) ?_
        refine lv_icmp_ge (tgt := 40) hx hb dX4_piecesUntil_7 (by decide) (fun c_7 => ?_) (fun c_7 => ?_)
        · have hf := zp hf c_7
          refine lv_iload_n hx hb dX4_piecesUntil_40 rfl (lv_at hl 2 rfl) ?_
          cases hf
          exact W.iret hx hb hr (fun t ht hW => ⟨rfl, ht⟩) (fun q h => absurd h List.not_mem_nil) dX4_piecesUntil_41
        · have hf := zn hf c_7
          refine lv_aload_n hx hb dX4_piecesUntil_10 rfl (lv_at hl 0 rfl) ?_
          refine va_get (D := D) (ci := 4) (v := .int T_told) (C := RX4) (T := TX4) (N := 10) hx hb hts hin4 hown hK hP 0 rfl rfl 8 (by decide) fl52 (fun _ h9 => h9) rfl dX4_piecesUntil_11 ?_
          refine lv_iload_n hx hb dX4_piecesUntil_14 rfl (lv_at hl 3 rfl) ?_
          refine lv_iadd hx hb dX4_piecesUntil_15 ?_
          refine lv_iload_n hx hb dX4_piecesUntil_16 rfl (lv_at hl 1 rfl) ?_
          refine lv_icmp_ge (tgt := 40) hx hb dX4_piecesUntil_17 (by decide) (fun c_17 => ?_) (fun c_17 => ?_)
          · have hf := zp hf c_17
            refine lv_iload_n hx hb dX4_piecesUntil_40 rfl (lv_at hl 2 rfl) ?_
            cases hf
            exact W.iret hx hb hr (fun t ht hW => ⟨rfl, ht⟩) (fun q h => absurd h List.not_mem_nil) dX4_piecesUntil_41
          · have hf := zn hf c_17
            refine lv_iload_n hx hb dX4_piecesUntil_20 rfl (lv_at hl 2 rfl) ?_
            refine lv_iconst (v := (1 : Int32)) hx hb dX4_piecesUntil_21 (by decide) ?_
            refine lv_aload_n hx hb dX4_piecesUntil_22 rfl (lv_at hl 0 rfl) ?_
            refine va_get (D := D) (ci := 4) (v := .int T_told) (C := RX4) (T := TX4) (N := 10) hx hb hts hin4 hown hK hP 0 rfl rfl 8 (by decide) fl52 (fun _ h9 => h9) rfl dX4_piecesUntil_23 ?_
            refine lv_iload_n hx hb dX4_piecesUntil_26 rfl (lv_at hl 3 rfl) ?_
            refine lv_iadd hx hb dX4_piecesUntil_27 ?_
            refine lv_bipush (v := (8 : Int32)) hx hb dX4_piecesUntil_28 (by decide) ?_
            refine lv_irem hx hb dX4_piecesUntil_30 (by decide) ?_
            refine lv_ishl hx hb dX4_piecesUntil_31 ?_
            refine lv_ior hx hb dX4_piecesUntil_32 ?_
            refine lv_istore_n (lv' := [(2, .int (y2 ||| ((1 : Int32) <<< (((T_told + y3) - (T_told + y3) / (8 : Int32) * (8 : Int32)) &&& 31)))), (0, .ref at0), (1, .int x1), (3, .int y3)]) hx hb dX4_piecesUntil_33 rfl hl (by decide) rfl (fun ls hl => ?_)
            refine lv_iinc (v := (y3 + (1 : Int32))) (lv' := [(3, .int (y3 + (1 : Int32))), (2, .int (y2 ||| ((1 : Int32) <<< (((T_told + y3) - (T_told + y3) / (8 : Int32) * (8 : Int32)) &&& 31)))), (0, .ref at0), (1, .int x1)]) hx hb dX4_piecesUntil_34 hl (k := 3) rfl rfl (by decide) rfl (fun ls hl => ?_)
            refine lv_goto (tgt := 4) hx hb dX4_piecesUntil_37 (by decide) ?_
            exact hk4 (y2 ||| ((1 : Int32) <<< (((T_told + y3) - (T_told + y3) / (8 : Int32) * (8 : Int32)) &&& 31))) (y3 + (1 : Int32)) hf _ (lv_sub hl [2, 3, 1, 0] rfl)
      exact fun v4 h9 => hstep v4.1 v4.2 h9
    exact fun n0 y2 y3 h9 => key n0 (y2, y3) h9
  have hl := lv_entry ([.ref at0, .int x1]) (n := 4) (Nat.le_of_ble_eq_true rfl)
  rw [lg_entry_eq]
  generalize (lg_sl ([.ref at0, .int x1]) ++ List.replicate (4 - (lg_sl ([.ref at0, .int x1])).length) Slot.unset).toArray = ls at hl ⊢
  have hl : lv_has ls 4 [(0, .ref at0), (1, .int x1)] := hl
  have hf : (lpF (fX4_piecesUntil_F4 n (T_laws, T_kind, T_holds, T_gone, T_tells, T_drowned, T_count, T_course, T_told, T_z) x1 ) n ((0 : Int32), (0 : Int32))) = some z := hf
  refine lv_iconst (v := (0 : Int32)) hx hb dX4_piecesUntil_0 (by decide) ?_
  refine lv_istore_n (lv' := [(2, .int (0 : Int32)), (0, .ref at0), (1, .int x1)]) hx hb dX4_piecesUntil_1 rfl hl (by decide) rfl (fun ls hl => ?_)
  refine lv_iconst (v := (0 : Int32)) hx hb dX4_piecesUntil_2 (by decide) ?_
  refine lv_istore_n (lv' := [(3, .int (0 : Int32)), (2, .int (0 : Int32)), (0, .ref at0), (1, .int x1)]) hx hb dX4_piecesUntil_3 rfl hl (by decide) rfl (fun ls hl => ?_)
  exact hL4 n (0 : Int32) (0 : Int32) hf _ (lv_sub hl [2, 3, 1, 0] rfl)
set_option maxRecDepth 100000 in
set_option maxHeartbeats 100000000 in
theorem mX4_holdersOf (l : Launch) (D : va_G) (cy : Nat → ClassId) (st sk sv : Nat → Nat) (B : Nat) (at0 : Nat) (at1 : Nat) (at2 : Nat) (at3 : Nat) (at4 : Nat) (at5 : Nat) (n : Nat) (T_laws : (Nat → Int32)) (T_kind : (Nat → Int32)) (T_holds : (Nat → Int32)) (T_gone : (Nat → Int32)) (T_tells : (Nat → Int32)) (T_drowned : Int32) (T_count : Int32) (T_course : Int32) (T_told : Int32) (T_z : Int32) (x1 : Int32) (z : Int32) (hf : fX4_holdersOf n (T_laws, T_kind, T_holds, T_gone, T_tells, T_drowned, T_count, T_course, T_told, T_z) x1 = some z) : Met l yX4_holdersOf wsX4_holdersOf ({ frames := 1, cells := 0, slots := 0, locals := 21 }) (PcR [.ref at0, .int x1] D cy st sk sv B [(at0, .inr (4, [.ref at1, .ref at2, .ref at3, .ref at4, .ref at5, .int T_drowned, .int T_count, .int T_course, .int T_told, .int T_z])), (at1, .inl (cy 0, 4, .inl T_laws)), (at2, .inl (cy 0, 8, .inl T_kind)), (at3, .inl (cy 0, 8, .inl T_holds)), (at4, .inl (cy 0, 8, .inl T_gone)), (at5, .inl (cy 0, 8, .inl T_tells))]) (Qr (some (.int z))) 0 0 (fun _ => False) := by
  refine Met.ofW (cc := cX4_holdersOf) (maxL := 4) (ret := (some .int)) (by decide) rfl ?_
  intro p e s m args below meth c s₁ Bd hml hv
  obtain ⟨rfl, hP, hG⟩ := hv
  have hx := Bd.exec
  have hb := Bd.bytes
  have hr := Bd.returns
  have hts := atoms_spec (ws := wsX4_holdersOf) Bd.pre
  have hown : s.vm.findClass RX4 = some m.cls := findClass_of_methodNamed Bd.named
  have hlocks := Bd.notSynchronized
  have hK := hG.1
  have hS : va_S (fun q => B ≤ q) s.heap s.heap [] := va_S.rf
  have hAB : ∀ q, (fun q => B ≤ q) q → B ≤ q := fun _ h => h
  have hin4 : ∀ w ∈ u_ws RX4 TX4 10, w ∈ wsX4_holdersOf := by decide +kernel
  have fl18 := hts (.fieldLink RX4 18 "KinCutlery$Table" "holds" "[I") (by decide +kernel)
  have fl46 := hts (.fieldLink RX4 46 "KinCutlery$Table" "count" "I") (by decide +kernel)
  have hL4 : ∀ (n0 : Nat) (y2 : Int32) (y3 : Int32), lpF (fX4_holdersOf_F4 n (T_laws, T_kind, T_holds, T_gone, T_tells, T_drowned, T_count, T_course, T_told, T_z) x1 ) n0 (y2, y3) = some z → ∀ (ls : Array Slot), lv_has ls 4 [(0, .ref at0), (1, .int x1), (2, .int y2), (3, .int y3)] → W p l e (headSpec wsX4_holdersOf ({ frames := 1, cells := 0, slots := 0, locals := 21 })).room s m ([.ref at0, .int x1] : List Value).toArray below meth c s.heap [] 0 0 (MQ below (Qr (some (.int z))) ([.ref at0, .int x1] : List Value).toArray s 0 0 (fun _ => False)) (F0 m 4 ls []) := by
    have key : ∀ (n0 : Nat) (v4 : Int32 × Int32), lpF (fX4_holdersOf_F4 n (T_laws, T_kind, T_holds, T_gone, T_tells, T_drowned, T_count, T_course, T_told, T_z) x1 ) n0 v4 = some z → ∀ (ls : Array Slot), lv_has ls 4 [(0, .ref at0), (1, .int x1), (2, .int v4.1), (3, .int v4.2)] → W p l e (headSpec wsX4_holdersOf ({ frames := 1, cells := 0, slots := 0, locals := 21 })).room s m ([.ref at0, .int x1] : List Value).toArray below meth c s.heap [] 0 0 (MQ below (Qr (some (.int z))) ([.ref at0, .int x1] : List Value).toArray s 0 0 (fun _ => False)) (F0 m 4 ls []) := by
      refine lpW ?_
      intro k4 hk40
      have hk4 : ∀ (y2 : Int32) (y3 : Int32), k4 (y2, y3) = some z → ∀ (ls : Array Slot), lv_has ls 4 [(0, .ref at0), (1, .int x1), (2, .int y2), (3, .int y3)] → W p l e (headSpec wsX4_holdersOf ({ frames := 1, cells := 0, slots := 0, locals := 21 })).room s m ([.ref at0, .int x1] : List Value).toArray below meth c s.heap [] 0 0 (MQ below (Qr (some (.int z))) ([.ref at0, .int x1] : List Value).toArray s 0 0 (fun _ => False)) (F0 m 4 ls []) := fun y2 y3 h9 => hk40 (y2, y3) h9
      have hB40 : ∀ (y2 : Int32) (y3 : Int32), fX4_holdersOf_b40 n (T_laws, T_kind, T_holds, T_gone, T_tells, T_drowned, T_count, T_course, T_told, T_z) x1 k4 y2 y3 = some z → ∀ (ls : Array Slot), lv_has ls 4 [(0, .ref at0), (1, .int x1), (2, .int y2), (3, .int y3)] → W p l e (headSpec wsX4_holdersOf ({ frames := 1, cells := 0, slots := 0, locals := 21 })).room s m ([.ref at0, .int x1] : List Value).toArray below meth c s.heap [] 0 0 (MQ below (Qr (some (.int z))) ([.ref at0, .int x1] : List Value).toArray s 0 0 (fun _ => False)) (F0 m 40 ls []) := by
        intro y2 y3 hf ls hl
        have hf : (k4 (y2, (y3 + (1 : Int32)))) = some z := hf
        refine lv_iinc (v := (y3 + (1 : Int32))) (lv' := [(3, .int (y3 + (1 : Int32))), (0, .ref at0), (1, .int x1), (2, .int y2)]) hx hb dX4_holdersOf_40 hl (k := 3) rfl rfl (by decide) rfl (fun ls hl => ?_)
        refine lv_goto (tgt := 4) hx hb dX4_holdersOf_43 (by decide) ?_
        exact hk4 y2 (y3 + (1 : Int32)) hf _ (lv_sub hl [1, 2, 3, 0] rfl)
      have hstep : ∀ (y2 : Int32) (y3 : Int32), fX4_holdersOf_F4 n (T_laws, T_kind, T_holds, T_gone, T_tells, T_drowned, T_count, T_course, T_told, T_z) x1  k4 (y2, y3) = some z → ∀ (ls : Array Slot), lv_has ls 4 [(0, .ref at0), (1, .int x1), (2, .int y2), (3, .int y3)] → W p l e (headSpec wsX4_holdersOf ({ frames := 1, cells := 0, slots := 0, locals := 21 })).room s m ([.ref at0, .int x1] : List Value).toArray below meth c s.heap [] 0 0 (MQ below (Qr (some (.int z))) ([.ref at0, .int x1] : List Value).toArray s 0 0 (fun _ => False)) (F0 m 4 ls []) := by
        intro y2 y3 hf ls hl
        have hf : (if T_count ≤ y3 then (some y2) else ((fX4_isDrowned n (T_laws, T_kind, T_holds, T_gone, T_tells, T_drowned, T_count, T_course, T_told, T_z) y3).bind fun r14 => if r14 = 0 then (if y3 < 0 ∨ 8 ≤ y3.toNatClampNeg then none else if ((x1 >>> ((T_holds y3.toNatClampNeg) &&& 31)) &&& (1 : Int32)) = (1 : Int32) then (fX4_holdersOf_b40 n (T_laws, T_kind, T_holds, T_gone, T_tells, T_drowned, T_count, T_course, T_told, T_z) x1 k4 (y2 ||| ((1 : Int32) <<< (y3 &&& 31))) y3) else (fX4_holdersOf_b40 n (T_laws, T_kind, T_holds, T_gone, T_tells, T_drowned, T_count, T_course, T_told, T_z) x1 k4 y2 y3)) else (fX4_holdersOf_b40 n (T_laws, T_kind, T_holds, T_gone, T_tells, T_drowned, T_count, T_course, T_told, T_z) x1 k4 y2 y3))) = some z := hf
        refine lv_iload_n hx hb dX4_holdersOf_4 rfl (lv_at hl 3 rfl) ?_
        refine lv_aload_n hx hb dX4_holdersOf_5 rfl (lv_at hl 0 rfl) ?_
        refine va_get (D := D) (ci := 4) (v := .int T_count) (C := RX4) (T := TX4) (N := 10) hx hb hts hin4 hown hK hP 0 rfl rfl 6 (by decide) fl46 (fun _ h9 => h9) rfl dX4_holdersOf_6 ?_
        refine lv_icmp_ge (tgt := 46) hx hb dX4_holdersOf_9 (by decide) (fun c_9 => ?_) (fun c_9 => ?_)
        · have hf := zp hf c_9
          refine lv_iload_n hx hb dX4_holdersOf_46 rfl (lv_at hl 2 rfl) ?_
          cases hf
          exact W.iret hx hb hr (fun t ht hW => ⟨rfl, ht⟩) (fun q h => absurd h List.not_mem_nil) dX4_holdersOf_47
        · have hf := zn hf c_9
          refine lv_aload_n hx hb dX4_holdersOf_12 rfl (lv_at hl 0 rfl) ?_
          refine lv_iload_n hx hb dX4_holdersOf_13 rfl (lv_at hl 3 rfl) ?_
          obtain ⟨r14, hc14, hf⟩ := zb hf
          refine zvr (o := some (.int r14)) (As := [.int y3]) (rest := []) (stk := [.int r14]) ⟨hx, hb, hml, hown, hts⟩ (mX4_isDrowned l D cy st sk sv B at0 at1 at2 at3 at4 at5 n T_laws T_kind T_holds T_gone T_tells T_drowned T_count T_course T_told T_z y3 r14 hc14) (cwV 1 hts gX4_holdersOf_X4_isDrowned rfl rfl rfl (by decide +kernel) ⟨Nat.le_of_ble_eq_true rfl, Nat.le_of_ble_eq_true rfl⟩) hG hS hAB hP [0, 1, 2, 3, 4, 5] rfl 0 4 rfl rfl rfl rfl hl.1 rfl (Nat.le_of_ble_eq_true rfl) dX4_holdersOf_14 rfl ?_
          refine lv_if_ne (tgt := 40) hx hb dX4_holdersOf_17 (by decide) (fun c_17 => ?_) (fun c_17 => ?_)
          · have hf := zn hf c_17
            exact hB40 y2 y3 hf _ (lv_sub hl [0, 1, 2, 3] rfl)
          · have hf := zp hf c_17
            refine lv_iload_n hx hb dX4_holdersOf_20 rfl (lv_at hl 1 rfl) ?_
            refine lv_aload_n hx hb dX4_holdersOf_21 rfl (lv_at hl 0 rfl) ?_
            refine va_get (D := D) (ci := 4) (v := .ref at3) (C := RX4) (T := TX4) (N := 10) hx hb hts hin4 hown hK hP 0 rfl rfl 2 (by decide) fl18 (fun _ h9 => h9) rfl dX4_holdersOf_22 ?_
            refine lv_iload_n hx hb dX4_holdersOf_25 rfl (lv_at hl 3 rfl) ?_
            obtain ⟨h_26, hf⟩ := zg hf
            refine va_iald hx hb hK hP 3 0 rfl rfl h_26 dX4_holdersOf_26 ?_
            refine lv_ishr hx hb dX4_holdersOf_27 ?_
            refine lv_iconst (v := (1 : Int32)) hx hb dX4_holdersOf_28 (by decide) ?_
            refine lv_iand hx hb dX4_holdersOf_29 ?_
            refine lv_iconst (v := (1 : Int32)) hx hb dX4_holdersOf_30 (by decide) ?_
            refine lv_icmp_ne (tgt := 40) hx hb dX4_holdersOf_31 (by decide) (fun c_31 => ?_) (fun c_31 => ?_)
            · have hf := zn hf c_31
              exact hB40 y2 y3 hf _ (lv_sub hl [0, 1, 2, 3] rfl)
            · have hf := zp hf c_31
              refine lv_iload_n hx hb dX4_holdersOf_34 rfl (lv_at hl 2 rfl) ?_
              refine lv_iconst (v := (1 : Int32)) hx hb dX4_holdersOf_35 (by decide) ?_
              refine lv_iload_n hx hb dX4_holdersOf_36 rfl (lv_at hl 3 rfl) ?_
              refine lv_ishl hx hb dX4_holdersOf_37 ?_
              refine lv_ior hx hb dX4_holdersOf_38 ?_
              refine lv_istore_n (lv' := [(2, .int (y2 ||| ((1 : Int32) <<< (y3 &&& 31)))), (0, .ref at0), (1, .int x1), (3, .int y3)]) hx hb dX4_holdersOf_39 rfl hl (by decide) rfl (fun ls hl => ?_)
              exact hB40 (y2 ||| ((1 : Int32) <<< (y3 &&& 31))) y3 hf _ (lv_sub hl [1, 2, 0, 3] rfl)
      exact fun v4 h9 => hstep v4.1 v4.2 h9
    exact fun n0 y2 y3 h9 => key n0 (y2, y3) h9
  have hl := lv_entry ([.ref at0, .int x1]) (n := 4) (Nat.le_of_ble_eq_true rfl)
  rw [lg_entry_eq]
  generalize (lg_sl ([.ref at0, .int x1]) ++ List.replicate (4 - (lg_sl ([.ref at0, .int x1])).length) Slot.unset).toArray = ls at hl ⊢
  have hl : lv_has ls 4 [(0, .ref at0), (1, .int x1)] := hl
  have hf : (lpF (fX4_holdersOf_F4 n (T_laws, T_kind, T_holds, T_gone, T_tells, T_drowned, T_count, T_course, T_told, T_z) x1 ) n ((0 : Int32), (0 : Int32))) = some z := hf
  refine lv_iconst (v := (0 : Int32)) hx hb dX4_holdersOf_0 (by decide) ?_
  refine lv_istore_n (lv' := [(2, .int (0 : Int32)), (0, .ref at0), (1, .int x1)]) hx hb dX4_holdersOf_1 rfl hl (by decide) rfl (fun ls hl => ?_)
  refine lv_iconst (v := (0 : Int32)) hx hb dX4_holdersOf_2 (by decide) ?_
  refine lv_istore_n (lv' := [(3, .int (0 : Int32)), (2, .int (0 : Int32)), (0, .ref at0), (1, .int x1)]) hx hb dX4_holdersOf_3 rfl hl (by decide) rfl (fun ls hl => ?_)
  exact hL4 n (0 : Int32) (0 : Int32) hf _ (lv_sub hl [2, 3, 1, 0] rfl)
set_option maxRecDepth 100000 in
set_option maxHeartbeats 100000000 in
theorem mX4_gap (l : Launch) (D : va_G) (cy : Nat → ClassId) (st sk sv : Nat → Nat) (B : Nat) (at0 : Nat) (at1 : Nat) (at2 : Nat) (at3 : Nat) (at4 : Nat) (at5 : Nat) (n : Nat) (T_laws : (Nat → Int32)) (T_kind : (Nat → Int32)) (T_holds : (Nat → Int32)) (T_gone : (Nat → Int32)) (T_tells : (Nat → Int32)) (T_drowned : Int32) (T_count : Int32) (T_course : Int32) (T_told : Int32) (T_z : Int32)  (z : Int32) (hf : fX4_gap n (T_laws, T_kind, T_holds, T_gone, T_tells, T_drowned, T_count, T_course, T_told, T_z) = some z) : Met l yX4_gap wsX4_gap ({ frames := 1, cells := 0, slots := 0, locals := 23 }) (PcR [.ref at0] D cy st sk sv B [(at0, .inr (4, [.ref at1, .ref at2, .ref at3, .ref at4, .ref at5, .int T_drowned, .int T_count, .int T_course, .int T_told, .int T_z])), (at1, .inl (cy 0, 4, .inl T_laws)), (at2, .inl (cy 0, 8, .inl T_kind)), (at3, .inl (cy 0, 8, .inl T_holds)), (at4, .inl (cy 0, 8, .inl T_gone)), (at5, .inl (cy 0, 8, .inl T_tells))]) (Qr (some (.int z))) 0 0 (fun _ => False) := by
  refine Met.ofW (cc := cX4_gap) (maxL := 4) (ret := (some .int)) (by decide) rfl ?_
  intro p e s m args below meth c s₁ Bd hml hv
  obtain ⟨rfl, hP, hG⟩ := hv
  have hx := Bd.exec
  have hb := Bd.bytes
  have hr := Bd.returns
  have hts := atoms_spec (ws := wsX4_gap) Bd.pre
  have hown : s.vm.findClass RX4 = some m.cls := findClass_of_methodNamed Bd.named
  have hlocks := Bd.notSynchronized
  have hK := hG.1
  have hS : va_S (fun q => B ≤ q) s.heap s.heap [] := va_S.rf
  have hAB : ∀ q, (fun q => B ≤ q) q → B ≤ q := fun _ h => h
  have hin4 : ∀ w ∈ u_ws RX4 TX4 10, w ∈ wsX4_gap := by decide +kernel
  have fl43 := hts (.fieldLink RX4 43 "KinCutlery$Table" "drowned" "I") (by decide +kernel)
  have fl52 := hts (.fieldLink RX4 52 "KinCutlery$Table" "told" "I") (by decide +kernel)
  have hL13 : ∀ (n0 : Nat) (y1 : Int32) (y2 : Int32), lpF (fX4_gap_F13 n (T_laws, T_kind, T_holds, T_gone, T_tells, T_drowned, T_count, T_course, T_told, T_z) ) n0 (y1, y2) = some z → ∀ (ls : Array Slot), lv_has ls 4 [(0, .ref at0), (1, .int y1), (2, .int y2)] → W p l e (headSpec wsX4_gap ({ frames := 1, cells := 0, slots := 0, locals := 23 })).room s m ([.ref at0] : List Value).toArray below meth c s.heap [] 0 0 (MQ below (Qr (some (.int z))) ([.ref at0] : List Value).toArray s 0 0 (fun _ => False)) (F0 m 13 ls []) := by
    have key : ∀ (n0 : Nat) (v13 : Int32 × Int32), lpF (fX4_gap_F13 n (T_laws, T_kind, T_holds, T_gone, T_tells, T_drowned, T_count, T_course, T_told, T_z) ) n0 v13 = some z → ∀ (ls : Array Slot), lv_has ls 4 [(0, .ref at0), (1, .int v13.1), (2, .int v13.2)] → W p l e (headSpec wsX4_gap ({ frames := 1, cells := 0, slots := 0, locals := 23 })).room s m ([.ref at0] : List Value).toArray below meth c s.heap [] 0 0 (MQ below (Qr (some (.int z))) ([.ref at0] : List Value).toArray s 0 0 (fun _ => False)) (F0 m 13 ls []) := by
      refine lpW ?_
      intro k13 hk130
      have hk13 : ∀ (y1 : Int32) (y2 : Int32), k13 (y1, y2) = some z → ∀ (ls : Array Slot), lv_has ls 4 [(0, .ref at0), (1, .int y1), (2, .int y2)] → W p l e (headSpec wsX4_gap ({ frames := 1, cells := 0, slots := 0, locals := 23 })).room s m ([.ref at0] : List Value).toArray below meth c s.heap [] 0 0 (MQ below (Qr (some (.int z))) ([.ref at0] : List Value).toArray s 0 0 (fun _ => False)) (F0 m 13 ls []) := fun y1 y2 h9 => hk130 (y1, y2) h9
      have hstep : ∀ (y1 : Int32) (y2 : Int32), fX4_gap_F13 n (T_laws, T_kind, T_holds, T_gone, T_tells, T_drowned, T_count, T_course, T_told, T_z)  k13 (y1, y2) = some z → ∀ (ls : Array Slot), lv_has ls 4 [(0, .ref at0), (1, .int y1), (2, .int y2)] → W p l e (headSpec wsX4_gap ({ frames := 1, cells := 0, slots := 0, locals := 23 })).room s m ([.ref at0] : List Value).toArray below meth c s.heap [] 0 0 (MQ below (Qr (some (.int z))) ([.ref at0] : List Value).toArray s 0 0 (fun _ => False)) (F0 m 13 ls []) := by
        intro y1 y2 hf ls hl
        have hf : (if (8 : Int32) ≤ y2 then (some (8 : Int32)) else (if ((y1 >>> (((T_told + y2) - (T_told + y2) / (8 : Int32) * (8 : Int32)) &&& 31)) &&& (1 : Int32)) = 0 then (some ((T_told + y2) - (T_told + y2) / (8 : Int32) * (8 : Int32))) else (k13 (y1, (y2 + (1 : Int32)))))) = some z := hf
        refine lv_iload_n hx hb dX4_gap_13 rfl (lv_at hl 2 rfl) ?_
        refine lv_bipush (v := (8 : Int32)) hx hb dX4_gap_14 (by decide) ?_
        refine lv_icmp_ge (tgt := 45) hx hb dX4_gap_16 (by decide) (fun c_16 => ?_) (fun c_16 => ?_)
        · have hf := zp hf c_16
          refine lv_bipush (v := (8 : Int32)) hx hb dX4_gap_45 (by decide) ?_
          cases hf
          exact W.iret hx hb hr (fun t ht hW => ⟨rfl, ht⟩) (fun q h => absurd h List.not_mem_nil) dX4_gap_47
        · have hf := zn hf c_16
          refine lv_aload_n hx hb dX4_gap_19 rfl (lv_at hl 0 rfl) ?_
          refine va_get (D := D) (ci := 4) (v := .int T_told) (C := RX4) (T := TX4) (N := 10) hx hb hts hin4 hown hK hP 0 rfl rfl 8 (by decide) fl52 (fun _ h9 => h9) rfl dX4_gap_20 ?_
          refine lv_iload_n hx hb dX4_gap_23 rfl (lv_at hl 2 rfl) ?_
          refine lv_iadd hx hb dX4_gap_24 ?_
          refine lv_bipush (v := (8 : Int32)) hx hb dX4_gap_25 (by decide) ?_
          refine lv_irem hx hb dX4_gap_27 (by decide) ?_
          refine lv_istore_n (lv' := [(3, .int ((T_told + y2) - (T_told + y2) / (8 : Int32) * (8 : Int32))), (0, .ref at0), (1, .int y1), (2, .int y2)]) hx hb dX4_gap_28 rfl hl (by decide) rfl (fun ls hl => ?_)
          refine lv_iload_n hx hb dX4_gap_29 rfl (lv_at hl 2 rfl) ?_
          refine lv_iload_n hx hb dX4_gap_30 rfl (lv_at hl 0 rfl) ?_
          refine lv_ishr hx hb dX4_gap_31 ?_
          refine lv_iconst (v := (1 : Int32)) hx hb dX4_gap_32 (by decide) ?_
          refine lv_iand hx hb dX4_gap_33 ?_
          refine lv_if_ne (tgt := 39) hx hb dX4_gap_34 (by decide) (fun c_34 => ?_) (fun c_34 => ?_)
          · have hf := zn hf c_34
            refine lv_iinc (v := (y2 + (1 : Int32))) (lv' := [(2, .int (y2 + (1 : Int32))), (3, .int ((T_told + y2) - (T_told + y2) / (8 : Int32) * (8 : Int32))), (0, .ref at0), (1, .int y1)]) hx hb dX4_gap_39 hl (k := 3) rfl rfl (by decide) rfl (fun ls hl => ?_)
            refine lv_goto (tgt := 13) hx hb dX4_gap_42 (by decide) ?_
            exact hk13 y1 (y2 + (1 : Int32)) hf _ (lv_sub hl [2, 3, 0] rfl)
          · have hf := zp hf c_34
            refine lv_iload_n hx hb dX4_gap_37 rfl (lv_at hl 0 rfl) ?_
            cases hf
            exact W.iret hx hb hr (fun t ht hW => ⟨rfl, ht⟩) (fun q h => absurd h List.not_mem_nil) dX4_gap_38
      exact fun v13 h9 => hstep v13.1 v13.2 h9
    exact fun n0 y1 y2 h9 => key n0 (y1, y2) h9
  have hl := lv_entry ([.ref at0]) (n := 4) (Nat.le_of_ble_eq_true rfl)
  rw [lg_entry_eq]
  generalize (lg_sl ([.ref at0]) ++ List.replicate (4 - (lg_sl ([.ref at0])).length) Slot.unset).toArray = ls at hl ⊢
  have hl : lv_has ls 4 [(0, .ref at0)] := hl
  have hf : ((fX4_piecesOf n (T_laws, T_kind, T_holds, T_gone, T_tells, T_drowned, T_count, T_course, T_told, T_z) (T_drowned ^^^ (-1 : Int32))).bind fun r7 => lpF (fX4_gap_F13 n (T_laws, T_kind, T_holds, T_gone, T_tells, T_drowned, T_count, T_course, T_told, T_z) ) n (r7, (0 : Int32))) = some z := hf
  refine lv_aload_n hx hb dX4_gap_0 rfl (lv_at hl 0 rfl) ?_
  refine lv_aload_n hx hb dX4_gap_1 rfl (lv_at hl 0 rfl) ?_
  refine va_get (D := D) (ci := 4) (v := .int T_drowned) (C := RX4) (T := TX4) (N := 10) hx hb hts hin4 hown hK hP 0 rfl rfl 5 (by decide) fl43 (fun _ h9 => h9) rfl dX4_gap_2 ?_
  refine lv_iconst (v := (-1 : Int32)) hx hb dX4_gap_5 (by decide) ?_
  refine lv_ixor hx hb dX4_gap_6 ?_
  obtain ⟨r7, hc7, hf⟩ := zb hf
  refine zvr (o := some (.int r7)) (As := [.int (T_drowned ^^^ (-1 : Int32))]) (rest := []) (stk := [.int r7]) ⟨hx, hb, hml, hown, hts⟩ (mX4_piecesOf l D cy st sk sv B at0 at1 at2 at3 at4 at5 n T_laws T_kind T_holds T_gone T_tells T_drowned T_count T_course T_told T_z (T_drowned ^^^ (-1 : Int32)) r7 hc7) (cwV 1 hts gX4_gap_X4_piecesOf rfl rfl rfl (by decide +kernel) ⟨Nat.le_of_ble_eq_true rfl, Nat.le_of_ble_eq_true rfl⟩) hG hS hAB hP [0, 1, 2, 3, 4, 5] rfl 0 4 rfl rfl rfl rfl hl.1 rfl (Nat.le_of_ble_eq_true rfl) dX4_gap_7 rfl ?_
  refine lv_istore_n (lv' := [(1, .int r7), (0, .ref at0)]) hx hb dX4_gap_10 rfl hl (by decide) rfl (fun ls hl => ?_)
  refine lv_iconst (v := (0 : Int32)) hx hb dX4_gap_11 (by decide) ?_
  refine lv_istore_n (lv' := [(2, .int (0 : Int32)), (1, .int r7), (0, .ref at0)]) hx hb dX4_gap_12 rfl hl (by decide) rfl (fun ls hl => ?_)
  exact hL13 n r7 (0 : Int32) hf _ (lv_sub hl [2, 1, 0] rfl)
set_option maxRecDepth 100000 in
set_option maxHeartbeats 100000000 in
theorem mX5_sortAt (l : Launch) (D : va_G) (cy : Nat → ClassId) (st sk sv : Nat → Nat) (B : Nat) (aa0 : Nat) (aa1 : Nat) (n : Nat) (A_bytes : (Nat → Int32)) (A_length : Int32) (A_place : Int32) (A_after : Int32) (A_sort : Int32) (A_number : Int32) (x1 : Int32) (z : Int32) (hf : fX5_sortAt n (A_bytes, A_length, A_place, A_after, A_sort, A_number) x1 = some z) : Met l yX5_sortAt wsX5_sortAt ({ frames := 0, cells := 0, slots := 0, locals := 0 }) (PcR [.ref aa0, .int x1] D cy st sk sv B [(aa0, .inr (5, [.ref aa1, .int A_length, .int A_place, .int A_after, .int A_sort, .int A_number])), (aa1, .inl (cy 1, 200, .inl A_bytes))]) (Qr (some (.int z))) 0 0 (fun _ => False) := by
  refine Met.ofW (cc := cX5_sortAt) (maxL := 2) (ret := (some .int)) (by decide) rfl ?_
  intro p e s m args below meth c s₁ Bd hml hv
  obtain ⟨rfl, hP, hG⟩ := hv
  have hx := Bd.exec
  have hb := Bd.bytes
  have hr := Bd.returns
  have hts := atoms_spec (ws := wsX5_sortAt) Bd.pre
  have hown : s.vm.findClass RX5 = some m.cls := findClass_of_methodNamed Bd.named
  have hlocks := Bd.notSynchronized
  have hK := hG.1
  have hS : va_S (fun q => B ≤ q) s.heap s.heap [] := va_S.rf
  have hAB : ∀ q, (fun q => B ≤ q) q → B ≤ q := fun _ h => h
  have hin5 : ∀ w ∈ u_ws RX5 TX5 6, w ∈ wsX5_sortAt := by decide +kernel
  have fl9 := hts (.fieldLink RX5 9 "KinCutlery$Tape" "bytes" "[B") (by decide +kernel)
  have fl93 := hts (.fieldLink RX5 93 "KinCutlery$Tape" "length" "I") (by decide +kernel)
  have hB34 : fX5_sortAt_b34 n (A_bytes, A_length, A_place, A_after, A_sort, A_number) x1   = some z → ∀ (ls : Array Slot), lv_has ls 2 [(0, .ref aa0), (1, .int x1)] → W p l e (headSpec wsX5_sortAt ({ frames := 0, cells := 0, slots := 0, locals := 0 })).room s m ([.ref aa0, .int x1] : List Value).toArray below meth c s.heap [] 0 0 (MQ below (Qr (some (.int z))) ([.ref aa0, .int x1] : List Value).toArray s 0 0 (fun _ => False)) (F0 m 34 ls []) := by
    intro  hf ls hl
    have hf : (if x1 < 0 ∨ 200 ≤ x1.toNatClampNeg then none else if (A_bytes x1.toNatClampNeg) < (48 : Int32) then (some (3 : Int32)) else (if x1 < 0 ∨ 200 ≤ x1.toNatClampNeg then none else if (57 : Int32) < (A_bytes x1.toNatClampNeg) then (some (3 : Int32)) else (some (2 : Int32)))) = some z := hf
    refine lv_aload_n hx hb dX5_sortAt_34 rfl (lv_at hl 0 rfl) ?_
    refine va_get (D := D) (ci := 5) (v := .ref aa1) (C := RX5) (T := TX5) (N := 6) hx hb hts hin5 hown hK hP 0 rfl rfl 0 (by decide) fl9 (fun _ h9 => h9) rfl dX5_sortAt_35 ?_
    refine lv_iload_n hx hb dX5_sortAt_38 rfl (lv_at hl 1 rfl) ?_
    obtain ⟨h_39, hf⟩ := zg hf
    refine va_bald hx hb hK hP 1 1 rfl rfl h_39 dX5_sortAt_39 ?_
    refine lv_bipush (v := (48 : Int32)) hx hb dX5_sortAt_40 (by decide) ?_
    refine lv_icmp_lt (tgt := 60) hx hb dX5_sortAt_42 (by decide) (fun c_42 => ?_) (fun c_42 => ?_)
    · have hf := zp hf c_42
      refine lv_iconst (v := (3 : Int32)) hx hb dX5_sortAt_60 (by decide) ?_
      cases hf
      exact W.iret hx hb hr (fun t ht hW => ⟨rfl, ht⟩) (fun q h => absurd h List.not_mem_nil) dX5_sortAt_61
    · have hf := zn hf c_42
      refine lv_aload_n hx hb dX5_sortAt_45 rfl (lv_at hl 0 rfl) ?_
      refine va_get (D := D) (ci := 5) (v := .ref aa1) (C := RX5) (T := TX5) (N := 6) hx hb hts hin5 hown hK hP 0 rfl rfl 0 (by decide) fl9 (fun _ h9 => h9) rfl dX5_sortAt_46 ?_
      refine lv_iload_n hx hb dX5_sortAt_49 rfl (lv_at hl 1 rfl) ?_
      obtain ⟨h_50, hf⟩ := zg hf
      refine va_bald hx hb hK hP 1 1 rfl rfl h_50 dX5_sortAt_50 ?_
      refine lv_bipush (v := (57 : Int32)) hx hb dX5_sortAt_51 (by decide) ?_
      refine lv_icmp_gt (tgt := 60) hx hb dX5_sortAt_53 (by decide) (fun c_53 => ?_) (fun c_53 => ?_)
      · have hf := zp hf c_53
        refine lv_iconst (v := (3 : Int32)) hx hb dX5_sortAt_60 (by decide) ?_
        cases hf
        exact W.iret hx hb hr (fun t ht hW => ⟨rfl, ht⟩) (fun q h => absurd h List.not_mem_nil) dX5_sortAt_61
      · have hf := zn hf c_53
        refine lv_iconst (v := (2 : Int32)) hx hb dX5_sortAt_56 (by decide) ?_
        refine lv_goto (tgt := 61) hx hb dX5_sortAt_57 (by decide) ?_
        cases hf
        exact W.iret hx hb hr (fun t ht hW => ⟨rfl, ht⟩) (fun q h => absurd h List.not_mem_nil) dX5_sortAt_61
  have hl := lv_entry ([.ref aa0, .int x1]) (n := 2) (Nat.le_of_ble_eq_true rfl)
  rw [lg_entry_eq]
  generalize (lg_sl ([.ref aa0, .int x1]) ++ List.replicate (2 - (lg_sl ([.ref aa0, .int x1])).length) Slot.unset).toArray = ls at hl ⊢
  have hl : lv_has ls 2 [(0, .ref aa0), (1, .int x1)] := hl
  have hf : (if x1 < A_length then (if x1 < 0 ∨ 200 ≤ x1.toNatClampNeg then none else if (A_bytes x1.toNatClampNeg) < (97 : Int32) then (fX5_sortAt_b34 n (A_bytes, A_length, A_place, A_after, A_sort, A_number) x1  ) else (if x1 < 0 ∨ 200 ≤ x1.toNatClampNeg then none else if (122 : Int32) < (A_bytes x1.toNatClampNeg) then (fX5_sortAt_b34 n (A_bytes, A_length, A_place, A_after, A_sort, A_number) x1  ) else (some (1 : Int32)))) else (some (0 : Int32))) = some z := hf
  refine lv_iload_n hx hb dX5_sortAt_0 rfl (lv_at hl 1 rfl) ?_
  refine lv_aload_n hx hb dX5_sortAt_1 rfl (lv_at hl 0 rfl) ?_
  refine va_get (D := D) (ci := 5) (v := .int A_length) (C := RX5) (T := TX5) (N := 6) hx hb hts hin5 hown hK hP 0 rfl rfl 1 (by decide) fl93 (fun _ h9 => h9) rfl dX5_sortAt_2 ?_
  refine lv_icmp_lt (tgt := 10) hx hb dX5_sortAt_5 (by decide) (fun c_5 => ?_) (fun c_5 => ?_)
  · have hf := zp hf c_5
    refine lv_aload_n hx hb dX5_sortAt_10 rfl (lv_at hl 0 rfl) ?_
    refine va_get (D := D) (ci := 5) (v := .ref aa1) (C := RX5) (T := TX5) (N := 6) hx hb hts hin5 hown hK hP 0 rfl rfl 0 (by decide) fl9 (fun _ h9 => h9) rfl dX5_sortAt_11 ?_
    refine lv_iload_n hx hb dX5_sortAt_14 rfl (lv_at hl 1 rfl) ?_
    obtain ⟨h_15, hf⟩ := zg hf
    refine va_bald hx hb hK hP 1 1 rfl rfl h_15 dX5_sortAt_15 ?_
    refine lv_bipush (v := (97 : Int32)) hx hb dX5_sortAt_16 (by decide) ?_
    refine lv_icmp_lt (tgt := 34) hx hb dX5_sortAt_18 (by decide) (fun c_18 => ?_) (fun c_18 => ?_)
    · have hf := zp hf c_18
      exact hB34  hf _ (lv_sub hl [0, 1] rfl)
    · have hf := zn hf c_18
      refine lv_aload_n hx hb dX5_sortAt_21 rfl (lv_at hl 0 rfl) ?_
      refine va_get (D := D) (ci := 5) (v := .ref aa1) (C := RX5) (T := TX5) (N := 6) hx hb hts hin5 hown hK hP 0 rfl rfl 0 (by decide) fl9 (fun _ h9 => h9) rfl dX5_sortAt_22 ?_
      refine lv_iload_n hx hb dX5_sortAt_25 rfl (lv_at hl 1 rfl) ?_
      obtain ⟨h_26, hf⟩ := zg hf
      refine va_bald hx hb hK hP 1 1 rfl rfl h_26 dX5_sortAt_26 ?_
      refine lv_bipush (v := (122 : Int32)) hx hb dX5_sortAt_27 (by decide) ?_
      refine lv_icmp_gt (tgt := 34) hx hb dX5_sortAt_29 (by decide) (fun c_29 => ?_) (fun c_29 => ?_)
      · have hf := zp hf c_29
        exact hB34  hf _ (lv_sub hl [0, 1] rfl)
      · have hf := zn hf c_29
        refine lv_iconst (v := (1 : Int32)) hx hb dX5_sortAt_32 (by decide) ?_
        cases hf
        exact W.iret hx hb hr (fun t ht hW => ⟨rfl, ht⟩) (fun q h => absurd h List.not_mem_nil) dX5_sortAt_33
  · have hf := zn hf c_5
    refine lv_iconst (v := (0 : Int32)) hx hb dX5_sortAt_8 (by decide) ?_
    cases hf
    exact W.iret hx hb hr (fun t ht hW => ⟨rfl, ht⟩) (fun q h => absurd h List.not_mem_nil) dX5_sortAt_9
set_option maxRecDepth 100000 in
set_option maxHeartbeats 100000000 in
theorem mX5_step (l : Launch) (D : va_G) (cy : Nat → ClassId) (st sk sv : Nat → Nat) (B : Nat) (aa0 : Nat) (aa1 : Nat) (sz : Nat) (n : Nat) (A_bytes : (Nat → Int32)) (A_length : Int32) (A_place : Int32) (A_after : Int32) (A_sort : Int32) (A_number : Int32)  (z : TP) (hf : fX5_step n (A_bytes, A_length, A_place, A_after, A_sort, A_number) = some z) : Met l yX5_step wsX5_step ({ frames := 1, cells := 0, slots := 0, locals := 21 }) (PcW [.ref aa0] D cy st sk sv B sz [(aa0, .inr (5, [.ref aa1, .int A_length, .int A_place, .int A_after, .int A_sort, .int A_number])), (aa1, .inl (cy 1, 200, .inl A_bytes))]) (Qw (none) D [(aa0, .inr (5, [.ref aa1, .int z.2.1, .int z.2.2.1, .int z.2.2.2.1, .int z.2.2.2.2.1, .int z.2.2.2.2.2])), (aa1, .inl (cy 1, 200, .inl z.1))] (va_A [(aa0, .inr (5, [.ref aa1, .int A_length, .int A_place, .int A_after, .int A_sort, .int A_number])), (aa1, .inl (cy 1, 200, .inl A_bytes))] sz)) 0 0 (va_A [(aa0, .inr (5, [.ref aa1, .int A_length, .int A_place, .int A_after, .int A_sort, .int A_number])), (aa1, .inl (cy 1, 200, .inl A_bytes))] sz) := by
  refine Met.ofW (cc := cX5_step) (maxL := 1) (ret := none) (by decide) rfl ?_
  intro p e s m args below meth c s₁ Bd hml hv
  obtain ⟨rfl, hsz, hP, hD0, hBs, hG⟩ := hv
  have hx := Bd.exec
  have hb := Bd.bytes
  have hr := Bd.returns
  have hts := atoms_spec (ws := wsX5_step) Bd.pre
  have hown : s.vm.findClass RX5 = some m.cls := findClass_of_methodNamed Bd.named
  have hlocks := Bd.notSynchronized
  have hK := hG.1
  subst hsz
  have hD := hD0.self (sz := s.heap.size)
  have hAB0 := zA hD0 hBs
  generalize hAe : va_A [(aa0, .inr (5, [.ref aa1, .int A_length, .int A_place, .int A_after, .int A_sort, .int A_number])), (aa1, .inl (cy 1, 200, .inl A_bytes))] s.heap.size = A at hD hAB0 ⊢
  have hA : ∀ q : Nat, s.heap.size ≤ q → A q := fun q h => by rw [← hAe]; exact Or.inr h
  have hAB : ∀ q, A q → B ≤ q := hAB0
  have hS : va_S A s.heap s.heap [] := va_S.rf
  have hfin : ∀ (A_bytes : (Nat → Int32)) (A_length : Int32) (A_place : Int32) (A_after : Int32) (A_sort : Int32) (A_number : Int32), some (A_bytes, A_length, A_place, A_after, A_sort, A_number) = some z → ∀ (H : Heap) (t : State), t.heap = H → va_P D vwCl [(aa0, .inr (5, [.ref aa1, .int A_length, .int A_place, .int A_after, .int A_sort, .int A_number])), (aa1, .inl (cy 1, 200, .inl A_bytes))] H → va_F A s t → Qw (none) D [(aa0, .inr (5, [.ref aa1, .int z.2.1, .int z.2.2.1, .int z.2.2.2.1, .int z.2.2.2.2.1, .int z.2.2.2.2.2])), (aa1, .inl (cy 1, 200, .inl z.1))] A ([.ref aa0] : List Value).toArray s (.returned (none)) t := by
    intro A_bytes A_length A_place A_after A_sort A_number h9 H t ht hP hF
    cases h9
    exact ⟨rfl, by rw [ht]; exact hP, hF⟩
  have hin5 : ∀ w ∈ u_ws RX5 TX5 6, w ∈ wsX5_step := by decide +kernel
  have fl9 := hts (.fieldLink RX5 9 "KinCutlery$Tape" "bytes" "[B") (by decide +kernel)
  have fl15 := hts (.fieldLink RX5 15 "KinCutlery$Tape" "after" "I") (by decide +kernel)
  have fl22 := hts (.fieldLink RX5 22 "KinCutlery$Tape" "sort" "I") (by decide +kernel)
  have fl90 := hts (.fieldLink RX5 90 "KinCutlery$Tape" "place" "I") (by decide +kernel)
  have fl93 := hts (.fieldLink RX5 93 "KinCutlery$Tape" "length" "I") (by decide +kernel)
  have hL94 : ∀ (n0 : Nat) (A_bytes : (Nat → Int32)) (A_length : Int32) (A_place : Int32) (A_after : Int32) (A_sort : Int32) (A_number : Int32), lpF (fX5_step_F94 n ) n0 (A_bytes, A_length, A_place, A_after, A_sort, A_number) = some z → ∀ (H : Heap) (locs : List Loc), va_P D vwCl [(aa0, .inr (5, [.ref aa1, .int A_length, .int A_place, .int A_after, .int A_sort, .int A_number])), (aa1, .inl (cy 1, 200, .inl A_bytes))] H → va_D A [(aa0, .inr (5, [.ref aa1, .int A_length, .int A_place, .int A_after, .int A_sort, .int A_number])), (aa1, .inl (cy 1, 200, .inl A_bytes))] → va_S A s.heap H locs → ∀ (ls : Array Slot), lv_has ls 1 [(0, .ref aa0)] → W p l e (headSpec wsX5_step ({ frames := 1, cells := 0, slots := 0, locals := 21 })).room s m ([.ref aa0] : List Value).toArray below meth c H locs 0 0 (MQ below (Qw (none) D [(aa0, .inr (5, [.ref aa1, .int z.2.1, .int z.2.2.1, .int z.2.2.2.1, .int z.2.2.2.2.1, .int z.2.2.2.2.2])), (aa1, .inl (cy 1, 200, .inl z.1))] A) ([.ref aa0] : List Value).toArray s 0 0 A) (F0 m 94 ls []) := by
    have key : ∀ (n0 : Nat) (v94 : TP), lpF (fX5_step_F94 n ) n0 v94 = some z → ∀ (H : Heap) (locs : List Loc), va_P D vwCl [(aa0, .inr (5, [.ref aa1, .int v94.2.1, .int v94.2.2.1, .int v94.2.2.2.1, .int v94.2.2.2.2.1, .int v94.2.2.2.2.2])), (aa1, .inl (cy 1, 200, .inl v94.1))] H → va_D A [(aa0, .inr (5, [.ref aa1, .int v94.2.1, .int v94.2.2.1, .int v94.2.2.2.1, .int v94.2.2.2.2.1, .int v94.2.2.2.2.2])), (aa1, .inl (cy 1, 200, .inl v94.1))] → va_S A s.heap H locs → ∀ (ls : Array Slot), lv_has ls 1 [(0, .ref aa0)] → W p l e (headSpec wsX5_step ({ frames := 1, cells := 0, slots := 0, locals := 21 })).room s m ([.ref aa0] : List Value).toArray below meth c H locs 0 0 (MQ below (Qw (none) D [(aa0, .inr (5, [.ref aa1, .int z.2.1, .int z.2.2.1, .int z.2.2.2.1, .int z.2.2.2.2.1, .int z.2.2.2.2.2])), (aa1, .inl (cy 1, 200, .inl z.1))] A) ([.ref aa0] : List Value).toArray s 0 0 A) (F0 m 94 ls []) := by
      refine lpW ?_
      intro k94 hk940
      have hk94 : ∀ (A_bytes : (Nat → Int32)) (A_length : Int32) (A_place : Int32) (A_after : Int32) (A_sort : Int32) (A_number : Int32), k94 (A_bytes, A_length, A_place, A_after, A_sort, A_number) = some z → ∀ (H : Heap) (locs : List Loc), va_P D vwCl [(aa0, .inr (5, [.ref aa1, .int A_length, .int A_place, .int A_after, .int A_sort, .int A_number])), (aa1, .inl (cy 1, 200, .inl A_bytes))] H → va_D A [(aa0, .inr (5, [.ref aa1, .int A_length, .int A_place, .int A_after, .int A_sort, .int A_number])), (aa1, .inl (cy 1, 200, .inl A_bytes))] → va_S A s.heap H locs → ∀ (ls : Array Slot), lv_has ls 1 [(0, .ref aa0)] → W p l e (headSpec wsX5_step ({ frames := 1, cells := 0, slots := 0, locals := 21 })).room s m ([.ref aa0] : List Value).toArray below meth c H locs 0 0 (MQ below (Qw (none) D [(aa0, .inr (5, [.ref aa1, .int z.2.1, .int z.2.2.1, .int z.2.2.2.1, .int z.2.2.2.2.1, .int z.2.2.2.2.2])), (aa1, .inl (cy 1, 200, .inl z.1))] A) ([.ref aa0] : List Value).toArray s 0 0 A) (F0 m 94 ls []) := fun A_bytes A_length A_place A_after A_sort A_number h9 => hk940 (A_bytes, A_length, A_place, A_after, A_sort, A_number) h9
      have hstep : ∀ (A_bytes : (Nat → Int32)) (A_length : Int32) (A_place : Int32) (A_after : Int32) (A_sort : Int32) (A_number : Int32), fX5_step_F94 n  k94 (A_bytes, A_length, A_place, A_after, A_sort, A_number) = some z → ∀ (H : Heap) (locs : List Loc), va_P D vwCl [(aa0, .inr (5, [.ref aa1, .int A_length, .int A_place, .int A_after, .int A_sort, .int A_number])), (aa1, .inl (cy 1, 200, .inl A_bytes))] H → va_D A [(aa0, .inr (5, [.ref aa1, .int A_length, .int A_place, .int A_after, .int A_sort, .int A_number])), (aa1, .inl (cy 1, 200, .inl A_bytes))] → va_S A s.heap H locs → ∀ (ls : Array Slot), lv_has ls 1 [(0, .ref aa0)] → W p l e (headSpec wsX5_step ({ frames := 1, cells := 0, slots := 0, locals := 21 })).room s m ([.ref aa0] : List Value).toArray below meth c H locs 0 0 (MQ below (Qw (none) D [(aa0, .inr (5, [.ref aa1, .int z.2.1, .int z.2.2.1, .int z.2.2.2.1, .int z.2.2.2.2.1, .int z.2.2.2.2.2])), (aa1, .inl (cy 1, 200, .inl z.1))] A) ([.ref aa0] : List Value).toArray s 0 0 A) (F0 m 94 ls []) := by
        intro A_bytes A_length A_place A_after A_sort A_number hf H locs hP hD hS ls hl
        have hf : (if A_length ≤ A_after then (some (A_bytes, A_length, A_place, A_after, A_sort, A_number)) else ((fX5_sortAt n (A_bytes, A_length, A_place, A_after, A_sort, A_number) A_after).bind fun r110 => if r110 = A_sort then (k94 (A_bytes, A_length, A_place, (A_after + (1 : Int32)), A_sort, A_number)) else (some (A_bytes, A_length, A_place, A_after, A_sort, A_number)))) = some z := hf
        refine lv_aload_n hx hb dX5_step_94 rfl (lv_at hl 0 rfl) ?_
        refine va_get (D := D) (ci := 5) (v := .int A_after) (C := RX5) (T := TX5) (N := 6) hx hb hts hin5 hown hK hP 0 rfl rfl 3 (by decide) fl15 (fun _ h9 => h9) rfl dX5_step_95 ?_
        refine lv_aload_n hx hb dX5_step_98 rfl (lv_at hl 0 rfl) ?_
        refine va_get (D := D) (ci := 5) (v := .int A_length) (C := RX5) (T := TX5) (N := 6) hx hb hts hin5 hown hK hP 0 rfl rfl 1 (by decide) fl93 (fun _ h9 => h9) rfl dX5_step_99 ?_
        refine lv_icmp_ge (tgt := 133) hx hb dX5_step_102 (by decide) (fun c_102 => ?_) (fun c_102 => ?_)
        · have hf := zp hf c_102
          exact W.vret hx hb hr (fun t ht hW => hfin A_bytes A_length A_place A_after A_sort A_number hf _ t ht hP (hS.F ht)) hS.2.2 dX5_step_133
        · have hf := zn hf c_102
          refine lv_aload_n hx hb dX5_step_105 rfl (lv_at hl 0 rfl) ?_
          refine lv_aload_n hx hb dX5_step_106 rfl (lv_at hl 0 rfl) ?_
          refine va_get (D := D) (ci := 5) (v := .int A_after) (C := RX5) (T := TX5) (N := 6) hx hb hts hin5 hown hK hP 0 rfl rfl 3 (by decide) fl15 (fun _ h9 => h9) rfl dX5_step_107 ?_
          obtain ⟨r110, hc110, hf⟩ := zb hf
          refine zvr (o := some (.int r110)) (As := [.int A_after]) (rest := []) (stk := [.int r110]) ⟨hx, hb, hml, hown, hts⟩ (mX5_sortAt l D cy st sk sv B aa0 aa1 n A_bytes A_length A_place A_after A_sort A_number A_after r110 hc110) (cwV 1 hts gX5_step_X5_sortAt rfl rfl rfl (by decide +kernel) ⟨Nat.le_of_ble_eq_true rfl, Nat.le_of_ble_eq_true rfl⟩) hG hS hAB hP [0, 1] rfl 0 5 rfl rfl rfl rfl hl.1 rfl (Nat.le_of_ble_eq_true rfl) dX5_step_110 rfl ?_
          refine lv_aload_n hx hb dX5_step_113 rfl (lv_at hl 0 rfl) ?_
          refine va_get (D := D) (ci := 5) (v := .int A_sort) (C := RX5) (T := TX5) (N := 6) hx hb hts hin5 hown hK hP 0 rfl rfl 4 (by decide) fl22 (fun _ h9 => h9) rfl dX5_step_114 ?_
          refine lv_icmp_ne (tgt := 133) hx hb dX5_step_117 (by decide) (fun c_117 => ?_) (fun c_117 => ?_)
          · have hf := zn hf c_117
            exact W.vret hx hb hr (fun t ht hW => hfin A_bytes A_length A_place A_after A_sort A_number hf _ t ht hP (hS.F ht)) hS.2.2 dX5_step_133
          · have hf := zp hf c_117
            refine lv_aload_n hx hb dX5_step_120 rfl (lv_at hl 0 rfl) ?_
            refine lv_dup hx hb dX5_step_121 rfl ?_
            refine va_get (D := D) (ci := 5) (v := .int A_after) (C := RX5) (T := TX5) (N := 6) hx hb hts hin5 hown hK hP 0 rfl rfl 3 (by decide) fl15 (fun _ h9 => h9) rfl dX5_step_122 ?_
            refine lv_iconst (v := (1 : Int32)) hx hb dX5_step_125 (by decide) ?_
            refine lv_iadd hx hb dX5_step_126 ?_
            refine va_put (D := D) (ci := 5) (v := .int (A_after + (1 : Int32))) (ty := .int) (C := RX5) (T := TX5) (N := 6) hx hb hts hin5 tyX5 tyX5_ok nmX5 hown hK hP hD hS 0 rfl rfl 3 (by decide) fl15 (fun _ h9 => h9) rfl (by decide +kernel) rfl rfl (Nat.le_of_ble_eq_true rfl) dX5_step_127 (fun H locs hP hD hS => ?_)
            have hP : va_P D vwCl [(aa0, .inr (5, [.ref aa1, .int A_length, .int A_place, .int (A_after + (1 : Int32)), .int A_sort, .int A_number])), (aa1, .inl (cy 1, 200, .inl A_bytes))] H := hP
            have hD : va_D A [(aa0, .inr (5, [.ref aa1, .int A_length, .int A_place, .int (A_after + (1 : Int32)), .int A_sort, .int A_number])), (aa1, .inl (cy 1, 200, .inl A_bytes))] := hD
            refine lv_goto (tgt := 94) hx hb dX5_step_130 (by decide) ?_
            exact hk94 A_bytes A_length A_place (A_after + (1 : Int32)) A_sort A_number hf _ _ hP hD hS _ (lv_sub hl [0] rfl)
      exact fun v94 h9 => hstep v94.1 v94.2.1 v94.2.2.1 v94.2.2.2.1 v94.2.2.2.2.1 v94.2.2.2.2.2 h9
    exact fun n0 A_bytes A_length A_place A_after A_sort A_number h9 => key n0 (A_bytes, A_length, A_place, A_after, A_sort, A_number) h9
  have hB46 : ∀ (A_bytes : (Nat → Int32)) (A_length : Int32) (A_place : Int32) (A_after : Int32) (A_sort : Int32) (A_number : Int32), fX5_step_b46 n  (A_bytes, A_length, A_place, A_after, A_sort, A_number) = some z → ∀ (H : Heap) (locs : List Loc), va_P D vwCl [(aa0, .inr (5, [.ref aa1, .int A_length, .int A_place, .int A_after, .int A_sort, .int A_number])), (aa1, .inl (cy 1, 200, .inl A_bytes))] H → va_D A [(aa0, .inr (5, [.ref aa1, .int A_length, .int A_place, .int A_after, .int A_sort, .int A_number])), (aa1, .inl (cy 1, 200, .inl A_bytes))] → va_S A s.heap H locs → ∀ (ls : Array Slot), lv_has ls 1 [(0, .ref aa0)] → W p l e (headSpec wsX5_step ({ frames := 1, cells := 0, slots := 0, locals := 21 })).room s m ([.ref aa0] : List Value).toArray below meth c H locs 0 0 (MQ below (Qw (none) D [(aa0, .inr (5, [.ref aa1, .int z.2.1, .int z.2.2.1, .int z.2.2.2.1, .int z.2.2.2.2.1, .int z.2.2.2.2.2])), (aa1, .inl (cy 1, 200, .inl z.1))] A) ([.ref aa0] : List Value).toArray s 0 0 A) (F0 m 46 ls []) := by
    intro A_bytes A_length A_place A_after A_sort A_number hf H locs hP hD hS ls hl
    have hf : ((fX5_sortAt n (A_bytes, A_length, A_place, A_after, A_sort, A_number) A_place).bind fun r52 => if r52 = (3 : Int32) then (some (A_bytes, A_length, A_place, (A_place + (1 : Int32)), r52, A_number)) else (if r52 = 0 then (some (A_bytes, A_length, A_place, A_place, r52, A_number)) else (lpF (fX5_step_F94 n ) n (A_bytes, A_length, A_place, A_place, r52, A_number)))) = some z := hf
    refine lv_aload_n hx hb dX5_step_46 rfl (lv_at hl 0 rfl) ?_
    refine lv_aload_n hx hb dX5_step_47 rfl (lv_at hl 0 rfl) ?_
    refine lv_aload_n hx hb dX5_step_48 rfl (lv_at hl 0 rfl) ?_
    refine va_get (D := D) (ci := 5) (v := .int A_place) (C := RX5) (T := TX5) (N := 6) hx hb hts hin5 hown hK hP 0 rfl rfl 2 (by decide) fl90 (fun _ h9 => h9) rfl dX5_step_49 ?_
    obtain ⟨r52, hc52, hf⟩ := zb hf
    refine zvr (o := some (.int r52)) (As := [.int A_place]) (rest := [.ref aa0]) (stk := [.int r52, .ref aa0]) ⟨hx, hb, hml, hown, hts⟩ (mX5_sortAt l D cy st sk sv B aa0 aa1 n A_bytes A_length A_place A_after A_sort A_number A_place r52 hc52) (cwV 1 hts gX5_step_X5_sortAt rfl rfl rfl (by decide +kernel) ⟨Nat.le_of_ble_eq_true rfl, Nat.le_of_ble_eq_true rfl⟩) hG hS hAB hP [0, 1] rfl 0 5 rfl rfl rfl rfl hl.1 rfl (Nat.le_of_ble_eq_true rfl) dX5_step_52 rfl ?_
    refine va_put (D := D) (ci := 5) (v := .int r52) (ty := .int) (C := RX5) (T := TX5) (N := 6) hx hb hts hin5 tyX5 tyX5_ok nmX5 hown hK hP hD hS 0 rfl rfl 4 (by decide) fl22 (fun _ h9 => h9) rfl (by decide +kernel) rfl rfl (Nat.le_of_ble_eq_true rfl) dX5_step_55 (fun H locs hP hD hS => ?_)
    have hP : va_P D vwCl [(aa0, .inr (5, [.ref aa1, .int A_length, .int A_place, .int A_after, .int r52, .int A_number])), (aa1, .inl (cy 1, 200, .inl A_bytes))] H := hP
    have hD : va_D A [(aa0, .inr (5, [.ref aa1, .int A_length, .int A_place, .int A_after, .int r52, .int A_number])), (aa1, .inl (cy 1, 200, .inl A_bytes))] := hD
    refine lv_aload_n hx hb dX5_step_58 rfl (lv_at hl 0 rfl) ?_
    refine lv_aload_n hx hb dX5_step_59 rfl (lv_at hl 0 rfl) ?_
    refine va_get (D := D) (ci := 5) (v := .int A_place) (C := RX5) (T := TX5) (N := 6) hx hb hts hin5 hown hK hP 0 rfl rfl 2 (by decide) fl90 (fun _ h9 => h9) rfl dX5_step_60 ?_
    refine va_put (D := D) (ci := 5) (v := .int A_place) (ty := .int) (C := RX5) (T := TX5) (N := 6) hx hb hts hin5 tyX5 tyX5_ok nmX5 hown hK hP hD hS 0 rfl rfl 3 (by decide) fl15 (fun _ h9 => h9) rfl (by decide +kernel) rfl rfl (Nat.le_of_ble_eq_true rfl) dX5_step_63 (fun H locs hP hD hS => ?_)
    have hP : va_P D vwCl [(aa0, .inr (5, [.ref aa1, .int A_length, .int A_place, .int A_place, .int r52, .int A_number])), (aa1, .inl (cy 1, 200, .inl A_bytes))] H := hP
    have hD : va_D A [(aa0, .inr (5, [.ref aa1, .int A_length, .int A_place, .int A_place, .int r52, .int A_number])), (aa1, .inl (cy 1, 200, .inl A_bytes))] := hD
    refine lv_aload_n hx hb dX5_step_66 rfl (lv_at hl 0 rfl) ?_
    refine va_get (D := D) (ci := 5) (v := .int r52) (C := RX5) (T := TX5) (N := 6) hx hb hts hin5 hown hK hP 0 rfl rfl 4 (by decide) fl22 (fun _ h9 => h9) rfl dX5_step_67 ?_
    refine lv_iconst (v := (3 : Int32)) hx hb dX5_step_70 (by decide) ?_
    refine lv_icmp_ne (tgt := 87) hx hb dX5_step_71 (by decide) (fun c_71 => ?_) (fun c_71 => ?_)
    · have hf := zn hf c_71
      refine lv_aload_n hx hb dX5_step_87 rfl (lv_at hl 0 rfl) ?_
      refine va_get (D := D) (ci := 5) (v := .int r52) (C := RX5) (T := TX5) (N := 6) hx hb hts hin5 hown hK hP 0 rfl rfl 4 (by decide) fl22 (fun _ h9 => h9) rfl dX5_step_88 ?_
      refine lv_if_eq (tgt := 133) hx hb dX5_step_91 (by decide) (fun c_91 => ?_) (fun c_91 => ?_)
      · have hf := zp hf c_91
        exact W.vret hx hb hr (fun t ht hW => hfin A_bytes A_length A_place A_place r52 A_number hf _ t ht hP (hS.F ht)) hS.2.2 dX5_step_133
      · have hf := zn hf c_91
        exact hL94 n A_bytes A_length A_place A_place r52 A_number hf _ _ hP hD hS _ (lv_sub hl [0] rfl)
    · have hf := zp hf c_71
      refine lv_aload_n hx hb dX5_step_74 rfl (lv_at hl 0 rfl) ?_
      refine lv_dup hx hb dX5_step_75 rfl ?_
      refine va_get (D := D) (ci := 5) (v := .int A_place) (C := RX5) (T := TX5) (N := 6) hx hb hts hin5 hown hK hP 0 rfl rfl 3 (by decide) fl15 (fun _ h9 => h9) rfl dX5_step_76 ?_
      refine lv_iconst (v := (1 : Int32)) hx hb dX5_step_79 (by decide) ?_
      refine lv_iadd hx hb dX5_step_80 ?_
      refine va_put (D := D) (ci := 5) (v := .int (A_place + (1 : Int32))) (ty := .int) (C := RX5) (T := TX5) (N := 6) hx hb hts hin5 tyX5 tyX5_ok nmX5 hown hK hP hD hS 0 rfl rfl 3 (by decide) fl15 (fun _ h9 => h9) rfl (by decide +kernel) rfl rfl (Nat.le_of_ble_eq_true rfl) dX5_step_81 (fun H locs hP hD hS => ?_)
      have hP : va_P D vwCl [(aa0, .inr (5, [.ref aa1, .int A_length, .int A_place, .int (A_place + (1 : Int32)), .int r52, .int A_number])), (aa1, .inl (cy 1, 200, .inl A_bytes))] H := hP
      have hD : va_D A [(aa0, .inr (5, [.ref aa1, .int A_length, .int A_place, .int (A_place + (1 : Int32)), .int r52, .int A_number])), (aa1, .inl (cy 1, 200, .inl A_bytes))] := hD
      refine lv_goto (tgt := 133) hx hb dX5_step_84 (by decide) ?_
      exact W.vret hx hb hr (fun t ht hW => hfin A_bytes A_length A_place (A_place + (1 : Int32)) r52 A_number hf _ t ht hP (hS.F ht)) hS.2.2 dX5_step_133
  have hL8 : ∀ (n0 : Nat) (A_bytes : (Nat → Int32)) (A_length : Int32) (A_place : Int32) (A_after : Int32) (A_sort : Int32) (A_number : Int32), lpF (fX5_step_F8 n ) n0 (A_bytes, A_length, A_place, A_after, A_sort, A_number) = some z → ∀ (H : Heap) (locs : List Loc), va_P D vwCl [(aa0, .inr (5, [.ref aa1, .int A_length, .int A_place, .int A_after, .int A_sort, .int A_number])), (aa1, .inl (cy 1, 200, .inl A_bytes))] H → va_D A [(aa0, .inr (5, [.ref aa1, .int A_length, .int A_place, .int A_after, .int A_sort, .int A_number])), (aa1, .inl (cy 1, 200, .inl A_bytes))] → va_S A s.heap H locs → ∀ (ls : Array Slot), lv_has ls 1 [(0, .ref aa0)] → W p l e (headSpec wsX5_step ({ frames := 1, cells := 0, slots := 0, locals := 21 })).room s m ([.ref aa0] : List Value).toArray below meth c H locs 0 0 (MQ below (Qw (none) D [(aa0, .inr (5, [.ref aa1, .int z.2.1, .int z.2.2.1, .int z.2.2.2.1, .int z.2.2.2.2.1, .int z.2.2.2.2.2])), (aa1, .inl (cy 1, 200, .inl z.1))] A) ([.ref aa0] : List Value).toArray s 0 0 A) (F0 m 8 ls []) := by
    have key : ∀ (n0 : Nat) (v8 : TP), lpF (fX5_step_F8 n ) n0 v8 = some z → ∀ (H : Heap) (locs : List Loc), va_P D vwCl [(aa0, .inr (5, [.ref aa1, .int v8.2.1, .int v8.2.2.1, .int v8.2.2.2.1, .int v8.2.2.2.2.1, .int v8.2.2.2.2.2])), (aa1, .inl (cy 1, 200, .inl v8.1))] H → va_D A [(aa0, .inr (5, [.ref aa1, .int v8.2.1, .int v8.2.2.1, .int v8.2.2.2.1, .int v8.2.2.2.2.1, .int v8.2.2.2.2.2])), (aa1, .inl (cy 1, 200, .inl v8.1))] → va_S A s.heap H locs → ∀ (ls : Array Slot), lv_has ls 1 [(0, .ref aa0)] → W p l e (headSpec wsX5_step ({ frames := 1, cells := 0, slots := 0, locals := 21 })).room s m ([.ref aa0] : List Value).toArray below meth c H locs 0 0 (MQ below (Qw (none) D [(aa0, .inr (5, [.ref aa1, .int z.2.1, .int z.2.2.1, .int z.2.2.2.1, .int z.2.2.2.2.1, .int z.2.2.2.2.2])), (aa1, .inl (cy 1, 200, .inl z.1))] A) ([.ref aa0] : List Value).toArray s 0 0 A) (F0 m 8 ls []) := by
      refine lpW ?_
      intro k8 hk80
      have hk8 : ∀ (A_bytes : (Nat → Int32)) (A_length : Int32) (A_place : Int32) (A_after : Int32) (A_sort : Int32) (A_number : Int32), k8 (A_bytes, A_length, A_place, A_after, A_sort, A_number) = some z → ∀ (H : Heap) (locs : List Loc), va_P D vwCl [(aa0, .inr (5, [.ref aa1, .int A_length, .int A_place, .int A_after, .int A_sort, .int A_number])), (aa1, .inl (cy 1, 200, .inl A_bytes))] H → va_D A [(aa0, .inr (5, [.ref aa1, .int A_length, .int A_place, .int A_after, .int A_sort, .int A_number])), (aa1, .inl (cy 1, 200, .inl A_bytes))] → va_S A s.heap H locs → ∀ (ls : Array Slot), lv_has ls 1 [(0, .ref aa0)] → W p l e (headSpec wsX5_step ({ frames := 1, cells := 0, slots := 0, locals := 21 })).room s m ([.ref aa0] : List Value).toArray below meth c H locs 0 0 (MQ below (Qw (none) D [(aa0, .inr (5, [.ref aa1, .int z.2.1, .int z.2.2.1, .int z.2.2.2.1, .int z.2.2.2.2.1, .int z.2.2.2.2.2])), (aa1, .inl (cy 1, 200, .inl z.1))] A) ([.ref aa0] : List Value).toArray s 0 0 A) (F0 m 8 ls []) := fun A_bytes A_length A_place A_after A_sort A_number h9 => hk80 (A_bytes, A_length, A_place, A_after, A_sort, A_number) h9
      have hstep : ∀ (A_bytes : (Nat → Int32)) (A_length : Int32) (A_place : Int32) (A_after : Int32) (A_sort : Int32) (A_number : Int32), fX5_step_F8 n  k8 (A_bytes, A_length, A_place, A_after, A_sort, A_number) = some z → ∀ (H : Heap) (locs : List Loc), va_P D vwCl [(aa0, .inr (5, [.ref aa1, .int A_length, .int A_place, .int A_after, .int A_sort, .int A_number])), (aa1, .inl (cy 1, 200, .inl A_bytes))] H → va_D A [(aa0, .inr (5, [.ref aa1, .int A_length, .int A_place, .int A_after, .int A_sort, .int A_number])), (aa1, .inl (cy 1, 200, .inl A_bytes))] → va_S A s.heap H locs → ∀ (ls : Array Slot), lv_has ls 1 [(0, .ref aa0)] → W p l e (headSpec wsX5_step ({ frames := 1, cells := 0, slots := 0, locals := 21 })).room s m ([.ref aa0] : List Value).toArray below meth c H locs 0 0 (MQ below (Qw (none) D [(aa0, .inr (5, [.ref aa1, .int z.2.1, .int z.2.2.1, .int z.2.2.2.1, .int z.2.2.2.2.1, .int z.2.2.2.2.2])), (aa1, .inl (cy 1, 200, .inl z.1))] A) ([.ref aa0] : List Value).toArray s 0 0 A) (F0 m 8 ls []) := by
        intro A_bytes A_length A_place A_after A_sort A_number hf H locs hP hD hS ls hl
        have hf : (if A_length ≤ A_place then (fX5_step_b46 n  (A_bytes, A_length, A_place, A_after, A_sort, A_number)) else (if A_place < 0 ∨ 200 ≤ A_place.toNatClampNeg then none else if (A_bytes A_place.toNatClampNeg) = (32 : Int32) then (k8 (A_bytes, A_length, (A_place + (1 : Int32)), A_after, A_sort, A_number)) else (fX5_step_b46 n  (A_bytes, A_length, A_place, A_after, A_sort, A_number)))) = some z := hf
        refine lv_aload_n hx hb dX5_step_8 rfl (lv_at hl 0 rfl) ?_
        refine va_get (D := D) (ci := 5) (v := .int A_place) (C := RX5) (T := TX5) (N := 6) hx hb hts hin5 hown hK hP 0 rfl rfl 2 (by decide) fl90 (fun _ h9 => h9) rfl dX5_step_9 ?_
        refine lv_aload_n hx hb dX5_step_12 rfl (lv_at hl 0 rfl) ?_
        refine va_get (D := D) (ci := 5) (v := .int A_length) (C := RX5) (T := TX5) (N := 6) hx hb hts hin5 hown hK hP 0 rfl rfl 1 (by decide) fl93 (fun _ h9 => h9) rfl dX5_step_13 ?_
        refine lv_icmp_ge (tgt := 46) hx hb dX5_step_16 (by decide) (fun c_16 => ?_) (fun c_16 => ?_)
        · have hf := zp hf c_16
          exact hB46 A_bytes A_length A_place A_after A_sort A_number hf _ _ hP hD hS _ (lv_sub hl [0] rfl)
        · have hf := zn hf c_16
          refine lv_aload_n hx hb dX5_step_19 rfl (lv_at hl 0 rfl) ?_
          refine va_get (D := D) (ci := 5) (v := .ref aa1) (C := RX5) (T := TX5) (N := 6) hx hb hts hin5 hown hK hP 0 rfl rfl 0 (by decide) fl9 (fun _ h9 => h9) rfl dX5_step_20 ?_
          refine lv_aload_n hx hb dX5_step_23 rfl (lv_at hl 0 rfl) ?_
          refine va_get (D := D) (ci := 5) (v := .int A_place) (C := RX5) (T := TX5) (N := 6) hx hb hts hin5 hown hK hP 0 rfl rfl 2 (by decide) fl90 (fun _ h9 => h9) rfl dX5_step_24 ?_
          obtain ⟨h_27, hf⟩ := zg hf
          refine va_bald hx hb hK hP 1 1 rfl rfl h_27 dX5_step_27 ?_
          refine lv_bipush (v := (32 : Int32)) hx hb dX5_step_28 (by decide) ?_
          refine lv_icmp_ne (tgt := 46) hx hb dX5_step_30 (by decide) (fun c_30 => ?_) (fun c_30 => ?_)
          · have hf := zn hf c_30
            exact hB46 A_bytes A_length A_place A_after A_sort A_number hf _ _ hP hD hS _ (lv_sub hl [0] rfl)
          · have hf := zp hf c_30
            refine lv_aload_n hx hb dX5_step_33 rfl (lv_at hl 0 rfl) ?_
            refine lv_dup hx hb dX5_step_34 rfl ?_
            refine va_get (D := D) (ci := 5) (v := .int A_place) (C := RX5) (T := TX5) (N := 6) hx hb hts hin5 hown hK hP 0 rfl rfl 2 (by decide) fl90 (fun _ h9 => h9) rfl dX5_step_35 ?_
            refine lv_iconst (v := (1 : Int32)) hx hb dX5_step_38 (by decide) ?_
            refine lv_iadd hx hb dX5_step_39 ?_
            refine va_put (D := D) (ci := 5) (v := .int (A_place + (1 : Int32))) (ty := .int) (C := RX5) (T := TX5) (N := 6) hx hb hts hin5 tyX5 tyX5_ok nmX5 hown hK hP hD hS 0 rfl rfl 2 (by decide) fl90 (fun _ h9 => h9) rfl (by decide +kernel) rfl rfl (Nat.le_of_ble_eq_true rfl) dX5_step_40 (fun H locs hP hD hS => ?_)
            have hP : va_P D vwCl [(aa0, .inr (5, [.ref aa1, .int A_length, .int (A_place + (1 : Int32)), .int A_after, .int A_sort, .int A_number])), (aa1, .inl (cy 1, 200, .inl A_bytes))] H := hP
            have hD : va_D A [(aa0, .inr (5, [.ref aa1, .int A_length, .int (A_place + (1 : Int32)), .int A_after, .int A_sort, .int A_number])), (aa1, .inl (cy 1, 200, .inl A_bytes))] := hD
            refine lv_goto (tgt := 8) hx hb dX5_step_43 (by decide) ?_
            exact hk8 A_bytes A_length (A_place + (1 : Int32)) A_after A_sort A_number hf _ _ hP hD hS _ (lv_sub hl [0] rfl)
      exact fun v8 h9 => hstep v8.1 v8.2.1 v8.2.2.1 v8.2.2.2.1 v8.2.2.2.2.1 v8.2.2.2.2.2 h9
    exact fun n0 A_bytes A_length A_place A_after A_sort A_number h9 => key n0 (A_bytes, A_length, A_place, A_after, A_sort, A_number) h9
  have hl := lv_entry ([.ref aa0]) (n := 1) (Nat.le_of_ble_eq_true rfl)
  rw [lg_entry_eq]
  generalize (lg_sl ([.ref aa0]) ++ List.replicate (1 - (lg_sl ([.ref aa0])).length) Slot.unset).toArray = ls at hl ⊢
  have hl : lv_has ls 1 [(0, .ref aa0)] := hl
  have hf : (lpF (fX5_step_F8 n ) n (A_bytes, A_length, A_after, A_after, A_sort, A_number)) = some z := hf
  refine lv_aload_n hx hb dX5_step_0 rfl (lv_at hl 0 rfl) ?_
  refine lv_aload_n hx hb dX5_step_1 rfl (lv_at hl 0 rfl) ?_
  refine va_get (D := D) (ci := 5) (v := .int A_after) (C := RX5) (T := TX5) (N := 6) hx hb hts hin5 hown hK hP 0 rfl rfl 3 (by decide) fl15 (fun _ h9 => h9) rfl dX5_step_2 ?_
  refine va_put (D := D) (ci := 5) (v := .int A_after) (ty := .int) (C := RX5) (T := TX5) (N := 6) hx hb hts hin5 tyX5 tyX5_ok nmX5 hown hK hP hD hS 0 rfl rfl 2 (by decide) fl90 (fun _ h9 => h9) rfl (by decide +kernel) rfl rfl (Nat.le_of_ble_eq_true rfl) dX5_step_5 (fun H locs hP hD hS => ?_)
  have hP : va_P D vwCl [(aa0, .inr (5, [.ref aa1, .int A_length, .int A_after, .int A_after, .int A_sort, .int A_number])), (aa1, .inl (cy 1, 200, .inl A_bytes))] H := hP
  have hD : va_D A [(aa0, .inr (5, [.ref aa1, .int A_length, .int A_after, .int A_after, .int A_sort, .int A_number])), (aa1, .inl (cy 1, 200, .inl A_bytes))] := hD
  exact hL8 n A_bytes A_length A_after A_after A_sort A_number hf _ _ hP hD hS _ (lv_sub hl [0] rfl)
set_option maxRecDepth 100000 in
set_option maxHeartbeats 100000000 in
theorem mX5_isName (l : Launch) (D : va_G) (cy : Nat → ClassId) (st sk sv : Nat → Nat) (B : Nat) (aa0 : Nat) (aa1 : Nat) (n : Nat) (A_bytes : (Nat → Int32)) (A_length : Int32) (A_place : Int32) (A_after : Int32) (A_sort : Int32) (A_number : Int32) (j1 : Nat) (hj1 : j1 < 14) (z : Int32) (hf : fX5_isName n (A_bytes, A_length, A_place, A_after, A_sort, A_number) j1 = some z) : Met l yX5_isName wsX5_isName ({ frames := 6, cells := 0, slots := 0, locals := 181 }) (PcR [.ref aa0, .ref (sk j1)] D cy st sk sv B [(aa0, .inr (5, [.ref aa1, .int A_length, .int A_place, .int A_after, .int A_sort, .int A_number])), (aa1, .inl (cy 1, 200, .inl A_bytes))]) (Qr (some (.int z))) 0 0 (fun _ => False) := by
  refine Met.ofW (cc := cX5_isName) (maxL := 3) (ret := (some .boolean)) (by decide) rfl ?_
  intro p e s m args below meth c s₁ Bd hml hv
  obtain ⟨rfl, hP, hG⟩ := hv
  have hx := Bd.exec
  have hb := Bd.bytes
  have hr := Bd.returns
  have hts := atoms_spec (ws := wsX5_isName) Bd.pre
  have hown : s.vm.findClass RX5 = some m.cls := findClass_of_methodNamed Bd.named
  have hlocks := Bd.notSynchronized
  have hK := hG.1
  have hS : va_S (fun q => B ≤ q) s.heap s.heap [] := va_S.rf
  have hAB : ∀ q, (fun q => B ≤ q) q → B ≤ q := fun _ h => h
  have hin5 : ∀ w ∈ u_ws RX5 TX5 6, w ∈ wsX5_isName := by decide +kernel
  have fl9 := hts (.fieldLink RX5 9 "KinCutlery$Tape" "bytes" "[B") (by decide +kernel)
  have fl15 := hts (.fieldLink RX5 15 "KinCutlery$Tape" "after" "I") (by decide +kernel)
  have fl22 := hts (.fieldLink RX5 22 "KinCutlery$Tape" "sort" "I") (by decide +kernel)
  have fl90 := hts (.fieldLink RX5 90 "KinCutlery$Tape" "place" "I") (by decide +kernel)
  have hL28 : ∀ (n0 : Nat) (y2 : Int32), lpF (fX5_isName_F28 n (A_bytes, A_length, A_place, A_after, A_sort, A_number) j1 ) n0 y2 = some z → ∀ (ls : Array Slot), lv_has ls 3 [(0, .ref aa0), (1, .ref (sk j1)), (2, .int y2)] → W p l e (headSpec wsX5_isName ({ frames := 6, cells := 0, slots := 0, locals := 181 })).room s m ([.ref aa0, .ref (sk j1)] : List Value).toArray below meth c s.heap [] 0 0 (MQ below (Qr (some (.int z))) ([.ref aa0, .ref (sk j1)] : List Value).toArray s 0 0 (fun _ => False)) (F0 m 28 ls []) := by
    have key : ∀ (n0 : Nat) (v28 : Int32), lpF (fX5_isName_F28 n (A_bytes, A_length, A_place, A_after, A_sort, A_number) j1 ) n0 v28 = some z → ∀ (ls : Array Slot), lv_has ls 3 [(0, .ref aa0), (1, .ref (sk j1)), (2, .int v28)] → W p l e (headSpec wsX5_isName ({ frames := 6, cells := 0, slots := 0, locals := 181 })).room s m ([.ref aa0, .ref (sk j1)] : List Value).toArray below meth c s.heap [] 0 0 (MQ below (Qr (some (.int z))) ([.ref aa0, .ref (sk j1)] : List Value).toArray s 0 0 (fun _ => False)) (F0 m 28 ls []) := by
      refine lpW ?_
      intro k28 hk280
      have hk28 : ∀ (y2 : Int32), k28 y2 = some z → ∀ (ls : Array Slot), lv_has ls 3 [(0, .ref aa0), (1, .ref (sk j1)), (2, .int y2)] → W p l e (headSpec wsX5_isName ({ frames := 6, cells := 0, slots := 0, locals := 181 })).room s m ([.ref aa0, .ref (sk j1)] : List Value).toArray below meth c s.heap [] 0 0 (MQ below (Qr (some (.int z))) ([.ref aa0, .ref (sk j1)] : List Value).toArray s 0 0 (fun _ => False)) (F0 m 28 ls []) := fun y2 h9 => hk280 y2 h9
      have hstep : ∀ (y2 : Int32), fX5_isName_F28 n (A_bytes, A_length, A_place, A_after, A_sort, A_number) j1  k28 y2 = some z → ∀ (ls : Array Slot), lv_has ls 3 [(0, .ref aa0), (1, .ref (sk j1)), (2, .int y2)] → W p l e (headSpec wsX5_isName ({ frames := 6, cells := 0, slots := 0, locals := 181 })).room s m ([.ref aa0, .ref (sk j1)] : List Value).toArray below meth c s.heap [] 0 0 (MQ below (Qr (some (.int z))) ([.ref aa0, .ref (sk j1)] : List Value).toArray s 0 0 (fun _ => False)) (F0 m 28 ls []) := by
        intro y2 hf ls hl
        have hf : ((fJ0_length_8abf5 n j1).bind fun r30 => if r30 ≤ y2 then (some (1 : Int32)) else (if (A_place + y2) < 0 ∨ 200 ≤ (A_place + y2).toNatClampNeg then none else (fJ0_charAt_5068e n j1 y2).bind fun r49 => if (A_bytes (A_place + y2).toNatClampNeg) = r49 then (k28 (y2 + (1 : Int32))) else (some (0 : Int32)))) = some z := hf
        refine lv_iload_n hx hb dX5_isName_28 rfl (lv_at hl 2 rfl) ?_
        refine lv_aload_n hx hb dX5_isName_29 rfl (lv_at hl 1 rfl) ?_
        obtain ⟨r30, hc30, hf⟩ := zb hf
        refine zvs (o := some (.int r30)) (As := []) (rest := [.int y2]) (stk := [.int r30, .int y2]) ⟨hx, hb, hml, hown, hts⟩ (mJ0_length_8abf5 l D cy st sk sv B  n j1 hj1 r30 hc30) (cwV 0 hts gX5_isName_J0_length_8abf5 rfl rfl rfl (by decide +kernel) ⟨Nat.le_of_ble_eq_true rfl, Nat.le_of_ble_eq_true rfl⟩) hG hS hAB hj1 rfl hl.1 rfl (Nat.le_of_ble_eq_true rfl) dX5_isName_30 rfl ?_
        refine lv_icmp_ge (tgt := 63) hx hb dX5_isName_33 (by decide) (fun c_33 => ?_) (fun c_33 => ?_)
        · have hf := zp hf c_33
          refine lv_iconst (v := (1 : Int32)) hx hb dX5_isName_63 (by decide) ?_
          cases hf
          exact W.zret hx hb hr rfl (fun t ht hW => ⟨rfl, ht⟩) (fun q h => absurd h List.not_mem_nil) dX5_isName_64
        · have hf := zn hf c_33
          refine lv_aload_n hx hb dX5_isName_36 rfl (lv_at hl 0 rfl) ?_
          refine va_get (D := D) (ci := 5) (v := .ref aa1) (C := RX5) (T := TX5) (N := 6) hx hb hts hin5 hown hK hP 0 rfl rfl 0 (by decide) fl9 (fun _ h9 => h9) rfl dX5_isName_37 ?_
          refine lv_aload_n hx hb dX5_isName_40 rfl (lv_at hl 0 rfl) ?_
          refine va_get (D := D) (ci := 5) (v := .int A_place) (C := RX5) (T := TX5) (N := 6) hx hb hts hin5 hown hK hP 0 rfl rfl 2 (by decide) fl90 (fun _ h9 => h9) rfl dX5_isName_41 ?_
          refine lv_iload_n hx hb dX5_isName_44 rfl (lv_at hl 2 rfl) ?_
          refine lv_iadd hx hb dX5_isName_45 ?_
          obtain ⟨h_46, hf⟩ := zg hf
          refine va_bald hx hb hK hP 1 1 rfl rfl h_46 dX5_isName_46 ?_
          refine lv_aload_n hx hb dX5_isName_47 rfl (lv_at hl 1 rfl) ?_
          refine lv_iload_n hx hb dX5_isName_48 rfl (lv_at hl 2 rfl) ?_
          obtain ⟨r49, hc49, hf⟩ := zb hf
          refine zvs (o := some (.int r49)) (As := [.int y2]) (rest := [.int (A_bytes (A_place + y2).toNatClampNeg)]) (stk := [.int r49, .int (A_bytes (A_place + y2).toNatClampNeg)]) ⟨hx, hb, hml, hown, hts⟩ (mJ0_charAt_5068e l D cy st sk sv B  n j1 y2 hj1 r49 hc49) (cwV 1 hts gX5_isName_J0_charAt_5068e rfl rfl rfl (by decide +kernel) ⟨Nat.le_of_ble_eq_true rfl, Nat.le_of_ble_eq_true rfl⟩) hG hS hAB hj1 rfl hl.1 rfl (Nat.le_of_ble_eq_true rfl) dX5_isName_49 rfl ?_
          refine lv_icmp_eq (tgt := 57) hx hb dX5_isName_52 (by decide) (fun c_52 => ?_) (fun c_52 => ?_)
          · have hf := zp hf c_52
            refine lv_iinc (v := (y2 + (1 : Int32))) (lv' := [(2, .int (y2 + (1 : Int32))), (0, .ref aa0), (1, .ref (sk j1))]) hx hb dX5_isName_57 hl (k := 2) rfl rfl (by decide) rfl (fun ls hl => ?_)
            refine lv_goto (tgt := 28) hx hb dX5_isName_60 (by decide) ?_
            exact hk28 (y2 + (1 : Int32)) hf _ (lv_sub hl [1, 2, 0] rfl)
          · have hf := zn hf c_52
            refine lv_iconst (v := (0 : Int32)) hx hb dX5_isName_55 (by decide) ?_
            cases hf
            exact W.zret hx hb hr rfl (fun t ht hW => ⟨rfl, ht⟩) (fun q h => absurd h List.not_mem_nil) dX5_isName_56
      exact fun v28 h9 => hstep v28 h9
    exact fun n0 y2 h9 => key n0 y2 h9
  have hl := lv_entry ([.ref aa0, .ref (sk j1)]) (n := 3) (Nat.le_of_ble_eq_true rfl)
  rw [lg_entry_eq]
  generalize (lg_sl ([.ref aa0, .ref (sk j1)]) ++ List.replicate (3 - (lg_sl ([.ref aa0, .ref (sk j1)])).length) Slot.unset).toArray = ls at hl ⊢
  have hl : lv_has ls 3 [(0, .ref aa0), (1, .ref (sk j1))] := hl
  have hf : (if A_sort = (1 : Int32) then ((fJ0_length_8abf5 n j1).bind fun r18 => if (A_after - A_place) = r18 then (lpF (fX5_isName_F28 n (A_bytes, A_length, A_place, A_after, A_sort, A_number) j1 ) n (0 : Int32)) else (some (0 : Int32))) else (some (0 : Int32))) = some z := hf
  refine lv_aload_n hx hb dX5_isName_0 rfl (lv_at hl 0 rfl) ?_
  refine va_get (D := D) (ci := 5) (v := .int A_sort) (C := RX5) (T := TX5) (N := 6) hx hb hts hin5 hown hK hP 0 rfl rfl 4 (by decide) fl22 (fun _ h9 => h9) rfl dX5_isName_1 ?_
  refine lv_iconst (v := (1 : Int32)) hx hb dX5_isName_4 (by decide) ?_
  refine lv_icmp_ne (tgt := 24) hx hb dX5_isName_5 (by decide) (fun c_5 => ?_) (fun c_5 => ?_)
  · have hf := zn hf c_5
    refine lv_iconst (v := (0 : Int32)) hx hb dX5_isName_24 (by decide) ?_
    cases hf
    exact W.zret hx hb hr rfl (fun t ht hW => ⟨rfl, ht⟩) (fun q h => absurd h List.not_mem_nil) dX5_isName_25
  · have hf := zp hf c_5
    refine lv_aload_n hx hb dX5_isName_8 rfl (lv_at hl 0 rfl) ?_
    refine va_get (D := D) (ci := 5) (v := .int A_after) (C := RX5) (T := TX5) (N := 6) hx hb hts hin5 hown hK hP 0 rfl rfl 3 (by decide) fl15 (fun _ h9 => h9) rfl dX5_isName_9 ?_
    refine lv_aload_n hx hb dX5_isName_12 rfl (lv_at hl 0 rfl) ?_
    refine va_get (D := D) (ci := 5) (v := .int A_place) (C := RX5) (T := TX5) (N := 6) hx hb hts hin5 hown hK hP 0 rfl rfl 2 (by decide) fl90 (fun _ h9 => h9) rfl dX5_isName_13 ?_
    refine lv_isub hx hb dX5_isName_16 ?_
    refine lv_aload_n hx hb dX5_isName_17 rfl (lv_at hl 1 rfl) ?_
    obtain ⟨r18, hc18, hf⟩ := zb hf
    refine zvs (o := some (.int r18)) (As := []) (rest := [.int (A_after - A_place)]) (stk := [.int r18, .int (A_after - A_place)]) ⟨hx, hb, hml, hown, hts⟩ (mJ0_length_8abf5 l D cy st sk sv B  n j1 hj1 r18 hc18) (cwV 0 hts gX5_isName_J0_length_8abf5 rfl rfl rfl (by decide +kernel) ⟨Nat.le_of_ble_eq_true rfl, Nat.le_of_ble_eq_true rfl⟩) hG hS hAB hj1 rfl hl.1 rfl (Nat.le_of_ble_eq_true rfl) dX5_isName_18 rfl ?_
    refine lv_icmp_eq (tgt := 26) hx hb dX5_isName_21 (by decide) (fun c_21 => ?_) (fun c_21 => ?_)
    · have hf := zp hf c_21
      refine lv_iconst (v := (0 : Int32)) hx hb dX5_isName_26 (by decide) ?_
      refine lv_istore_n (lv' := [(2, .int (0 : Int32)), (0, .ref aa0), (1, .ref (sk j1))]) hx hb dX5_isName_27 rfl hl (by decide) rfl (fun ls hl => ?_)
      exact hL28 n (0 : Int32) hf _ (lv_sub hl [1, 2, 0] rfl)
    · have hf := zn hf c_21
      refine lv_iconst (v := (0 : Int32)) hx hb dX5_isName_24 (by decide) ?_
      cases hf
      exact W.zret hx hb hr rfl (fun t ht hW => ⟨rfl, ht⟩) (fun q h => absurd h List.not_mem_nil) dX5_isName_25
