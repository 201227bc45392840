set_option maxRecDepth 100000 in
set_option maxHeartbeats 100000000 in
theorem mX7_least (l : Launch) (D : va_G) (cy : Nat → ClassId) (st sk sv : Nat → Nat) (B : Nat)  (n : Nat)  (x0 : Int32) (x1 : Int32) (z : Int32) (hf : fX7_least n x0 x1 = some z) : Met l yX7_least wsX7_least ({ frames := 0, cells := 0, slots := 0, locals := 0 }) (PcR [.int x0, .int x1] D cy st sk sv B []) (Qr (some (.int z))) 0 0 (fun _ => False) := by
  refine Met.ofW (cc := cX7_least) (maxL := 2) (ret := (some .int)) (by decide) rfl ?_
  intro p e s m args below meth c s₁ Bd hml hv
  obtain ⟨rfl, hP, hG⟩ := hv
  have hx := Bd.exec
  have hb := Bd.bytes
  have hr := Bd.returns
  have hts := atoms_spec (ws := wsX7_least) Bd.pre
  have hown : s.vm.findClass RX7 = some m.cls := findClass_of_methodNamed Bd.named
  have hlocks := Bd.notSynchronized
  have hK := hG.1
  have hS : va_S (fun q => B ≤ q) s.heap s.heap [] := va_S.rf
  have hAB : ∀ q, (fun q => B ≤ q) q → B ≤ q := fun _ h => h
  have hl := lv_entry ([.int x0, .int x1]) (n := 2) (Nat.le_of_ble_eq_true rfl)
  rw [lg_entry_eq]
  generalize (lg_sl ([.int x0, .int x1]) ++ List.replicate (2 - (lg_sl ([.int x0, .int x1])).length) Slot.unset).toArray = ls at hl ⊢
  have hl : lv_has ls 2 [(0, .int x0), (1, .int x1)] := hl
  have hf : (if x1 ≤ x0 then (some x1) else (some x0)) = some z := hf
  refine lv_iload_n hx hb dX7_least_0 rfl (lv_at hl 0 rfl) ?_
  refine lv_iload_n hx hb dX7_least_1 rfl (lv_at hl 1 rfl) ?_
  refine lv_icmp_ge (tgt := 9) hx hb dX7_least_2 (by decide) (fun c_2 => ?_) (fun c_2 => ?_)
  · have hf := zp hf c_2
    refine lv_iload_n hx hb dX7_least_9 rfl (lv_at hl 1 rfl) ?_
    cases hf
    exact W.iret hx hb hr (fun t ht hW => ⟨rfl, ht⟩) (fun q h => absurd h List.not_mem_nil) dX7_least_10
  · have hf := zn hf c_2
    refine lv_iload_n hx hb dX7_least_5 rfl (lv_at hl 0 rfl) ?_
    refine lv_goto (tgt := 10) hx hb dX7_least_6 (by decide) ?_
    cases hf
    exact W.iret hx hb hr (fun t ht hW => ⟨rfl, ht⟩) (fun q h => absurd h List.not_mem_nil) dX7_least_10
set_option maxRecDepth 100000 in
set_option maxHeartbeats 100000000 in
theorem mX7_greatest (l : Launch) (D : va_G) (cy : Nat → ClassId) (st sk sv : Nat → Nat) (B : Nat)  (n : Nat)  (x0 : Int32) (x1 : Int32) (z : Int32) (hf : fX7_greatest n x0 x1 = some z) : Met l yX7_greatest wsX7_greatest ({ frames := 0, cells := 0, slots := 0, locals := 0 }) (PcR [.int x0, .int x1] D cy st sk sv B []) (Qr (some (.int z))) 0 0 (fun _ => False) := by
  refine Met.ofW (cc := cX7_greatest) (maxL := 2) (ret := (some .int)) (by decide) rfl ?_
  intro p e s m args below meth c s₁ Bd hml hv
  obtain ⟨rfl, hP, hG⟩ := hv
  have hx := Bd.exec
  have hb := Bd.bytes
  have hr := Bd.returns
  have hts := atoms_spec (ws := wsX7_greatest) Bd.pre
  have hown : s.vm.findClass RX7 = some m.cls := findClass_of_methodNamed Bd.named
  have hlocks := Bd.notSynchronized
  have hK := hG.1
  have hS : va_S (fun q => B ≤ q) s.heap s.heap [] := va_S.rf
  have hAB : ∀ q, (fun q => B ≤ q) q → B ≤ q := fun _ h => h
  have hl := lv_entry ([.int x0, .int x1]) (n := 2) (Nat.le_of_ble_eq_true rfl)
  rw [lg_entry_eq]
  generalize (lg_sl ([.int x0, .int x1]) ++ List.replicate (2 - (lg_sl ([.int x0, .int x1])).length) Slot.unset).toArray = ls at hl ⊢
  have hl : lv_has ls 2 [(0, .int x0), (1, .int x1)] := hl
  have hf : (if x0 ≤ x1 then (some x1) else (some x0)) = some z := hf
  refine lv_iload_n hx hb dX7_greatest_0 rfl (lv_at hl 0 rfl) ?_
  refine lv_iload_n hx hb dX7_greatest_1 rfl (lv_at hl 1 rfl) ?_
  refine lv_icmp_le (tgt := 9) hx hb dX7_greatest_2 (by decide) (fun c_2 => ?_) (fun c_2 => ?_)
  · have hf := zp hf c_2
    refine lv_iload_n hx hb dX7_greatest_9 rfl (lv_at hl 1 rfl) ?_
    cases hf
    exact W.iret hx hb hr (fun t ht hW => ⟨rfl, ht⟩) (fun q h => absurd h List.not_mem_nil) dX7_greatest_10
  · have hf := zn hf c_2
    refine lv_iload_n hx hb dX7_greatest_5 rfl (lv_at hl 0 rfl) ?_
    refine lv_goto (tgt := 10) hx hb dX7_greatest_6 (by decide) ?_
    cases hf
    exact W.iret hx hb hr (fun t ht hW => ⟨rfl, ht⟩) (fun q h => absurd h List.not_mem_nil) dX7_greatest_10
set_option maxRecDepth 100000 in
set_option maxHeartbeats 100000000 in
theorem mX7_within (l : Launch) (D : va_G) (cy : Nat → ClassId) (st sk sv : Nat → Nat) (B : Nat)  (n : Nat)  (x0 : Int32) (z : Int32) (hf : fX7_within n x0 = some z) : Met l yX7_within wsX7_within ({ frames := 0, cells := 0, slots := 0, locals := 0 }) (PcR [.int x0] D cy st sk sv B []) (Qr (some (.int z))) 0 0 (fun _ => False) := by
  refine Met.ofW (cc := cX7_within) (maxL := 1) (ret := (some .int)) (by decide) rfl ?_
  intro p e s m args below meth c s₁ Bd hml hv
  obtain ⟨rfl, hP, hG⟩ := hv
  have hx := Bd.exec
  have hb := Bd.bytes
  have hr := Bd.returns
  have hts := atoms_spec (ws := wsX7_within) Bd.pre
  have hown : s.vm.findClass RX7 = some m.cls := findClass_of_methodNamed Bd.named
  have hlocks := Bd.notSynchronized
  have hK := hG.1
  have hS : va_S (fun q => B ≤ q) s.heap s.heap [] := va_S.rf
  have hAB : ∀ q, (fun q => B ≤ q) q → B ≤ q := fun _ h => h
  have hl := lv_entry ([.int x0]) (n := 1) (Nat.le_of_ble_eq_true rfl)
  rw [lg_entry_eq]
  generalize (lg_sl ([.int x0]) ++ List.replicate (1 - (lg_sl ([.int x0])).length) Slot.unset).toArray = ls at hl ⊢
  have hl : lv_has ls 1 [(0, .int x0)] := hl
  have hf : (if 0 ≤ x0 then (if x0 ≤ (99 : Int32) then (some x0) else (some (99 : Int32))) else (some (0 : Int32))) = some z := hf
  refine lv_iload_n hx hb dX7_within_0 rfl (lv_at hl 0 rfl) ?_
  refine lv_if_ge (tgt := 8) hx hb dX7_within_1 (by decide) (fun c_1 => ?_) (fun c_1 => ?_)
  · have hf := zp hf c_1
    refine lv_iload_n hx hb dX7_within_8 rfl (lv_at hl 0 rfl) ?_
    refine lv_bipush (v := (99 : Int32)) hx hb dX7_within_9 (by decide) ?_
    refine lv_icmp_le (tgt := 19) hx hb dX7_within_11 (by decide) (fun c_11 => ?_) (fun c_11 => ?_)
    · have hf := zp hf c_11
      refine lv_iload_n hx hb dX7_within_19 rfl (lv_at hl 0 rfl) ?_
      cases hf
      exact W.iret hx hb hr (fun t ht hW => ⟨rfl, ht⟩) (fun q h => absurd h List.not_mem_nil) dX7_within_20
    · have hf := zn hf c_11
      refine lv_bipush (v := (99 : Int32)) hx hb dX7_within_14 (by decide) ?_
      refine lv_goto (tgt := 20) hx hb dX7_within_16 (by decide) ?_
      cases hf
      exact W.iret hx hb hr (fun t ht hW => ⟨rfl, ht⟩) (fun q h => absurd h List.not_mem_nil) dX7_within_20
  · have hf := zn hf c_1
    refine lv_iconst (v := (0 : Int32)) hx hb dX7_within_4 (by decide) ?_
    refine lv_goto (tgt := 20) hx hb dX7_within_5 (by decide) ?_
    cases hf
    exact W.iret hx hb hr (fun t ht hW => ⟨rfl, ht⟩) (fun q h => absurd h List.not_mem_nil) dX7_within_20
set_option maxRecDepth 100000 in
set_option maxHeartbeats 100000000 in
theorem mX7_size (l : Launch) (D : va_G) (cy : Nat → ClassId) (st sk sv : Nat → Nat) (B : Nat)  (n : Nat)  (x0 : Int32) (z : Int32) (hf : fX7_size n x0 = some z) : Met l yX7_size wsX7_size ({ frames := 0, cells := 0, slots := 0, locals := 0 }) (PcR [.int x0] D cy st sk sv B []) (Qr (some (.int z))) 0 0 (fun _ => False) := by
  refine Met.ofW (cc := cX7_size) (maxL := 3) (ret := (some .int)) (by decide) rfl ?_
  intro p e s m args below meth c s₁ Bd hml hv
  obtain ⟨rfl, hP, hG⟩ := hv
  have hx := Bd.exec
  have hb := Bd.bytes
  have hr := Bd.returns
  have hts := atoms_spec (ws := wsX7_size) Bd.pre
  have hown : s.vm.findClass RX7 = some m.cls := findClass_of_methodNamed Bd.named
  have hlocks := Bd.notSynchronized
  have hK := hG.1
  have hS : va_S (fun q => B ≤ q) s.heap s.heap [] := va_S.rf
  have hAB : ∀ q, (fun q => B ≤ q) q → B ≤ q := fun _ h => h
  have hL4 : ∀ (n0 : Nat) (y1 : Int32) (y2 : Int32), lpF (fX7_size_F4 n x0 ) n0 (y1, y2) = some z → ∀ (ls : Array Slot), lv_has ls 3 [(0, .int x0), (1, .int y1), (2, .int y2)] → W p l e (headSpec wsX7_size ({ frames := 0, cells := 0, slots := 0, locals := 0 })).room s m ([.int x0] : List Value).toArray below meth c s.heap [] 0 0 (MQ below (Qr (some (.int z))) ([.int x0] : List Value).toArray s 0 0 (fun _ => False)) (F0 m 4 ls []) := by
    have key : ∀ (n0 : Nat) (v4 : Int32 × Int32), lpF (fX7_size_F4 n x0 ) n0 v4 = some z → ∀ (ls : Array Slot), lv_has ls 3 [(0, .int x0), (1, .int v4.1), (2, .int v4.2)] → W p l e (headSpec wsX7_size ({ frames := 0, cells := 0, slots := 0, locals := 0 })).room s m ([.int x0] : List Value).toArray below meth c s.heap [] 0 0 (MQ below (Qr (some (.int z))) ([.int x0] : List Value).toArray s 0 0 (fun _ => False)) (F0 m 4 ls []) := by
      refine lpW ?_
      intro k4 hk40
      have hk4 : ∀ (y1 : Int32) (y2 : Int32), k4 (y1, y2) = some z → ∀ (ls : Array Slot), lv_has ls 3 [(0, .int x0), (1, .int y1), (2, .int y2)] → W p l e (headSpec wsX7_size ({ frames := 0, cells := 0, slots := 0, locals := 0 })).room s m ([.int x0] : List Value).toArray below meth c s.heap [] 0 0 (MQ below (Qr (some (.int z))) ([.int x0] : List Value).toArray s 0 0 (fun _ => False)) (F0 m 4 ls []) := fun y1 y2 h9 => hk40 (y1, y2) h9
      have hstep : ∀ (y1 : Int32) (y2 : Int32), fX7_size_F4 n x0  k4 (y1, y2) = some z → ∀ (ls : Array Slot), lv_has ls 3 [(0, .int x0), (1, .int y1), (2, .int y2)] → W p l e (headSpec wsX7_size ({ frames := 0, cells := 0, slots := 0, locals := 0 })).room s m ([.int x0] : List Value).toArray below meth c s.heap [] 0 0 (MQ below (Qr (some (.int z))) ([.int x0] : List Value).toArray s 0 0 (fun _ => False)) (F0 m 4 ls []) := by
        intro y1 y2 hf ls hl
        have hf : (if y2 = 0 then (some y1) else (k4 ((y1 + (1 : Int32)), (y2 &&& (y2 - (1 : Int32)))))) = some z := hf
        refine lv_iload_n hx hb dX7_size_4 rfl (lv_at hl 2 rfl) ?_
        refine lv_if_eq (tgt := 20) hx hb dX7_size_5 (by decide) (fun c_5 => ?_) (fun c_5 => ?_)
        · have hf := zp hf c_5
          refine lv_iload_n hx hb dX7_size_20 rfl (lv_at hl 1 rfl) ?_
          cases hf
          exact W.iret hx hb hr (fun t ht hW => ⟨rfl, ht⟩) (fun q h => absurd h List.not_mem_nil) dX7_size_21
        · have hf := zn hf c_5
          refine lv_iinc (v := (y1 + (1 : Int32))) (lv' := [(1, .int (y1 + (1 : Int32))), (0, .int x0), (2, .int y2)]) hx hb dX7_size_8 hl (k := 1) rfl rfl (by decide) rfl (fun ls hl => ?_)
          refine lv_iload_n hx hb dX7_size_11 rfl (lv_at hl 2 rfl) ?_
          refine lv_iload_n hx hb dX7_size_12 rfl (lv_at hl 2 rfl) ?_
          refine lv_iconst (v := (1 : Int32)) hx hb dX7_size_13 (by decide) ?_
          refine lv_isub hx hb dX7_size_14 ?_
          refine lv_iand hx hb dX7_size_15 ?_
          refine lv_istore_n (lv' := [(2, .int (y2 &&& (y2 - (1 : Int32)))), (1, .int (y1 + (1 : Int32))), (0, .int x0)]) hx hb dX7_size_16 rfl hl (by decide) rfl (fun ls hl => ?_)
          refine lv_goto (tgt := 4) hx hb dX7_size_17 (by decide) ?_
          exact hk4 (y1 + (1 : Int32)) (y2 &&& (y2 - (1 : Int32))) hf _ (lv_sub hl [2, 1, 0] rfl)
      exact fun v4 h9 => hstep v4.1 v4.2 h9
    exact fun n0 y1 y2 h9 => key n0 (y1, y2) h9
  have hl := lv_entry ([.int x0]) (n := 3) (Nat.le_of_ble_eq_true rfl)
  rw [lg_entry_eq]
  generalize (lg_sl ([.int x0]) ++ List.replicate (3 - (lg_sl ([.int x0])).length) Slot.unset).toArray = ls at hl ⊢
  have hl : lv_has ls 3 [(0, .int x0)] := hl
  have hf : (lpF (fX7_size_F4 n x0 ) n ((0 : Int32), x0)) = some z := hf
  refine lv_iconst (v := (0 : Int32)) hx hb dX7_size_0 (by decide) ?_
  refine lv_istore_n (lv' := [(1, .int (0 : Int32)), (0, .int x0)]) hx hb dX7_size_1 rfl hl (by decide) rfl (fun ls hl => ?_)
  refine lv_iload_n hx hb dX7_size_2 rfl (lv_at hl 1 rfl) ?_
  refine lv_istore_n (lv' := [(2, .int x0), (1, .int (0 : Int32)), (0, .int x0)]) hx hb dX7_size_3 rfl hl (by decide) rfl (fun ls hl => ?_)
  exact hL4 n (0 : Int32) x0 hf _ (lv_sub hl [2, 1, 0] rfl)
set_option maxRecDepth 100000 in
set_option maxHeartbeats 100000000 in
theorem mX7_isUnder (l : Launch) (D : va_G) (cy : Nat → ClassId) (st sk sv : Nat → Nat) (B : Nat)  (n : Nat)  (x0 : Int32) (x1 : Int32) (z : Int32) (hf : fX7_isUnder n x0 x1 = some z) : Met l yX7_isUnder wsX7_isUnder ({ frames := 0, cells := 0, slots := 0, locals := 0 }) (PcR [.int x0, .int x1] D cy st sk sv B []) (Qr (some (.int z))) 0 0 (fun _ => False) := by
  refine Met.ofW (cc := cX7_isUnder) (maxL := 2) (ret := (some .boolean)) (by decide) rfl ?_
  intro p e s m args below meth c s₁ Bd hml hv
  obtain ⟨rfl, hP, hG⟩ := hv
  have hx := Bd.exec
  have hb := Bd.bytes
  have hr := Bd.returns
  have hts := atoms_spec (ws := wsX7_isUnder) Bd.pre
  have hown : s.vm.findClass RX7 = some m.cls := findClass_of_methodNamed Bd.named
  have hlocks := Bd.notSynchronized
  have hK := hG.1
  have hS : va_S (fun q => B ≤ q) s.heap s.heap [] := va_S.rf
  have hAB : ∀ q, (fun q => B ≤ q) q → B ≤ q := fun _ h => h
  have hB19 : fX7_isUnder_b19 n x0 x1   = some z → ∀ (ls : Array Slot), lv_has ls 2 [(0, .int x0), (1, .int x1)] → W p l e (headSpec wsX7_isUnder ({ frames := 0, cells := 0, slots := 0, locals := 0 })).room s m ([.int x0, .int x1] : List Value).toArray below meth c s.heap [] 0 0 (MQ below (Qr (some (.int z))) ([.int x0, .int x1] : List Value).toArray s 0 0 (fun _ => False)) (F0 m 19 ls []) := by
    intro  hf ls hl
    have hf : (if x1 = (2 : Int32) then (if x0 = (4 : Int32) then (some (1 : Int32)) else (some (0 : Int32))) else (some (0 : Int32))) = some z := hf
    refine lv_iload_n hx hb dX7_isUnder_19 rfl (lv_at hl 1 rfl) ?_
    refine lv_iconst (v := (2 : Int32)) hx hb dX7_isUnder_20 (by decide) ?_
    refine lv_icmp_ne (tgt := 33) hx hb dX7_isUnder_21 (by decide) (fun c_21 => ?_) (fun c_21 => ?_)
    · have hf := zn hf c_21
      refine lv_iconst (v := (0 : Int32)) hx hb dX7_isUnder_33 (by decide) ?_
      cases hf
      exact W.zret hx hb hr rfl (fun t ht hW => ⟨rfl, ht⟩) (fun q h => absurd h List.not_mem_nil) dX7_isUnder_34
    · have hf := zp hf c_21
      refine lv_iload_n hx hb dX7_isUnder_24 rfl (lv_at hl 0 rfl) ?_
      refine lv_iconst (v := (4 : Int32)) hx hb dX7_isUnder_25 (by decide) ?_
      refine lv_icmp_ne (tgt := 33) hx hb dX7_isUnder_26 (by decide) (fun c_26 => ?_) (fun c_26 => ?_)
      · have hf := zn hf c_26
        refine lv_iconst (v := (0 : Int32)) hx hb dX7_isUnder_33 (by decide) ?_
        cases hf
        exact W.zret hx hb hr rfl (fun t ht hW => ⟨rfl, ht⟩) (fun q h => absurd h List.not_mem_nil) dX7_isUnder_34
      · have hf := zp hf c_26
        refine lv_iconst (v := (1 : Int32)) hx hb dX7_isUnder_29 (by decide) ?_
        refine lv_goto (tgt := 34) hx hb dX7_isUnder_30 (by decide) ?_
        cases hf
        exact W.zret hx hb hr rfl (fun t ht hW => ⟨rfl, ht⟩) (fun q h => absurd h List.not_mem_nil) dX7_isUnder_34
  have hl := lv_entry ([.int x0, .int x1]) (n := 2) (Nat.le_of_ble_eq_true rfl)
  rw [lg_entry_eq]
  generalize (lg_sl ([.int x0, .int x1]) ++ List.replicate (2 - (lg_sl ([.int x0, .int x1])).length) Slot.unset).toArray = ls at hl ⊢
  have hl : lv_has ls 2 [(0, .int x0), (1, .int x1)] := hl
  have hf : (if x1 = 0 then (some (1 : Int32)) else (if x0 = x1 then (some (1 : Int32)) else (if x1 = (1 : Int32) then (if x0 = (3 : Int32) then (some (1 : Int32)) else (fX7_isUnder_b19 n x0 x1  )) else (fX7_isUnder_b19 n x0 x1  )))) = some z := hf
  refine lv_iload_n hx hb dX7_isUnder_0 rfl (lv_at hl 1 rfl) ?_
  refine lv_if_eq (tgt := 29) hx hb dX7_isUnder_1 (by decide) (fun c_1 => ?_) (fun c_1 => ?_)
  · have hf := zp hf c_1
    refine lv_iconst (v := (1 : Int32)) hx hb dX7_isUnder_29 (by decide) ?_
    refine lv_goto (tgt := 34) hx hb dX7_isUnder_30 (by decide) ?_
    cases hf
    exact W.zret hx hb hr rfl (fun t ht hW => ⟨rfl, ht⟩) (fun q h => absurd h List.not_mem_nil) dX7_isUnder_34
  · have hf := zn hf c_1
    refine lv_iload_n hx hb dX7_isUnder_4 rfl (lv_at hl 0 rfl) ?_
    refine lv_iload_n hx hb dX7_isUnder_5 rfl (lv_at hl 1 rfl) ?_
    refine lv_icmp_eq (tgt := 29) hx hb dX7_isUnder_6 (by decide) (fun c_6 => ?_) (fun c_6 => ?_)
    · have hf := zp hf c_6
      refine lv_iconst (v := (1 : Int32)) hx hb dX7_isUnder_29 (by decide) ?_
      refine lv_goto (tgt := 34) hx hb dX7_isUnder_30 (by decide) ?_
      cases hf
      exact W.zret hx hb hr rfl (fun t ht hW => ⟨rfl, ht⟩) (fun q h => absurd h List.not_mem_nil) dX7_isUnder_34
    · have hf := zn hf c_6
      refine lv_iload_n hx hb dX7_isUnder_9 rfl (lv_at hl 1 rfl) ?_
      refine lv_iconst (v := (1 : Int32)) hx hb dX7_isUnder_10 (by decide) ?_
      refine lv_icmp_ne (tgt := 19) hx hb dX7_isUnder_11 (by decide) (fun c_11 => ?_) (fun c_11 => ?_)
      · have hf := zn hf c_11
        exact hB19  hf _ (lv_sub hl [0, 1] rfl)
      · have hf := zp hf c_11
        refine lv_iload_n hx hb dX7_isUnder_14 rfl (lv_at hl 0 rfl) ?_
        refine lv_iconst (v := (3 : Int32)) hx hb dX7_isUnder_15 (by decide) ?_
        refine lv_icmp_eq (tgt := 29) hx hb dX7_isUnder_16 (by decide) (fun c_16 => ?_) (fun c_16 => ?_)
        · have hf := zp hf c_16
          refine lv_iconst (v := (1 : Int32)) hx hb dX7_isUnder_29 (by decide) ?_
          refine lv_goto (tgt := 34) hx hb dX7_isUnder_30 (by decide) ?_
          cases hf
          exact W.zret hx hb hr rfl (fun t ht hW => ⟨rfl, ht⟩) (fun q h => absurd h List.not_mem_nil) dX7_isUnder_34
        · have hf := zn hf c_16
          exact hB19  hf _ (lv_sub hl [0, 1] rfl)
set_option maxRecDepth 100000 in
set_option maxHeartbeats 100000000 in
theorem mX7_feed (l : Launch) (D : va_G) (cy : Nat → ClassId) (st sk sv : Nat → Nat) (B : Nat) (am : Nat) (am0 : Nat) (am1 : Nat) (am2 : Nat) (am3 : Nat) (am4 : Nat) (am5 : Nat) (am6 : Nat) (am7 : Nat) (am8 : Nat) (am9 : Nat) (am10 : Nat) (am11 : Nat) (am12 : Nat) (sz : Nat) (n : Nat) (M_isHeld : Int32) (M_taped : Int32) (M_token : Int32) (M_from : Int32) (M_to : Int32) (M_value : Int32) (M_isWrong : Int32) (M_rowN : Int32) (M_ran : Int32) (M_actKind : Int32) (M_actN : Int32) (M_actA : Int32) (M_isParted : Int32) (u_tape : (Nat → Int32)) (x1 : Int64) (x3 : Int32) (z : Int32 × MO × (Nat → Int32)) (hf : fX7_feed n (M_isHeld, M_taped, M_token, M_from, M_to, M_value, M_isWrong, M_rowN, M_ran, M_actKind, M_actN, M_actA, M_isParted) u_tape x1 x3 = some z) : Met l yX7_feed wsX7_feed ({ frames := 1, cells := 0, slots := 0, locals := 25 }) (PcW [.ref am, .long x1, .int x3] D cy st sk sv B sz [(am, .inr (7, [.ref am0, .ref am1, .ref am2, .ref am3, .int M_isHeld, .ref am4, .int M_taped, .int M_token, .int M_from, .int M_to, .int M_value, .int M_isWrong, .ref am5, .int M_rowN, .ref am6, .ref am7, .ref am8, .ref am9, .ref am10, .ref am11, .ref am12, .int M_ran, .int M_actKind, .int M_actN, .int M_actA, .int M_isParted])), (am4, .inl (cy 0, 200, .inl u_tape))]) (Qw (some (.int z.1)) D [(am, .inr (7, [.ref am0, .ref am1, .ref am2, .ref am3, .int z.2.1.1, .ref am4, .int z.2.1.2.1, .int z.2.1.2.2.1, .int z.2.1.2.2.2.1, .int z.2.1.2.2.2.2.1, .int z.2.1.2.2.2.2.2.1, .int z.2.1.2.2.2.2.2.2.1, .ref am5, .int z.2.1.2.2.2.2.2.2.2.1, .ref am6, .ref am7, .ref am8, .ref am9, .ref am10, .ref am11, .ref am12, .int z.2.1.2.2.2.2.2.2.2.2.1, .int z.2.1.2.2.2.2.2.2.2.2.2.1, .int z.2.1.2.2.2.2.2.2.2.2.2.2.1, .int z.2.1.2.2.2.2.2.2.2.2.2.2.2.1, .int z.2.1.2.2.2.2.2.2.2.2.2.2.2.2])), (am4, .inl (cy 0, 200, .inl z.2.2))] (va_A [(am, .inr (7, [.ref am0, .ref am1, .ref am2, .ref am3, .int M_isHeld, .ref am4, .int M_taped, .int M_token, .int M_from, .int M_to, .int M_value, .int M_isWrong, .ref am5, .int M_rowN, .ref am6, .ref am7, .ref am8, .ref am9, .ref am10, .ref am11, .ref am12, .int M_ran, .int M_actKind, .int M_actN, .int M_actA, .int M_isParted])), (am4, .inl (cy 0, 200, .inl u_tape))] sz)) 0 0 (va_A [(am, .inr (7, [.ref am0, .ref am1, .ref am2, .ref am3, .int M_isHeld, .ref am4, .int M_taped, .int M_token, .int M_from, .int M_to, .int M_value, .int M_isWrong, .ref am5, .int M_rowN, .ref am6, .ref am7, .ref am8, .ref am9, .ref am10, .ref am11, .ref am12, .int M_ran, .int M_actKind, .int M_actN, .int M_actA, .int M_isParted])), (am4, .inl (cy 0, 200, .inl u_tape))] sz) := by
  refine Met.ofW (cc := cX7_feed) (maxL := 5) (ret := (some .int)) (by decide) rfl ?_
  intro p e s m args below meth c s₁ Bd hml hv
  obtain ⟨rfl, hsz, hP, hD0, hBs, hG⟩ := hv
  have hx := Bd.exec
  have hb := Bd.bytes
  have hr := Bd.returns
  have hts := atoms_spec (ws := wsX7_feed) Bd.pre
  have hown : s.vm.findClass RX7 = some m.cls := findClass_of_methodNamed Bd.named
  have hlocks := Bd.notSynchronized
  have hK := hG.1
  subst hsz
  have hD := hD0.self (sz := s.heap.size)
  have hAB0 := zA hD0 hBs
  generalize hAe : va_A [(am, .inr (7, [.ref am0, .ref am1, .ref am2, .ref am3, .int M_isHeld, .ref am4, .int M_taped, .int M_token, .int M_from, .int M_to, .int M_value, .int M_isWrong, .ref am5, .int M_rowN, .ref am6, .ref am7, .ref am8, .ref am9, .ref am10, .ref am11, .ref am12, .int M_ran, .int M_actKind, .int M_actN, .int M_actA, .int M_isParted])), (am4, .inl (cy 0, 200, .inl u_tape))] s.heap.size = A at hD hAB0 ⊢
  have hA : ∀ q : Nat, s.heap.size ≤ q → A q := fun q h => by rw [← hAe]; exact Or.inr h
  have hAB : ∀ q, A q → B ≤ q := hAB0
  have hS : va_S A s.heap s.heap [] := va_S.rf
  have hfin : ∀ (z0 : Int32) (M_isHeld : Int32) (M_taped : Int32) (M_token : Int32) (M_from : Int32) (M_to : Int32) (M_value : Int32) (M_isWrong : Int32) (M_rowN : Int32) (M_ran : Int32) (M_actKind : Int32) (M_actN : Int32) (M_actA : Int32) (M_isParted : Int32) (u_tape : (Nat → Int32)), some (z0, (M_isHeld, M_taped, M_token, M_from, M_to, M_value, M_isWrong, M_rowN, M_ran, M_actKind, M_actN, M_actA, M_isParted), u_tape) = some z → ∀ (H : Heap) (t : State), t.heap = H → va_P D vwCl [(am, .inr (7, [.ref am0, .ref am1, .ref am2, .ref am3, .int M_isHeld, .ref am4, .int M_taped, .int M_token, .int M_from, .int M_to, .int M_value, .int M_isWrong, .ref am5, .int M_rowN, .ref am6, .ref am7, .ref am8, .ref am9, .ref am10, .ref am11, .ref am12, .int M_ran, .int M_actKind, .int M_actN, .int M_actA, .int M_isParted])), (am4, .inl (cy 0, 200, .inl u_tape))] H → va_F A s t → Qw (some (.int z.1)) D [(am, .inr (7, [.ref am0, .ref am1, .ref am2, .ref am3, .int z.2.1.1, .ref am4, .int z.2.1.2.1, .int z.2.1.2.2.1, .int z.2.1.2.2.2.1, .int z.2.1.2.2.2.2.1, .int z.2.1.2.2.2.2.2.1, .int z.2.1.2.2.2.2.2.2.1, .ref am5, .int z.2.1.2.2.2.2.2.2.2.1, .ref am6, .ref am7, .ref am8, .ref am9, .ref am10, .ref am11, .ref am12, .int z.2.1.2.2.2.2.2.2.2.2.1, .int z.2.1.2.2.2.2.2.2.2.2.2.1, .int z.2.1.2.2.2.2.2.2.2.2.2.2.1, .int z.2.1.2.2.2.2.2.2.2.2.2.2.2.1, .int z.2.1.2.2.2.2.2.2.2.2.2.2.2.2])), (am4, .inl (cy 0, 200, .inl z.2.2))] A ([.ref am, .long x1, .int x3] : List Value).toArray s (.returned (some (.int z0))) t := by
    intro z0 M_isHeld M_taped M_token M_from M_to M_value M_isWrong M_rowN M_ran M_actKind M_actN M_actA M_isParted u_tape h9 H t ht hP hF
    cases h9
    exact ⟨rfl, by rw [ht]; exact hP, hF⟩
  have hin7 : ∀ w ∈ u_ws RX7 TX7 26, w ∈ wsX7_feed := by decide +kernel
  have fl22 := hts (.fieldLink RX7 22 "KinCutleryModel" "tape" "[I") (by decide +kernel)
  have fl58 := hts (.fieldLink RX7 58 "KinCutleryModel" "taped" "I") (by decide +kernel)
  have hL32 : ∀ (n0 : Nat) (M_isHeld : Int32) (M_taped : Int32) (M_token : Int32) (M_from : Int32) (M_to : Int32) (M_value : Int32) (M_isWrong : Int32) (M_rowN : Int32) (M_ran : Int32) (M_actKind : Int32) (M_actN : Int32) (M_actA : Int32) (M_isParted : Int32) (u_tape : (Nat → Int32)) (y4 : Int32), lpF (fX7_feed_F32 n x1 x3 ) n0 ((M_isHeld, M_taped, M_token, M_from, M_to, M_value, M_isWrong, M_rowN, M_ran, M_actKind, M_actN, M_actA, M_isParted), u_tape, y4) = some z → ∀ (H : Heap) (locs : List Loc), va_P D vwCl [(am, .inr (7, [.ref am0, .ref am1, .ref am2, .ref am3, .int M_isHeld, .ref am4, .int M_taped, .int M_token, .int M_from, .int M_to, .int M_value, .int M_isWrong, .ref am5, .int M_rowN, .ref am6, .ref am7, .ref am8, .ref am9, .ref am10, .ref am11, .ref am12, .int M_ran, .int M_actKind, .int M_actN, .int M_actA, .int M_isParted])), (am4, .inl (cy 0, 200, .inl u_tape))] H → va_D A [(am, .inr (7, [.ref am0, .ref am1, .ref am2, .ref am3, .int M_isHeld, .ref am4, .int M_taped, .int M_token, .int M_from, .int M_to, .int M_value, .int M_isWrong, .ref am5, .int M_rowN, .ref am6, .ref am7, .ref am8, .ref am9, .ref am10, .ref am11, .ref am12, .int M_ran, .int M_actKind, .int M_actN, .int M_actA, .int M_isParted])), (am4, .inl (cy 0, 200, .inl u_tape))] → va_S A s.heap H locs → ∀ (ls : Array Slot), lv_has ls 5 [(0, .ref am), (1, .long x1), (3, .int x3), (4, .int y4)] → W p l e (headSpec wsX7_feed ({ frames := 1, cells := 0, slots := 0, locals := 25 })).room s m ([.ref am, .long x1, .int x3] : List Value).toArray below meth c H locs 0 0 (MQ below (Qw (some (.int z.1)) D [(am, .inr (7, [.ref am0, .ref am1, .ref am2, .ref am3, .int z.2.1.1, .ref am4, .int z.2.1.2.1, .int z.2.1.2.2.1, .int z.2.1.2.2.2.1, .int z.2.1.2.2.2.2.1, .int z.2.1.2.2.2.2.2.1, .int z.2.1.2.2.2.2.2.2.1, .ref am5, .int z.2.1.2.2.2.2.2.2.2.1, .ref am6, .ref am7, .ref am8, .ref am9, .ref am10, .ref am11, .ref am12, .int z.2.1.2.2.2.2.2.2.2.2.1, .int z.2.1.2.2.2.2.2.2.2.2.2.1, .int z.2.1.2.2.2.2.2.2.2.2.2.2.1, .int z.2.1.2.2.2.2.2.2.2.2.2.2.2.1, .int z.2.1.2.2.2.2.2.2.2.2.2.2.2.2])), (am4, .inl (cy 0, 200, .inl z.2.2))] A) ([.ref am, .long x1, .int x3] : List Value).toArray s 0 0 A) (F0 m 32 ls []) := by
    have key : ∀ (n0 : Nat) (v32 : MO × (Nat → Int32) × Int32), lpF (fX7_feed_F32 n x1 x3 ) n0 v32 = some z → ∀ (H : Heap) (locs : List Loc), va_P D vwCl [(am, .inr (7, [.ref am0, .ref am1, .ref am2, .ref am3, .int v32.1.1, .ref am4, .int v32.1.2.1, .int v32.1.2.2.1, .int v32.1.2.2.2.1, .int v32.1.2.2.2.2.1, .int v32.1.2.2.2.2.2.1, .int v32.1.2.2.2.2.2.2.1, .ref am5, .int v32.1.2.2.2.2.2.2.2.1, .ref am6, .ref am7, .ref am8, .ref am9, .ref am10, .ref am11, .ref am12, .int v32.1.2.2.2.2.2.2.2.2.1, .int v32.1.2.2.2.2.2.2.2.2.2.1, .int v32.1.2.2.2.2.2.2.2.2.2.2.1, .int v32.1.2.2.2.2.2.2.2.2.2.2.2.1, .int v32.1.2.2.2.2.2.2.2.2.2.2.2.2])), (am4, .inl (cy 0, 200, .inl v32.2.1))] H → va_D A [(am, .inr (7, [.ref am0, .ref am1, .ref am2, .ref am3, .int v32.1.1, .ref am4, .int v32.1.2.1, .int v32.1.2.2.1, .int v32.1.2.2.2.1, .int v32.1.2.2.2.2.1, .int v32.1.2.2.2.2.2.1, .int v32.1.2.2.2.2.2.2.1, .ref am5, .int v32.1.2.2.2.2.2.2.2.1, .ref am6, .ref am7, .ref am8, .ref am9, .ref am10, .ref am11, .ref am12, .int v32.1.2.2.2.2.2.2.2.2.1, .int v32.1.2.2.2.2.2.2.2.2.2.1, .int v32.1.2.2.2.2.2.2.2.2.2.2.1, .int v32.1.2.2.2.2.2.2.2.2.2.2.2.1, .int v32.1.2.2.2.2.2.2.2.2.2.2.2.2])), (am4, .inl (cy 0, 200, .inl v32.2.1))] → va_S A s.heap H locs → ∀ (ls : Array Slot), lv_has ls 5 [(0, .ref am), (1, .long x1), (3, .int x3), (4, .int v32.2.2)] → W p l e (headSpec wsX7_feed ({ frames := 1, cells := 0, slots := 0, locals := 25 })).room s m ([.ref am, .long x1, .int x3] : List Value).toArray below meth c H locs 0 0 (MQ below (Qw (some (.int z.1)) D [(am, .inr (7, [.ref am0, .ref am1, .ref am2, .ref am3, .int z.2.1.1, .ref am4, .int z.2.1.2.1, .int z.2.1.2.2.1, .int z.2.1.2.2.2.1, .int z.2.1.2.2.2.2.1, .int z.2.1.2.2.2.2.2.1, .int z.2.1.2.2.2.2.2.2.1, .ref am5, .int z.2.1.2.2.2.2.2.2.2.1, .ref am6, .ref am7, .ref am8, .ref am9, .ref am10, .ref am11, .ref am12, .int z.2.1.2.2.2.2.2.2.2.2.1, .int z.2.1.2.2.2.2.2.2.2.2.2.1, .int z.2.1.2.2.2.2.2.2.2.2.2.2.1, .int z.2.1.2.2.2.2.2.2.2.2.2.2.2.1, .int z.2.1.2.2.2.2.2.2.2.2.2.2.2.2])), (am4, .inl (cy 0, 200, .inl z.2.2))] A) ([.ref am, .long x1, .int x3] : List Value).toArray s 0 0 A) (F0 m 32 ls []) := by
      refine lpW ?_
      intro k32 hk320
      have hk32 : ∀ (M_isHeld : Int32) (M_taped : Int32) (M_token : Int32) (M_from : Int32) (M_to : Int32) (M_value : Int32) (M_isWrong : Int32) (M_rowN : Int32) (M_ran : Int32) (M_actKind : Int32) (M_actN : Int32) (M_actA : Int32) (M_isParted : Int32) (u_tape : (Nat → Int32)) (y4 : Int32), k32 ((M_isHeld, M_taped, M_token, M_from, M_to, M_value, M_isWrong, M_rowN, M_ran, M_actKind, M_actN, M_actA, M_isParted), u_tape, y4) = some z → ∀ (H : Heap) (locs : List Loc), va_P D vwCl [(am, .inr (7, [.ref am0, .ref am1, .ref am2, .ref am3, .int M_isHeld, .ref am4, .int M_taped, .int M_token, .int M_from, .int M_to, .int M_value, .int M_isWrong, .ref am5, .int M_rowN, .ref am6, .ref am7, .ref am8, .ref am9, .ref am10, .ref am11, .ref am12, .int M_ran, .int M_actKind, .int M_actN, .int M_actA, .int M_isParted])), (am4, .inl (cy 0, 200, .inl u_tape))] H → va_D A [(am, .inr (7, [.ref am0, .ref am1, .ref am2, .ref am3, .int M_isHeld, .ref am4, .int M_taped, .int M_token, .int M_from, .int M_to, .int M_value, .int M_isWrong, .ref am5, .int M_rowN, .ref am6, .ref am7, .ref am8, .ref am9, .ref am10, .ref am11, .ref am12, .int M_ran, .int M_actKind, .int M_actN, .int M_actA, .int M_isParted])), (am4, .inl (cy 0, 200, .inl u_tape))] → va_S A s.heap H locs → ∀ (ls : Array Slot), lv_has ls 5 [(0, .ref am), (1, .long x1), (3, .int x3), (4, .int y4)] → W p l e (headSpec wsX7_feed ({ frames := 1, cells := 0, slots := 0, locals := 25 })).room s m ([.ref am, .long x1, .int x3] : List Value).toArray below meth c H locs 0 0 (MQ below (Qw (some (.int z.1)) D [(am, .inr (7, [.ref am0, .ref am1, .ref am2, .ref am3, .int z.2.1.1, .ref am4, .int z.2.1.2.1, .int z.2.1.2.2.1, .int z.2.1.2.2.2.1, .int z.2.1.2.2.2.2.1, .int z.2.1.2.2.2.2.2.1, .int z.2.1.2.2.2.2.2.2.1, .ref am5, .int z.2.1.2.2.2.2.2.2.2.1, .ref am6, .ref am7, .ref am8, .ref am9, .ref am10, .ref am11, .ref am12, .int z.2.1.2.2.2.2.2.2.2.2.1, .int z.2.1.2.2.2.2.2.2.2.2.2.1, .int z.2.1.2.2.2.2.2.2.2.2.2.2.1, .int z.2.1.2.2.2.2.2.2.2.2.2.2.2.1, .int z.2.1.2.2.2.2.2.2.2.2.2.2.2.2])), (am4, .inl (cy 0, 200, .inl z.2.2))] A) ([.ref am, .long x1, .int x3] : List Value).toArray s 0 0 A) (F0 m 32 ls []) := fun M_isHeld M_taped M_token M_from M_to M_value M_isWrong M_rowN M_ran M_actKind M_actN M_actA M_isParted u_tape y4 h9 => hk320 ((M_isHeld, M_taped, M_token, M_from, M_to, M_value, M_isWrong, M_rowN, M_ran, M_actKind, M_actN, M_actA, M_isParted), u_tape, y4) h9
      have hstep : ∀ (M_isHeld : Int32) (M_taped : Int32) (M_token : Int32) (M_from : Int32) (M_to : Int32) (M_value : Int32) (M_isWrong : Int32) (M_rowN : Int32) (M_ran : Int32) (M_actKind : Int32) (M_actN : Int32) (M_actA : Int32) (M_isParted : Int32) (u_tape : (Nat → Int32)) (y4 : Int32), fX7_feed_F32 n x1 x3  k32 ((M_isHeld, M_taped, M_token, M_from, M_to, M_value, M_isWrong, M_rowN, M_ran, M_actKind, M_actN, M_actA, M_isParted), u_tape, y4) = some z → ∀ (H : Heap) (locs : List Loc), va_P D vwCl [(am, .inr (7, [.ref am0, .ref am1, .ref am2, .ref am3, .int M_isHeld, .ref am4, .int M_taped, .int M_token, .int M_from, .int M_to, .int M_value, .int M_isWrong, .ref am5, .int M_rowN, .ref am6, .ref am7, .ref am8, .ref am9, .ref am10, .ref am11, .ref am12, .int M_ran, .int M_actKind, .int M_actN, .int M_actA, .int M_isParted])), (am4, .inl (cy 0, 200, .inl u_tape))] H → va_D A [(am, .inr (7, [.ref am0, .ref am1, .ref am2, .ref am3, .int M_isHeld, .ref am4, .int M_taped, .int M_token, .int M_from, .int M_to, .int M_value, .int M_isWrong, .ref am5, .int M_rowN, .ref am6, .ref am7, .ref am8, .ref am9, .ref am10, .ref am11, .ref am12, .int M_ran, .int M_actKind, .int M_actN, .int M_actA, .int M_isParted])), (am4, .inl (cy 0, 200, .inl u_tape))] → va_S A s.heap H locs → ∀ (ls : Array Slot), lv_has ls 5 [(0, .ref am), (1, .long x1), (3, .int x3), (4, .int y4)] → W p l e (headSpec wsX7_feed ({ frames := 1, cells := 0, slots := 0, locals := 25 })).room s m ([.ref am, .long x1, .int x3] : List Value).toArray below meth c H locs 0 0 (MQ below (Qw (some (.int z.1)) D [(am, .inr (7, [.ref am0, .ref am1, .ref am2, .ref am3, .int z.2.1.1, .ref am4, .int z.2.1.2.1, .int z.2.1.2.2.1, .int z.2.1.2.2.2.1, .int z.2.1.2.2.2.2.1, .int z.2.1.2.2.2.2.2.1, .int z.2.1.2.2.2.2.2.2.1, .ref am5, .int z.2.1.2.2.2.2.2.2.2.1, .ref am6, .ref am7, .ref am8, .ref am9, .ref am10, .ref am11, .ref am12, .int z.2.1.2.2.2.2.2.2.2.2.1, .int z.2.1.2.2.2.2.2.2.2.2.2.1, .int z.2.1.2.2.2.2.2.2.2.2.2.2.1, .int z.2.1.2.2.2.2.2.2.2.2.2.2.2.1, .int z.2.1.2.2.2.2.2.2.2.2.2.2.2.2])), (am4, .inl (cy 0, 200, .inl z.2.2))] A) ([.ref am, .long x1, .int x3] : List Value).toArray s 0 0 A) (F0 m 32 ls []) := by
        intro M_isHeld M_taped M_token M_from M_to M_value M_isWrong M_rowN M_ran M_actKind M_actN M_actA M_isParted u_tape y4 hf H locs hP hD hS ls hl
        have hf : (if x3 ≤ y4 then (some (M_taped, (M_isHeld, M_taped, M_token, M_from, M_to, M_value, M_isWrong, M_rowN, M_ran, M_actKind, M_actN, M_actA, M_isParted), u_tape)) else (if M_taped < 0 ∨ 200 ≤ M_taped.toNatClampNeg then none else k32 ((M_isHeld, (M_taped + (1 : Int32)), M_token, M_from, M_to, M_value, M_isWrong, M_rowN, M_ran, M_actKind, M_actN, M_actA, M_isParted), (upd u_tape M_taped.toNatClampNeg ((x1 >>> (((8 : Int32) * y4).toInt64 &&& 63)) &&& (255 : Int64)).toInt32), (y4 + (1 : Int32))))) = some z := hf
        refine lv_iload hx hb dX7_feed_32 (lv_at hl 3 rfl) ?_
        refine lv_iload_n hx hb dX7_feed_34 rfl (lv_at hl 2 rfl) ?_
        refine lv_icmp_ge (tgt := 75) hx hb dX7_feed_35 (by decide) (fun c_35 => ?_) (fun c_35 => ?_)
        · have hf := zp hf c_35
          refine lv_aload_n hx hb dX7_feed_75 rfl (lv_at hl 0 rfl) ?_
          refine va_get (D := D) (ci := 7) (v := .int M_taped) (C := RX7) (T := TX7) (N := 26) hx hb hts hin7 hown hK hP 0 rfl rfl 6 (by decide) fl58 (fun _ h9 => h9) rfl dX7_feed_76 ?_
          exact W.iret hx hb hr (fun t ht hW => hfin M_taped M_isHeld M_taped M_token M_from M_to M_value M_isWrong M_rowN M_ran M_actKind M_actN M_actA M_isParted u_tape hf _ t ht hP (hS.F ht)) hS.2.2 dX7_feed_79
        · have hf := zn hf c_35
          refine lv_aload_n hx hb dX7_feed_38 rfl (lv_at hl 0 rfl) ?_
          refine va_get (D := D) (ci := 7) (v := .ref am4) (C := RX7) (T := TX7) (N := 26) hx hb hts hin7 hown hK hP 0 rfl rfl 5 (by decide) fl22 (fun _ h9 => h9) rfl dX7_feed_39 ?_
          refine lv_aload_n hx hb dX7_feed_42 rfl (lv_at hl 0 rfl) ?_
          refine va_get (D := D) (ci := 7) (v := .int M_taped) (C := RX7) (T := TX7) (N := 26) hx hb hts hin7 hown hK hP 0 rfl rfl 6 (by decide) fl58 (fun _ h9 => h9) rfl dX7_feed_43 ?_
          refine lv_lload_n hx hb dX7_feed_46 rfl (lv_at hl 1 rfl) ?_
          refine lv_bipush (v := (8 : Int32)) hx hb dX7_feed_47 (by decide) ?_
          refine lv_iload hx hb dX7_feed_49 (lv_at hl 3 rfl) ?_
          refine lv_imul hx hb dX7_feed_51 ?_
          refine lv_lshr hx hb dX7_feed_52 rfl ?_
          refine lv_ldc2 (v := (255 : Int64)) hx hb hown (hts (.constantLong RX7 62 (255)) (by decide +kernel)) dX7_feed_53 ?_
          refine lv_land hx hb dX7_feed_56 ?_
          refine lv_l2i hx hb dX7_feed_57 rfl ?_
          obtain ⟨h_58, hf⟩ := zg hf
          refine va_iast hx hb hK hP hD hS 1 0 rfl rfl h_58 dX7_feed_58 (fun H locs hP hD hS => ?_)
          have hP : va_P D vwCl [(am, .inr (7, [.ref am0, .ref am1, .ref am2, .ref am3, .int M_isHeld, .ref am4, .int M_taped, .int M_token, .int M_from, .int M_to, .int M_value, .int M_isWrong, .ref am5, .int M_rowN, .ref am6, .ref am7, .ref am8, .ref am9, .ref am10, .ref am11, .ref am12, .int M_ran, .int M_actKind, .int M_actN, .int M_actA, .int M_isParted])), (am4, .inl (cy 0, 200, .inl (upd u_tape M_taped.toNatClampNeg ((x1 >>> (((8 : Int32) * y4).toInt64 &&& 63)) &&& (255 : Int64)).toInt32)))] H := hP
          have hD : va_D A [(am, .inr (7, [.ref am0, .ref am1, .ref am2, .ref am3, .int M_isHeld, .ref am4, .int M_taped, .int M_token, .int M_from, .int M_to, .int M_value, .int M_isWrong, .ref am5, .int M_rowN, .ref am6, .ref am7, .ref am8, .ref am9, .ref am10, .ref am11, .ref am12, .int M_ran, .int M_actKind, .int M_actN, .int M_actA, .int M_isParted])), (am4, .inl (cy 0, 200, .inl (upd u_tape M_taped.toNatClampNeg ((x1 >>> (((8 : Int32) * y4).toInt64 &&& 63)) &&& (255 : Int64)).toInt32)))] := hD
          refine lv_aload_n hx hb dX7_feed_59 rfl (lv_at hl 0 rfl) ?_
          refine lv_dup hx hb dX7_feed_60 rfl ?_
          refine va_get (D := D) (ci := 7) (v := .int M_taped) (C := RX7) (T := TX7) (N := 26) hx hb hts hin7 hown hK hP 0 rfl rfl 6 (by decide) fl58 (fun _ h9 => h9) rfl dX7_feed_61 ?_
          refine lv_iconst (v := (1 : Int32)) hx hb dX7_feed_64 (by decide) ?_
          refine lv_iadd hx hb dX7_feed_65 ?_
          refine va_put (D := D) (ci := 7) (v := .int (M_taped + (1 : Int32))) (ty := .int) (C := RX7) (T := TX7) (N := 26) hx hb hts hin7 tyX7 tyX7_ok nmX7 hown hK hP hD hS 0 rfl rfl 6 (by decide) fl58 (fun _ h9 => h9) rfl (by decide +kernel) rfl rfl (Nat.le_of_ble_eq_true rfl) dX7_feed_66 (fun H locs hP hD hS => ?_)
          have hP : va_P D vwCl [(am, .inr (7, [.ref am0, .ref am1, .ref am2, .ref am3, .int M_isHeld, .ref am4, .int (M_taped + (1 : Int32)), .int M_token, .int M_from, .int M_to, .int M_value, .int M_isWrong, .ref am5, .int M_rowN, .ref am6, .ref am7, .ref am8, .ref am9, .ref am10, .ref am11, .ref am12, .int M_ran, .int M_actKind, .int M_actN, .int M_actA, .int M_isParted])), (am4, .inl (cy 0, 200, .inl (upd u_tape M_taped.toNatClampNeg ((x1 >>> (((8 : Int32) * y4).toInt64 &&& 63)) &&& (255 : Int64)).toInt32)))] H := hP
          have hD : va_D A [(am, .inr (7, [.ref am0, .ref am1, .ref am2, .ref am3, .int M_isHeld, .ref am4, .int (M_taped + (1 : Int32)), .int M_token, .int M_from, .int M_to, .int M_value, .int M_isWrong, .ref am5, .int M_rowN, .ref am6, .ref am7, .ref am8, .ref am9, .ref am10, .ref am11, .ref am12, .int M_ran, .int M_actKind, .int M_actN, .int M_actA, .int M_isParted])), (am4, .inl (cy 0, 200, .inl (upd u_tape M_taped.toNatClampNeg ((x1 >>> (((8 : Int32) * y4).toInt64 &&& 63)) &&& (255 : Int64)).toInt32)))] := hD
          refine lv_iinc (v := (y4 + (1 : Int32))) (lv' := [(4, .int (y4 + (1 : Int32))), (0, .ref am), (1, .long x1), (3, .int x3)]) hx hb dX7_feed_69 hl (k := 3) rfl rfl (by decide) rfl (fun ls hl => ?_)
          refine lv_goto (tgt := 32) hx hb dX7_feed_72 (by decide) ?_
          exact hk32 M_isHeld (M_taped + (1 : Int32)) M_token M_from M_to M_value M_isWrong M_rowN M_ran M_actKind M_actN M_actA M_isParted (upd u_tape M_taped.toNatClampNeg ((x1 >>> (((8 : Int32) * y4).toInt64 &&& 63)) &&& (255 : Int64)).toInt32) (y4 + (1 : Int32)) hf _ _ hP hD hS _ (lv_sub hl [1, 2, 3, 0] rfl)
      exact fun v32 h9 => hstep v32.1.1 v32.1.2.1 v32.1.2.2.1 v32.1.2.2.2.1 v32.1.2.2.2.2.1 v32.1.2.2.2.2.2.1 v32.1.2.2.2.2.2.2.1 v32.1.2.2.2.2.2.2.2.1 v32.1.2.2.2.2.2.2.2.2.1 v32.1.2.2.2.2.2.2.2.2.2.1 v32.1.2.2.2.2.2.2.2.2.2.2.1 v32.1.2.2.2.2.2.2.2.2.2.2.2.1 v32.1.2.2.2.2.2.2.2.2.2.2.2.2 v32.2.1 v32.2.2 h9
    exact fun n0 M_isHeld M_taped M_token M_from M_to M_value M_isWrong M_rowN M_ran M_actKind M_actN M_actA M_isParted u_tape y4 h9 => key n0 ((M_isHeld, M_taped, M_token, M_from, M_to, M_value, M_isWrong, M_rowN, M_ran, M_actKind, M_actN, M_actA, M_isParted), u_tape, y4) h9
  have hl := lv_entry ([.ref am, .long x1, .int x3]) (n := 5) (Nat.le_of_ble_eq_true rfl)
  rw [lg_entry_eq]
  generalize (lg_sl ([.ref am, .long x1, .int x3]) ++ List.replicate (5 - (lg_sl ([.ref am, .long x1, .int x3])).length) Slot.unset).toArray = ls at hl ⊢
  have hl : lv_has ls 5 [(0, .ref am), (1, .long x1), (3, .int x3)] := hl
  have hf : ((fX7_isIn n x3.toInt64 (1 : Int64) (8 : Int64)).bind fun r6 => if r6 = 0 then (some ((-1 : Int32), (M_isHeld, M_taped, M_token, M_from, M_to, M_value, M_isWrong, M_rowN, M_ran, M_actKind, M_actN, M_actA, M_isParted), u_tape)) else (if (M_taped + x3) ≤ (200 : Int32) then (lpF (fX7_feed_F32 n x1 x3 ) n ((M_isHeld, M_taped, M_token, M_from, M_to, M_value, M_isWrong, M_rowN, M_ran, M_actKind, M_actN, M_actA, M_isParted), u_tape, (0 : Int32))) else (some ((-2 : Int32), (M_isHeld, M_taped, M_token, M_from, M_to, M_value, M_isWrong, M_rowN, M_ran, M_actKind, M_actN, M_actA, M_isParted), u_tape)))) = some z := hf
  refine lv_iload_n hx hb dX7_feed_0 rfl (lv_at hl 2 rfl) ?_
  refine lv_i2l hx hb dX7_feed_1 rfl ?_
  refine lv_lconst (v := (1 : Int64)) hx hb dX7_feed_2 (by decide) ?_
  refine lv_ldc2 (v := (8 : Int64)) hx hb hown (hts (.constantLong RX7 52 (8)) (by decide +kernel)) dX7_feed_3 ?_
  obtain ⟨r6, hc6, hf⟩ := zb hf
  refine zsr (o := some (.int r6)) (As := [.long x3.toInt64, .long (1 : Int64), .long (8 : Int64)]) (rest := []) (stk := [.int r6]) ⟨hx, hb, hml, hown, hts⟩ (mX7_isIn l D cy st sk sv B  n x3.toInt64 (1 : Int64) (8 : Int64) r6 hc6) (va_cwS 3 hts gX7_feed_X7_isIn rfl rfl rfl (by decide +kernel) ⟨Nat.le_of_ble_eq_true rfl, Nat.le_of_ble_eq_true rfl⟩) hG hS hAB hP [] rfl rfl hl.1 rfl (Nat.le_of_ble_eq_true rfl) dX7_feed_6 rfl ?_
  refine lv_if_ne (tgt := 14) hx hb dX7_feed_9 (by decide) (fun c_9 => ?_) (fun c_9 => ?_)
  · have hf := zn hf c_9
    refine lv_aload_n hx hb dX7_feed_14 rfl (lv_at hl 0 rfl) ?_
    refine va_get (D := D) (ci := 7) (v := .int M_taped) (C := RX7) (T := TX7) (N := 26) hx hb hts hin7 hown hK hP 0 rfl rfl 6 (by decide) fl58 (fun _ h9 => h9) rfl dX7_feed_15 ?_
    refine lv_iload_n hx hb dX7_feed_18 rfl (lv_at hl 2 rfl) ?_
    refine lv_iadd hx hb dX7_feed_19 ?_
    refine lv_sipush (v := (200 : Int32)) hx hb dX7_feed_20 (by decide) ?_
    refine lv_icmp_le (tgt := 29) hx hb dX7_feed_23 (by decide) (fun c_23 => ?_) (fun c_23 => ?_)
    · have hf := zp hf c_23
      refine lv_iconst (v := (0 : Int32)) hx hb dX7_feed_29 (by decide) ?_
      refine lv_istore (lv' := [(4, .int (0 : Int32)), (0, .ref am), (1, .long x1), (3, .int x3)]) hx hb dX7_feed_30 hl (by decide) rfl (fun ls hl => ?_)
      exact hL32 n M_isHeld M_taped M_token M_from M_to M_value M_isWrong M_rowN M_ran M_actKind M_actN M_actA M_isParted u_tape (0 : Int32) hf _ _ hP hD hS _ (lv_sub hl [1, 2, 3, 0] rfl)
    · have hf := zn hf c_23
      refine lv_bipush (v := (-2 : Int32)) hx hb dX7_feed_26 (by decide) ?_
      exact W.iret hx hb hr (fun t ht hW => hfin (-2 : Int32) M_isHeld M_taped M_token M_from M_to M_value M_isWrong M_rowN M_ran M_actKind M_actN M_actA M_isParted u_tape hf _ t ht hP (hS.F ht)) hS.2.2 dX7_feed_28
  · have hf := zp hf c_9
    refine lv_iconst (v := (-1 : Int32)) hx hb dX7_feed_12 (by decide) ?_
    exact W.iret hx hb hr (fun t ht hW => hfin (-1 : Int32) M_isHeld M_taped M_token M_from M_to M_value M_isWrong M_rowN M_ran M_actKind M_actN M_actA M_isParted u_tape hf _ t ht hP (hS.F ht)) hS.2.2 dX7_feed_13
set_option maxRecDepth 100000 in
set_option maxHeartbeats 100000000 in
theorem mX7_isAlpha (l : Launch) (D : va_G) (cy : Nat → ClassId) (st sk sv : Nat → Nat) (B : Nat)  (n : Nat)  (x0 : Int32) (z : Int32) (hf : fX7_isAlpha n x0 = some z) : Met l yX7_isAlpha wsX7_isAlpha ({ frames := 0, cells := 0, slots := 0, locals := 0 }) (PcR [.int x0] D cy st sk sv B []) (Qr (some (.int z))) 0 0 (fun _ => False) := by
  refine Met.ofW (cc := cX7_isAlpha) (maxL := 1) (ret := (some .boolean)) (by decide) rfl ?_
  intro p e s m args below meth c s₁ Bd hml hv
  obtain ⟨rfl, hP, hG⟩ := hv
  have hx := Bd.exec
  have hb := Bd.bytes
  have hr := Bd.returns
  have hts := atoms_spec (ws := wsX7_isAlpha) Bd.pre
  have hown : s.vm.findClass RX7 = some m.cls := findClass_of_methodNamed Bd.named
  have hlocks := Bd.notSynchronized
  have hK := hG.1
  have hS : va_S (fun q => B ≤ q) s.heap s.heap [] := va_S.rf
  have hAB : ∀ q, (fun q => B ≤ q) q → B ≤ q := fun _ h => h
  have hl := lv_entry ([.int x0]) (n := 1) (Nat.le_of_ble_eq_true rfl)
  rw [lg_entry_eq]
  generalize (lg_sl ([.int x0]) ++ List.replicate (1 - (lg_sl ([.int x0])).length) Slot.unset).toArray = ls at hl ⊢
  have hl : lv_has ls 1 [(0, .int x0)] := hl
  have hf : (if x0 < (97 : Int32) then (some (0 : Int32)) else (if (122 : Int32) < x0 then (some (0 : Int32)) else (some (1 : Int32)))) = some z := hf
  refine lv_iload_n hx hb dX7_isAlpha_0 rfl (lv_at hl 0 rfl) ?_
  refine lv_bipush (v := (97 : Int32)) hx hb dX7_isAlpha_1 (by decide) ?_
  refine lv_icmp_lt (tgt := 16) hx hb dX7_isAlpha_3 (by decide) (fun c_3 => ?_) (fun c_3 => ?_)
  · have hf := zp hf c_3
    refine lv_iconst (v := (0 : Int32)) hx hb dX7_isAlpha_16 (by decide) ?_
    cases hf
    exact W.zret hx hb hr rfl (fun t ht hW => ⟨rfl, ht⟩) (fun q h => absurd h List.not_mem_nil) dX7_isAlpha_17
  · have hf := zn hf c_3
    refine lv_iload_n hx hb dX7_isAlpha_6 rfl (lv_at hl 0 rfl) ?_
    refine lv_bipush (v := (122 : Int32)) hx hb dX7_isAlpha_7 (by decide) ?_
    refine lv_icmp_gt (tgt := 16) hx hb dX7_isAlpha_9 (by decide) (fun c_9 => ?_) (fun c_9 => ?_)
    · have hf := zp hf c_9
      refine lv_iconst (v := (0 : Int32)) hx hb dX7_isAlpha_16 (by decide) ?_
      cases hf
      exact W.zret hx hb hr rfl (fun t ht hW => ⟨rfl, ht⟩) (fun q h => absurd h List.not_mem_nil) dX7_isAlpha_17
    · have hf := zn hf c_9
      refine lv_iconst (v := (1 : Int32)) hx hb dX7_isAlpha_12 (by decide) ?_
      refine lv_goto (tgt := 17) hx hb dX7_isAlpha_13 (by decide) ?_
      cases hf
      exact W.zret hx hb hr rfl (fun t ht hW => ⟨rfl, ht⟩) (fun q h => absurd h List.not_mem_nil) dX7_isAlpha_17
set_option maxRecDepth 100000 in
set_option maxHeartbeats 100000000 in
theorem mX7_isDigit (l : Launch) (D : va_G) (cy : Nat → ClassId) (st sk sv : Nat → Nat) (B : Nat)  (n : Nat)  (x0 : Int32) (z : Int32) (hf : fX7_isDigit n x0 = some z) : Met l yX7_isDigit wsX7_isDigit ({ frames := 0, cells := 0, slots := 0, locals := 0 }) (PcR [.int x0] D cy st sk sv B []) (Qr (some (.int z))) 0 0 (fun _ => False) := by
  refine Met.ofW (cc := cX7_isDigit) (maxL := 1) (ret := (some .boolean)) (by decide) rfl ?_
  intro p e s m args below meth c s₁ Bd hml hv
  obtain ⟨rfl, hP, hG⟩ := hv
  have hx := Bd.exec
  have hb := Bd.bytes
  have hr := Bd.returns
  have hts := atoms_spec (ws := wsX7_isDigit) Bd.pre
  have hown : s.vm.findClass RX7 = some m.cls := findClass_of_methodNamed Bd.named
  have hlocks := Bd.notSynchronized
  have hK := hG.1
  have hS : va_S (fun q => B ≤ q) s.heap s.heap [] := va_S.rf
  have hAB : ∀ q, (fun q => B ≤ q) q → B ≤ q := fun _ h => h
  have hl := lv_entry ([.int x0]) (n := 1) (Nat.le_of_ble_eq_true rfl)
  rw [lg_entry_eq]
  generalize (lg_sl ([.int x0]) ++ List.replicate (1 - (lg_sl ([.int x0])).length) Slot.unset).toArray = ls at hl ⊢
  have hl : lv_has ls 1 [(0, .int x0)] := hl
  have hf : (if x0 < (48 : Int32) then (some (0 : Int32)) else (if (57 : Int32) < x0 then (some (0 : Int32)) else (some (1 : Int32)))) = some z := hf
  refine lv_iload_n hx hb dX7_isDigit_0 rfl (lv_at hl 0 rfl) ?_
  refine lv_bipush (v := (48 : Int32)) hx hb dX7_isDigit_1 (by decide) ?_
  refine lv_icmp_lt (tgt := 16) hx hb dX7_isDigit_3 (by decide) (fun c_3 => ?_) (fun c_3 => ?_)
  · have hf := zp hf c_3
    refine lv_iconst (v := (0 : Int32)) hx hb dX7_isDigit_16 (by decide) ?_
    cases hf
    exact W.zret hx hb hr rfl (fun t ht hW => ⟨rfl, ht⟩) (fun q h => absurd h List.not_mem_nil) dX7_isDigit_17
  · have hf := zn hf c_3
    refine lv_iload_n hx hb dX7_isDigit_6 rfl (lv_at hl 0 rfl) ?_
    refine lv_bipush (v := (57 : Int32)) hx hb dX7_isDigit_7 (by decide) ?_
    refine lv_icmp_gt (tgt := 16) hx hb dX7_isDigit_9 (by decide) (fun c_9 => ?_) (fun c_9 => ?_)
    · have hf := zp hf c_9
      refine lv_iconst (v := (0 : Int32)) hx hb dX7_isDigit_16 (by decide) ?_
      cases hf
      exact W.zret hx hb hr rfl (fun t ht hW => ⟨rfl, ht⟩) (fun q h => absurd h List.not_mem_nil) dX7_isDigit_17
    · have hf := zn hf c_9
      refine lv_iconst (v := (1 : Int32)) hx hb dX7_isDigit_12 (by decide) ?_
      refine lv_goto (tgt := 17) hx hb dX7_isDigit_13 (by decide) ?_
      cases hf
      exact W.zret hx hb hr rfl (fun t ht hW => ⟨rfl, ht⟩) (fun q h => absurd h List.not_mem_nil) dX7_isDigit_17
set_option maxRecDepth 100000 in
set_option maxHeartbeats 100000000 in
theorem mX7_byteAt (l : Launch) (D : va_G) (cy : Nat → ClassId) (st sk sv : Nat → Nat) (B : Nat) (am : Nat) (am0 : Nat) (am1 : Nat) (am2 : Nat) (am3 : Nat) (am4 : Nat) (am5 : Nat) (am6 : Nat) (am7 : Nat) (am8 : Nat) (am9 : Nat) (am10 : Nat) (am11 : Nat) (am12 : Nat) (n : Nat) (M_isHeld : Int32) (M_taped : Int32) (M_token : Int32) (M_from : Int32) (M_to : Int32) (M_value : Int32) (M_isWrong : Int32) (M_rowN : Int32) (M_ran : Int32) (M_actKind : Int32) (M_actN : Int32) (M_actA : Int32) (M_isParted : Int32) (u_tape : (Nat → Int32)) (x1 : Int32) (z : Int32) (hf : fX7_byteAt n (M_isHeld, M_taped, M_token, M_from, M_to, M_value, M_isWrong, M_rowN, M_ran, M_actKind, M_actN, M_actA, M_isParted) u_tape x1 = some z) : Met l yX7_byteAt wsX7_byteAt ({ frames := 0, cells := 0, slots := 0, locals := 0 }) (PcR [.ref am, .int x1] D cy st sk sv B [(am, .inr (7, [.ref am0, .ref am1, .ref am2, .ref am3, .int M_isHeld, .ref am4, .int M_taped, .int M_token, .int M_from, .int M_to, .int M_value, .int M_isWrong, .ref am5, .int M_rowN, .ref am6, .ref am7, .ref am8, .ref am9, .ref am10, .ref am11, .ref am12, .int M_ran, .int M_actKind, .int M_actN, .int M_actA, .int M_isParted])), (am4, .inl (cy 0, 200, .inl u_tape))]) (Qr (some (.int z))) 0 0 (fun _ => False) := by
  refine Met.ofW (cc := cX7_byteAt) (maxL := 2) (ret := (some .int)) (by decide) rfl ?_
  intro p e s m args below meth c s₁ Bd hml hv
  obtain ⟨rfl, hP, hG⟩ := hv
  have hx := Bd.exec
  have hb := Bd.bytes
  have hr := Bd.returns
  have hts := atoms_spec (ws := wsX7_byteAt) Bd.pre
  have hown : s.vm.findClass RX7 = some m.cls := findClass_of_methodNamed Bd.named
  have hlocks := Bd.notSynchronized
  have hK := hG.1
  have hS : va_S (fun q => B ≤ q) s.heap s.heap [] := va_S.rf
  have hAB : ∀ q, (fun q => B ≤ q) q → B ≤ q := fun _ h => h
  have hin7 : ∀ w ∈ u_ws RX7 TX7 26, w ∈ wsX7_byteAt := by decide +kernel
  have fl22 := hts (.fieldLink RX7 22 "KinCutleryModel" "tape" "[I") (by decide +kernel)
  have fl58 := hts (.fieldLink RX7 58 "KinCutleryModel" "taped" "I") (by decide +kernel)
  have hl := lv_entry ([.ref am, .int x1]) (n := 2) (Nat.le_of_ble_eq_true rfl)
  rw [lg_entry_eq]
  generalize (lg_sl ([.ref am, .int x1]) ++ List.replicate (2 - (lg_sl ([.ref am, .int x1])).length) Slot.unset).toArray = ls at hl ⊢
  have hl : lv_has ls 2 [(0, .ref am), (1, .int x1)] := hl
  have hf : (if M_taped ≤ x1 then (some (-1 : Int32)) else (if x1 < 0 ∨ 200 ≤ x1.toNatClampNeg then none else some (u_tape x1.toNatClampNeg))) = some z := hf
  refine lv_iload_n hx hb dX7_byteAt_0 rfl (lv_at hl 1 rfl) ?_
  refine lv_aload_n hx hb dX7_byteAt_1 rfl (lv_at hl 0 rfl) ?_
  refine va_get (D := D) (ci := 7) (v := .int M_taped) (C := RX7) (T := TX7) (N := 26) hx hb hts hin7 hown hK hP 0 rfl rfl 6 (by decide) fl58 (fun _ h9 => h9) rfl dX7_byteAt_2 ?_
  refine lv_icmp_ge (tgt := 17) hx hb dX7_byteAt_5 (by decide) (fun c_5 => ?_) (fun c_5 => ?_)
  · have hf := zp hf c_5
    refine lv_iconst (v := (-1 : Int32)) hx hb dX7_byteAt_17 (by decide) ?_
    cases hf
    exact W.iret hx hb hr (fun t ht hW => ⟨rfl, ht⟩) (fun q h => absurd h List.not_mem_nil) dX7_byteAt_18
  · have hf := zn hf c_5
    refine lv_aload_n hx hb dX7_byteAt_8 rfl (lv_at hl 0 rfl) ?_
    refine va_get (D := D) (ci := 7) (v := .ref am4) (C := RX7) (T := TX7) (N := 26) hx hb hts hin7 hown hK hP 0 rfl rfl 5 (by decide) fl22 (fun _ h9 => h9) rfl dX7_byteAt_9 ?_
    refine lv_iload_n hx hb dX7_byteAt_12 rfl (lv_at hl 1 rfl) ?_
    obtain ⟨h_13, hf⟩ := zg hf
    refine va_iald hx hb hK hP 1 0 rfl rfl h_13 dX7_byteAt_13 ?_
    refine lv_goto (tgt := 18) hx hb dX7_byteAt_14 (by decide) ?_
    cases hf
    exact W.iret hx hb hr (fun t ht hW => ⟨rfl, ht⟩) (fun q h => absurd h List.not_mem_nil) dX7_byteAt_18
set_option maxRecDepth 100000 in
set_option maxHeartbeats 100000000 in
theorem mX7_nextToken (l : Launch) (D : va_G) (cy : Nat → ClassId) (st sk sv : Nat → Nat) (B : Nat) (am : Nat) (am0 : Nat) (am1 : Nat) (am2 : Nat) (am3 : Nat) (am4 : Nat) (am5 : Nat) (am6 : Nat) (am7 : Nat) (am8 : Nat) (am9 : Nat) (am10 : Nat) (am11 : Nat) (am12 : Nat) (sz : Nat) (n : Nat) (M_isHeld : Int32) (M_taped : Int32) (M_token : Int32) (M_from : Int32) (M_to : Int32) (M_value : Int32) (M_isWrong : Int32) (M_rowN : Int32) (M_ran : Int32) (M_actKind : Int32) (M_actN : Int32) (M_actA : Int32) (M_isParted : Int32) (u_tape : (Nat → Int32))  (z : MO) (hf : fX7_nextToken n (M_isHeld, M_taped, M_token, M_from, M_to, M_value, M_isWrong, M_rowN, M_ran, M_actKind, M_actN, M_actA, M_isParted) u_tape = some z) : Met l yX7_nextToken wsX7_nextToken ({ frames := 1, cells := 0, slots := 0, locals := 21 }) (PcW [.ref am] D cy st sk sv B sz [(am, .inr (7, [.ref am0, .ref am1, .ref am2, .ref am3, .int M_isHeld, .ref am4, .int M_taped, .int M_token, .int M_from, .int M_to, .int M_value, .int M_isWrong, .ref am5, .int M_rowN, .ref am6, .ref am7, .ref am8, .ref am9, .ref am10, .ref am11, .ref am12, .int M_ran, .int M_actKind, .int M_actN, .int M_actA, .int M_isParted])), (am4, .inl (cy 0, 200, .inl u_tape))]) (Qw (none) D [(am, .inr (7, [.ref am0, .ref am1, .ref am2, .ref am3, .int z.1, .ref am4, .int z.2.1, .int z.2.2.1, .int z.2.2.2.1, .int z.2.2.2.2.1, .int z.2.2.2.2.2.1, .int z.2.2.2.2.2.2.1, .ref am5, .int z.2.2.2.2.2.2.2.1, .ref am6, .ref am7, .ref am8, .ref am9, .ref am10, .ref am11, .ref am12, .int z.2.2.2.2.2.2.2.2.1, .int z.2.2.2.2.2.2.2.2.2.1, .int z.2.2.2.2.2.2.2.2.2.2.1, .int z.2.2.2.2.2.2.2.2.2.2.2.1, .int z.2.2.2.2.2.2.2.2.2.2.2.2])), (am4, .inl (cy 0, 200, .inl u_tape))] (va_A [(am, .inr (7, [.ref am0, .ref am1, .ref am2, .ref am3, .int M_isHeld, .ref am4, .int M_taped, .int M_token, .int M_from, .int M_to, .int M_value, .int M_isWrong, .ref am5, .int M_rowN, .ref am6, .ref am7, .ref am8, .ref am9, .ref am10, .ref am11, .ref am12, .int M_ran, .int M_actKind, .int M_actN, .int M_actA, .int M_isParted])), (am4, .inl (cy 0, 200, .inl u_tape))] sz)) 0 0 (va_A [(am, .inr (7, [.ref am0, .ref am1, .ref am2, .ref am3, .int M_isHeld, .ref am4, .int M_taped, .int M_token, .int M_from, .int M_to, .int M_value, .int M_isWrong, .ref am5, .int M_rowN, .ref am6, .ref am7, .ref am8, .ref am9, .ref am10, .ref am11, .ref am12, .int M_ran, .int M_actKind, .int M_actN, .int M_actA, .int M_isParted])), (am4, .inl (cy 0, 200, .inl u_tape))] sz) := by
  refine Met.ofW (cc := cX7_nextToken) (maxL := 2) (ret := none) (by decide) rfl ?_
  intro p e s m args below meth c s₁ Bd hml hv
  obtain ⟨rfl, hsz, hP, hD0, hBs, hG⟩ := hv
  have hx := Bd.exec
  have hb := Bd.bytes
  have hr := Bd.returns
  have hts := atoms_spec (ws := wsX7_nextToken) Bd.pre
  have hown : s.vm.findClass RX7 = some m.cls := findClass_of_methodNamed Bd.named
  have hlocks := Bd.notSynchronized
  have hK := hG.1
  subst hsz
  have hD := hD0.self (sz := s.heap.size)
  have hAB0 := zA hD0 hBs
  generalize hAe : va_A [(am, .inr (7, [.ref am0, .ref am1, .ref am2, .ref am3, .int M_isHeld, .ref am4, .int M_taped, .int M_token, .int M_from, .int M_to, .int M_value, .int M_isWrong, .ref am5, .int M_rowN, .ref am6, .ref am7, .ref am8, .ref am9, .ref am10, .ref am11, .ref am12, .int M_ran, .int M_actKind, .int M_actN, .int M_actA, .int M_isParted])), (am4, .inl (cy 0, 200, .inl u_tape))] s.heap.size = A at hD hAB0 ⊢
  have hA : ∀ q : Nat, s.heap.size ≤ q → A q := fun q h => by rw [← hAe]; exact Or.inr h
  have hAB : ∀ q, A q → B ≤ q := hAB0
  have hS : va_S A s.heap s.heap [] := va_S.rf
  have hfin : ∀ (M_isHeld : Int32) (M_taped : Int32) (M_token : Int32) (M_from : Int32) (M_to : Int32) (M_value : Int32) (M_isWrong : Int32) (M_rowN : Int32) (M_ran : Int32) (M_actKind : Int32) (M_actN : Int32) (M_actA : Int32) (M_isParted : Int32), some (M_isHeld, M_taped, M_token, M_from, M_to, M_value, M_isWrong, M_rowN, M_ran, M_actKind, M_actN, M_actA, M_isParted) = some z → ∀ (H : Heap) (t : State), t.heap = H → va_P D vwCl [(am, .inr (7, [.ref am0, .ref am1, .ref am2, .ref am3, .int M_isHeld, .ref am4, .int M_taped, .int M_token, .int M_from, .int M_to, .int M_value, .int M_isWrong, .ref am5, .int M_rowN, .ref am6, .ref am7, .ref am8, .ref am9, .ref am10, .ref am11, .ref am12, .int M_ran, .int M_actKind, .int M_actN, .int M_actA, .int M_isParted])), (am4, .inl (cy 0, 200, .inl u_tape))] H → va_F A s t → Qw (none) D [(am, .inr (7, [.ref am0, .ref am1, .ref am2, .ref am3, .int z.1, .ref am4, .int z.2.1, .int z.2.2.1, .int z.2.2.2.1, .int z.2.2.2.2.1, .int z.2.2.2.2.2.1, .int z.2.2.2.2.2.2.1, .ref am5, .int z.2.2.2.2.2.2.2.1, .ref am6, .ref am7, .ref am8, .ref am9, .ref am10, .ref am11, .ref am12, .int z.2.2.2.2.2.2.2.2.1, .int z.2.2.2.2.2.2.2.2.2.1, .int z.2.2.2.2.2.2.2.2.2.2.1, .int z.2.2.2.2.2.2.2.2.2.2.2.1, .int z.2.2.2.2.2.2.2.2.2.2.2.2])), (am4, .inl (cy 0, 200, .inl u_tape))] A ([.ref am] : List Value).toArray s (.returned (none)) t := by
    intro M_isHeld M_taped M_token M_from M_to M_value M_isWrong M_rowN M_ran M_actKind M_actN M_actA M_isParted h9 H t ht hP hF
    cases h9
    exact ⟨rfl, by rw [ht]; exact hP, hF⟩
  have hin7 : ∀ w ∈ u_ws RX7 TX7 26, w ∈ wsX7_nextToken := by decide +kernel
  have fl64 := hts (.fieldLink RX7 64 "KinCutleryModel" "to" "I") (by decide +kernel)
  have fl67 := hts (.fieldLink RX7 67 "KinCutleryModel" "from" "I") (by decide +kernel)
  have fl81 := hts (.fieldLink RX7 81 "KinCutleryModel" "token" "I") (by decide +kernel)
  have fl84 := hts (.fieldLink RX7 84 "KinCutleryModel" "value" "I") (by decide +kernel)
  have hB201 : ∀ (M_isHeld : Int32) (M_taped : Int32) (M_token : Int32) (M_from : Int32) (M_to : Int32) (M_value : Int32) (M_isWrong : Int32) (M_rowN : Int32) (M_ran : Int32) (M_actKind : Int32) (M_actN : Int32) (M_actA : Int32) (M_isParted : Int32), fX7_nextToken_b201 n u_tape  (M_isHeld, M_taped, M_token, M_from, M_to, M_value, M_isWrong, M_rowN, M_ran, M_actKind, M_actN, M_actA, M_isParted) = some z → ∀ (H : Heap) (locs : List Loc), va_P D vwCl [(am, .inr (7, [.ref am0, .ref am1, .ref am2, .ref am3, .int M_isHeld, .ref am4, .int M_taped, .int M_token, .int M_from, .int M_to, .int M_value, .int M_isWrong, .ref am5, .int M_rowN, .ref am6, .ref am7, .ref am8, .ref am9, .ref am10, .ref am11, .ref am12, .int M_ran, .int M_actKind, .int M_actN, .int M_actA, .int M_isParted])), (am4, .inl (cy 0, 200, .inl u_tape))] H → va_D A [(am, .inr (7, [.ref am0, .ref am1, .ref am2, .ref am3, .int M_isHeld, .ref am4, .int M_taped, .int M_token, .int M_from, .int M_to, .int M_value, .int M_isWrong, .ref am5, .int M_rowN, .ref am6, .ref am7, .ref am8, .ref am9, .ref am10, .ref am11, .ref am12, .int M_ran, .int M_actKind, .int M_actN, .int M_actA, .int M_isParted])), (am4, .inl (cy 0, 200, .inl u_tape))] → va_S A s.heap H locs → ∀ (ls : Array Slot), lv_has ls 2 [(0, .ref am)] → W p l e (headSpec wsX7_nextToken ({ frames := 1, cells := 0, slots := 0, locals := 21 })).room s m ([.ref am] : List Value).toArray below meth c H locs 0 0 (MQ below (Qw (none) D [(am, .inr (7, [.ref am0, .ref am1, .ref am2, .ref am3, .int z.1, .ref am4, .int z.2.1, .int z.2.2.1, .int z.2.2.2.1, .int z.2.2.2.2.1, .int z.2.2.2.2.2.1, .int z.2.2.2.2.2.2.1, .ref am5, .int z.2.2.2.2.2.2.2.1, .ref am6, .ref am7, .ref am8, .ref am9, .ref am10, .ref am11, .ref am12, .int z.2.2.2.2.2.2.2.2.1, .int z.2.2.2.2.2.2.2.2.2.1, .int z.2.2.2.2.2.2.2.2.2.2.1, .int z.2.2.2.2.2.2.2.2.2.2.2.1, .int z.2.2.2.2.2.2.2.2.2.2.2.2])), (am4, .inl (cy 0, 200, .inl u_tape))] A) ([.ref am] : List Value).toArray s 0 0 A) (F0 m 201 ls []) := by
    intro M_isHeld M_taped M_token M_from M_to M_value M_isWrong M_rowN M_ran M_actKind M_actN M_actA M_isParted hf H locs hP hD hS ls hl
    have hf : (if M_token ≤ (2 : Int32) then (some (M_isHeld, M_taped, M_token, M_from, (M_to + (0 : Int32)), M_value, M_isWrong, M_rowN, M_ran, M_actKind, M_actN, M_actA, M_isParted)) else (some (M_isHeld, M_taped, M_token, M_from, (M_to + (1 : Int32)), M_value, M_isWrong, M_rowN, M_ran, M_actKind, M_actN, M_actA, M_isParted))) = some z := hf
    refine lv_aload_n hx hb dX7_nextToken_201 rfl (lv_at hl 0 rfl) ?_
    refine lv_dup hx hb dX7_nextToken_202 rfl ?_
    refine va_get (D := D) (ci := 7) (v := .int M_to) (C := RX7) (T := TX7) (N := 26) hx hb hts hin7 hown hK hP 0 rfl rfl 9 (by decide) fl64 (fun _ h9 => h9) rfl dX7_nextToken_203 ?_
    refine lv_aload_n hx hb dX7_nextToken_206 rfl (lv_at hl 0 rfl) ?_
    refine va_get (D := D) (ci := 7) (v := .int M_token) (C := RX7) (T := TX7) (N := 26) hx hb hts hin7 hown hK hP 0 rfl rfl 7 (by decide) fl81 (fun _ h9 => h9) rfl dX7_nextToken_207 ?_
    refine lv_iconst (v := (2 : Int32)) hx hb dX7_nextToken_210 (by decide) ?_
    refine lv_icmp_le (tgt := 218) hx hb dX7_nextToken_211 (by decide) (fun c_211 => ?_) (fun c_211 => ?_)
    · have hf := zp hf c_211
      refine lv_iconst (v := (0 : Int32)) hx hb dX7_nextToken_218 (by decide) ?_
      refine lv_iadd hx hb dX7_nextToken_219 ?_
      refine va_put (D := D) (ci := 7) (v := .int (M_to + (0 : Int32))) (ty := .int) (C := RX7) (T := TX7) (N := 26) hx hb hts hin7 tyX7 tyX7_ok nmX7 hown hK hP hD hS 0 rfl rfl 9 (by decide) fl64 (fun _ h9 => h9) rfl (by decide +kernel) rfl rfl (Nat.le_of_ble_eq_true rfl) dX7_nextToken_220 (fun H locs hP hD hS => ?_)
      have hP : va_P D vwCl [(am, .inr (7, [.ref am0, .ref am1, .ref am2, .ref am3, .int M_isHeld, .ref am4, .int M_taped, .int M_token, .int M_from, .int (M_to + (0 : Int32)), .int M_value, .int M_isWrong, .ref am5, .int M_rowN, .ref am6, .ref am7, .ref am8, .ref am9, .ref am10, .ref am11, .ref am12, .int M_ran, .int M_actKind, .int M_actN, .int M_actA, .int M_isParted])), (am4, .inl (cy 0, 200, .inl u_tape))] H := hP
      have hD : va_D A [(am, .inr (7, [.ref am0, .ref am1, .ref am2, .ref am3, .int M_isHeld, .ref am4, .int M_taped, .int M_token, .int M_from, .int (M_to + (0 : Int32)), .int M_value, .int M_isWrong, .ref am5, .int M_rowN, .ref am6, .ref am7, .ref am8, .ref am9, .ref am10, .ref am11, .ref am12, .int M_ran, .int M_actKind, .int M_actN, .int M_actA, .int M_isParted])), (am4, .inl (cy 0, 200, .inl u_tape))] := hD
      exact W.vret hx hb hr (fun t ht hW => hfin M_isHeld M_taped M_token M_from (M_to + (0 : Int32)) M_value M_isWrong M_rowN M_ran M_actKind M_actN M_actA M_isParted hf _ t ht hP (hS.F ht)) hS.2.2 dX7_nextToken_223
    · have hf := zn hf c_211
      refine lv_iconst (v := (1 : Int32)) hx hb dX7_nextToken_214 (by decide) ?_
      refine lv_goto (tgt := 219) hx hb dX7_nextToken_215 (by decide) ?_
      refine lv_iadd hx hb dX7_nextToken_219 ?_
      refine va_put (D := D) (ci := 7) (v := .int (M_to + (1 : Int32))) (ty := .int) (C := RX7) (T := TX7) (N := 26) hx hb hts hin7 tyX7 tyX7_ok nmX7 hown hK hP hD hS 0 rfl rfl 9 (by decide) fl64 (fun _ h9 => h9) rfl (by decide +kernel) rfl rfl (Nat.le_of_ble_eq_true rfl) dX7_nextToken_220 (fun H locs hP hD hS => ?_)
      have hP : va_P D vwCl [(am, .inr (7, [.ref am0, .ref am1, .ref am2, .ref am3, .int M_isHeld, .ref am4, .int M_taped, .int M_token, .int M_from, .int (M_to + (1 : Int32)), .int M_value, .int M_isWrong, .ref am5, .int M_rowN, .ref am6, .ref am7, .ref am8, .ref am9, .ref am10, .ref am11, .ref am12, .int M_ran, .int M_actKind, .int M_actN, .int M_actA, .int M_isParted])), (am4, .inl (cy 0, 200, .inl u_tape))] H := hP
      have hD : va_D A [(am, .inr (7, [.ref am0, .ref am1, .ref am2, .ref am3, .int M_isHeld, .ref am4, .int M_taped, .int M_token, .int M_from, .int (M_to + (1 : Int32)), .int M_value, .int M_isWrong, .ref am5, .int M_rowN, .ref am6, .ref am7, .ref am8, .ref am9, .ref am10, .ref am11, .ref am12, .int M_ran, .int M_actKind, .int M_actN, .int M_actA, .int M_isParted])), (am4, .inl (cy 0, 200, .inl u_tape))] := hD
      exact W.vret hx hb hr (fun t ht hW => hfin M_isHeld M_taped M_token M_from (M_to + (1 : Int32)) M_value M_isWrong M_rowN M_ran M_actKind M_actN M_actA M_isParted hf _ t ht hP (hS.F ht)) hS.2.2 dX7_nextToken_223
  have hL126 : ∀ (n0 : Nat) (M_isHeld : Int32) (M_taped : Int32) (M_token : Int32) (M_from : Int32) (M_to : Int32) (M_value : Int32) (M_isWrong : Int32) (M_rowN : Int32) (M_ran : Int32) (M_actKind : Int32) (M_actN : Int32) (M_actA : Int32) (M_isParted : Int32), lpF (fX7_nextToken_F126 n u_tape ) n0 (M_isHeld, M_taped, M_token, M_from, M_to, M_value, M_isWrong, M_rowN, M_ran, M_actKind, M_actN, M_actA, M_isParted) = some z → ∀ (H : Heap) (locs : List Loc), va_P D vwCl [(am, .inr (7, [.ref am0, .ref am1, .ref am2, .ref am3, .int M_isHeld, .ref am4, .int M_taped, .int M_token, .int M_from, .int M_to, .int M_value, .int M_isWrong, .ref am5, .int M_rowN, .ref am6, .ref am7, .ref am8, .ref am9, .ref am10, .ref am11, .ref am12, .int M_ran, .int M_actKind, .int M_actN, .int M_actA, .int M_isParted])), (am4, .inl (cy 0, 200, .inl u_tape))] H → va_D A [(am, .inr (7, [.ref am0, .ref am1, .ref am2, .ref am3, .int M_isHeld, .ref am4, .int M_taped, .int M_token, .int M_from, .int M_to, .int M_value, .int M_isWrong, .ref am5, .int M_rowN, .ref am6, .ref am7, .ref am8, .ref am9, .ref am10, .ref am11, .ref am12, .int M_ran, .int M_actKind, .int M_actN, .int M_actA, .int M_isParted])), (am4, .inl (cy 0, 200, .inl u_tape))] → va_S A s.heap H locs → ∀ (ls : Array Slot), lv_has ls 2 [(0, .ref am)] → W p l e (headSpec wsX7_nextToken ({ frames := 1, cells := 0, slots := 0, locals := 21 })).room s m ([.ref am] : List Value).toArray below meth c H locs 0 0 (MQ below (Qw (none) D [(am, .inr (7, [.ref am0, .ref am1, .ref am2, .ref am3, .int z.1, .ref am4, .int z.2.1, .int z.2.2.1, .int z.2.2.2.1, .int z.2.2.2.2.1, .int z.2.2.2.2.2.1, .int z.2.2.2.2.2.2.1, .ref am5, .int z.2.2.2.2.2.2.2.1, .ref am6, .ref am7, .ref am8, .ref am9, .ref am10, .ref am11, .ref am12, .int z.2.2.2.2.2.2.2.2.1, .int z.2.2.2.2.2.2.2.2.2.1, .int z.2.2.2.2.2.2.2.2.2.2.1, .int z.2.2.2.2.2.2.2.2.2.2.2.1, .int z.2.2.2.2.2.2.2.2.2.2.2.2])), (am4, .inl (cy 0, 200, .inl u_tape))] A) ([.ref am] : List Value).toArray s 0 0 A) (F0 m 126 ls []) := by
    have key : ∀ (n0 : Nat) (v126 : MO), lpF (fX7_nextToken_F126 n u_tape ) n0 v126 = some z → ∀ (H : Heap) (locs : List Loc), va_P D vwCl [(am, .inr (7, [.ref am0, .ref am1, .ref am2, .ref am3, .int v126.1, .ref am4, .int v126.2.1, .int v126.2.2.1, .int v126.2.2.2.1, .int v126.2.2.2.2.1, .int v126.2.2.2.2.2.1, .int v126.2.2.2.2.2.2.1, .ref am5, .int v126.2.2.2.2.2.2.2.1, .ref am6, .ref am7, .ref am8, .ref am9, .ref am10, .ref am11, .ref am12, .int v126.2.2.2.2.2.2.2.2.1, .int v126.2.2.2.2.2.2.2.2.2.1, .int v126.2.2.2.2.2.2.2.2.2.2.1, .int v126.2.2.2.2.2.2.2.2.2.2.2.1, .int v126.2.2.2.2.2.2.2.2.2.2.2.2])), (am4, .inl (cy 0, 200, .inl u_tape))] H → va_D A [(am, .inr (7, [.ref am0, .ref am1, .ref am2, .ref am3, .int v126.1, .ref am4, .int v126.2.1, .int v126.2.2.1, .int v126.2.2.2.1, .int v126.2.2.2.2.1, .int v126.2.2.2.2.2.1, .int v126.2.2.2.2.2.2.1, .ref am5, .int v126.2.2.2.2.2.2.2.1, .ref am6, .ref am7, .ref am8, .ref am9, .ref am10, .ref am11, .ref am12, .int v126.2.2.2.2.2.2.2.2.1, .int v126.2.2.2.2.2.2.2.2.2.1, .int v126.2.2.2.2.2.2.2.2.2.2.1, .int v126.2.2.2.2.2.2.2.2.2.2.2.1, .int v126.2.2.2.2.2.2.2.2.2.2.2.2])), (am4, .inl (cy 0, 200, .inl u_tape))] → va_S A s.heap H locs → ∀ (ls : Array Slot), lv_has ls 2 [(0, .ref am)] → W p l e (headSpec wsX7_nextToken ({ frames := 1, cells := 0, slots := 0, locals := 21 })).room s m ([.ref am] : List Value).toArray below meth c H locs 0 0 (MQ below (Qw (none) D [(am, .inr (7, [.ref am0, .ref am1, .ref am2, .ref am3, .int z.1, .ref am4, .int z.2.1, .int z.2.2.1, .int z.2.2.2.1, .int z.2.2.2.2.1, .int z.2.2.2.2.2.1, .int z.2.2.2.2.2.2.1, .ref am5, .int z.2.2.2.2.2.2.2.1, .ref am6, .ref am7, .ref am8, .ref am9, .ref am10, .ref am11, .ref am12, .int z.2.2.2.2.2.2.2.2.1, .int z.2.2.2.2.2.2.2.2.2.1, .int z.2.2.2.2.2.2.2.2.2.2.1, .int z.2.2.2.2.2.2.2.2.2.2.2.1, .int z.2.2.2.2.2.2.2.2.2.2.2.2])), (am4, .inl (cy 0, 200, .inl u_tape))] A) ([.ref am] : List Value).toArray s 0 0 A) (F0 m 126 ls []) := by
      refine lpW ?_
      intro k126 hk1260
      have hk126 : ∀ (M_isHeld : Int32) (M_taped : Int32) (M_token : Int32) (M_from : Int32) (M_to : Int32) (M_value : Int32) (M_isWrong : Int32) (M_rowN : Int32) (M_ran : Int32) (M_actKind : Int32) (M_actN : Int32) (M_actA : Int32) (M_isParted : Int32), k126 (M_isHeld, M_taped, M_token, M_from, M_to, M_value, M_isWrong, M_rowN, M_ran, M_actKind, M_actN, M_actA, M_isParted) = some z → ∀ (H : Heap) (locs : List Loc), va_P D vwCl [(am, .inr (7, [.ref am0, .ref am1, .ref am2, .ref am3, .int M_isHeld, .ref am4, .int M_taped, .int M_token, .int M_from, .int M_to, .int M_value, .int M_isWrong, .ref am5, .int M_rowN, .ref am6, .ref am7, .ref am8, .ref am9, .ref am10, .ref am11, .ref am12, .int M_ran, .int M_actKind, .int M_actN, .int M_actA, .int M_isParted])), (am4, .inl (cy 0, 200, .inl u_tape))] H → va_D A [(am, .inr (7, [.ref am0, .ref am1, .ref am2, .ref am3, .int M_isHeld, .ref am4, .int M_taped, .int M_token, .int M_from, .int M_to, .int M_value, .int M_isWrong, .ref am5, .int M_rowN, .ref am6, .ref am7, .ref am8, .ref am9, .ref am10, .ref am11, .ref am12, .int M_ran, .int M_actKind, .int M_actN, .int M_actA, .int M_isParted])), (am4, .inl (cy 0, 200, .inl u_tape))] → va_S A s.heap H locs → ∀ (ls : Array Slot), lv_has ls 2 [(0, .ref am)] → W p l e (headSpec wsX7_nextToken ({ frames := 1, cells := 0, slots := 0, locals := 21 })).room s m ([.ref am] : List Value).toArray below meth c H locs 0 0 (MQ below (Qw (none) D [(am, .inr (7, [.ref am0, .ref am1, .ref am2, .ref am3, .int z.1, .ref am4, .int z.2.1, .int z.2.2.1, .int z.2.2.2.1, .int z.2.2.2.2.1, .int z.2.2.2.2.2.1, .int z.2.2.2.2.2.2.1, .ref am5, .int z.2.2.2.2.2.2.2.1, .ref am6, .ref am7, .ref am8, .ref am9, .ref am10, .ref am11, .ref am12, .int z.2.2.2.2.2.2.2.2.1, .int z.2.2.2.2.2.2.2.2.2.1, .int z.2.2.2.2.2.2.2.2.2.2.1, .int z.2.2.2.2.2.2.2.2.2.2.2.1, .int z.2.2.2.2.2.2.2.2.2.2.2.2])), (am4, .inl (cy 0, 200, .inl u_tape))] A) ([.ref am] : List Value).toArray s 0 0 A) (F0 m 126 ls []) := fun M_isHeld M_taped M_token M_from M_to M_value M_isWrong M_rowN M_ran M_actKind M_actN M_actA M_isParted h9 => hk1260 (M_isHeld, M_taped, M_token, M_from, M_to, M_value, M_isWrong, M_rowN, M_ran, M_actKind, M_actN, M_actA, M_isParted) h9
      have hB185 : ∀ (M_isHeld : Int32) (M_taped : Int32) (M_token : Int32) (M_from : Int32) (M_to : Int32) (M_value : Int32) (M_isWrong : Int32) (M_rowN : Int32) (M_ran : Int32) (M_actKind : Int32) (M_actN : Int32) (M_actA : Int32) (M_isParted : Int32) (w1 : Int32), fX7_nextToken_b185 n u_tape k126 (M_isHeld, M_taped, M_token, M_from, M_to, M_value, M_isWrong, M_rowN, M_ran, M_actKind, M_actN, M_actA, M_isParted) w1 = some z → ∀ (H : Heap) (locs : List Loc), va_P D vwCl [(am, .inr (7, [.ref am0, .ref am1, .ref am2, .ref am3, .int M_isHeld, .ref am4, .int M_taped, .int M_token, .int M_from, .int M_to, .int M_value, .int M_isWrong, .ref am5, .int M_rowN, .ref am6, .ref am7, .ref am8, .ref am9, .ref am10, .ref am11, .ref am12, .int M_ran, .int M_actKind, .int M_actN, .int M_actA, .int M_isParted])), (am4, .inl (cy 0, 200, .inl u_tape))] H → va_D A [(am, .inr (7, [.ref am0, .ref am1, .ref am2, .ref am3, .int M_isHeld, .ref am4, .int M_taped, .int M_token, .int M_from, .int M_to, .int M_value, .int M_isWrong, .ref am5, .int M_rowN, .ref am6, .ref am7, .ref am8, .ref am9, .ref am10, .ref am11, .ref am12, .int M_ran, .int M_actKind, .int M_actN, .int M_actA, .int M_isParted])), (am4, .inl (cy 0, 200, .inl u_tape))] → va_S A s.heap H locs → ∀ (ls : Array Slot), lv_has ls 2 [(0, .ref am)] → W p l e (headSpec wsX7_nextToken ({ frames := 1, cells := 0, slots := 0, locals := 21 })).room s m ([.ref am] : List Value).toArray below meth c H locs 0 0 (MQ below (Qw (none) D [(am, .inr (7, [.ref am0, .ref am1, .ref am2, .ref am3, .int z.1, .ref am4, .int z.2.1, .int z.2.2.1, .int z.2.2.2.1, .int z.2.2.2.2.1, .int z.2.2.2.2.2.1, .int z.2.2.2.2.2.2.1, .ref am5, .int z.2.2.2.2.2.2.2.1, .ref am6, .ref am7, .ref am8, .ref am9, .ref am10, .ref am11, .ref am12, .int z.2.2.2.2.2.2.2.2.1, .int z.2.2.2.2.2.2.2.2.2.1, .int z.2.2.2.2.2.2.2.2.2.2.1, .int z.2.2.2.2.2.2.2.2.2.2.2.1, .int z.2.2.2.2.2.2.2.2.2.2.2.2])), (am4, .inl (cy 0, 200, .inl u_tape))] A) ([.ref am] : List Value).toArray s 0 0 A) (F0 m 185 ls [.int w1, .ref am]) := by
        intro M_isHeld M_taped M_token M_from M_to M_value M_isWrong M_rowN M_ran M_actKind M_actN M_actA M_isParted w1 hf H locs hP hD hS ls hl
        have hf : (k126 (M_isHeld, M_taped, M_token, M_from, (M_to + (1 : Int32)), w1, M_isWrong, M_rowN, M_ran, M_actKind, M_actN, M_actA, M_isParted)) = some z := hf
        refine va_put (D := D) (ci := 7) (v := .int w1) (ty := .int) (C := RX7) (T := TX7) (N := 26) hx hb hts hin7 tyX7 tyX7_ok nmX7 hown hK hP hD hS 0 rfl rfl 10 (by decide) fl84 (fun _ h9 => h9) rfl (by decide +kernel) rfl rfl (Nat.le_of_ble_eq_true rfl) dX7_nextToken_185 (fun H locs hP hD hS => ?_)
        have hP : va_P D vwCl [(am, .inr (7, [.ref am0, .ref am1, .ref am2, .ref am3, .int M_isHeld, .ref am4, .int M_taped, .int M_token, .int M_from, .int M_to, .int w1, .int M_isWrong, .ref am5, .int M_rowN, .ref am6, .ref am7, .ref am8, .ref am9, .ref am10, .ref am11, .ref am12, .int M_ran, .int M_actKind, .int M_actN, .int M_actA, .int M_isParted])), (am4, .inl (cy 0, 200, .inl u_tape))] H := hP
        have hD : va_D A [(am, .inr (7, [.ref am0, .ref am1, .ref am2, .ref am3, .int M_isHeld, .ref am4, .int M_taped, .int M_token, .int M_from, .int M_to, .int w1, .int M_isWrong, .ref am5, .int M_rowN, .ref am6, .ref am7, .ref am8, .ref am9, .ref am10, .ref am11, .ref am12, .int M_ran, .int M_actKind, .int M_actN, .int M_actA, .int M_isParted])), (am4, .inl (cy 0, 200, .inl u_tape))] := hD
        refine lv_aload_n hx hb dX7_nextToken_188 rfl (lv_at hl 0 rfl) ?_
        refine lv_dup hx hb dX7_nextToken_189 rfl ?_
        refine va_get (D := D) (ci := 7) (v := .int M_to) (C := RX7) (T := TX7) (N := 26) hx hb hts hin7 hown hK hP 0 rfl rfl 9 (by decide) fl64 (fun _ h9 => h9) rfl dX7_nextToken_190 ?_
        refine lv_iconst (v := (1 : Int32)) hx hb dX7_nextToken_193 (by decide) ?_
        refine lv_iadd hx hb dX7_nextToken_194 ?_
        refine va_put (D := D) (ci := 7) (v := .int (M_to + (1 : Int32))) (ty := .int) (C := RX7) (T := TX7) (N := 26) hx hb hts hin7 tyX7 tyX7_ok nmX7 hown hK hP hD hS 0 rfl rfl 9 (by decide) fl64 (fun _ h9 => h9) rfl (by decide +kernel) rfl rfl (Nat.le_of_ble_eq_true rfl) dX7_nextToken_195 (fun H locs hP hD hS => ?_)
        have hP : va_P D vwCl [(am, .inr (7, [.ref am0, .ref am1, .ref am2, .ref am3, .int M_isHeld, .ref am4, .int M_taped, .int M_token, .int M_from, .int (M_to + (1 : Int32)), .int w1, .int M_isWrong, .ref am5, .int M_rowN, .ref am6, .ref am7, .ref am8, .ref am9, .ref am10, .ref am11, .ref am12, .int M_ran, .int M_actKind, .int M_actN, .int M_actA, .int M_isParted])), (am4, .inl (cy 0, 200, .inl u_tape))] H := hP
        have hD : va_D A [(am, .inr (7, [.ref am0, .ref am1, .ref am2, .ref am3, .int M_isHeld, .ref am4, .int M_taped, .int M_token, .int M_from, .int (M_to + (1 : Int32)), .int w1, .int M_isWrong, .ref am5, .int M_rowN, .ref am6, .ref am7, .ref am8, .ref am9, .ref am10, .ref am11, .ref am12, .int M_ran, .int M_actKind, .int M_actN, .int M_actA, .int M_isParted])), (am4, .inl (cy 0, 200, .inl u_tape))] := hD
        refine lv_goto (tgt := 126) hx hb dX7_nextToken_198 (by decide) ?_
        exact hk126 M_isHeld M_taped M_token M_from (M_to + (1 : Int32)) w1 M_isWrong M_rowN M_ran M_actKind M_actN M_actA M_isParted hf _ _ hP hD hS _ (lv_sub hl [0] rfl)
      have hstep : ∀ (M_isHeld : Int32) (M_taped : Int32) (M_token : Int32) (M_from : Int32) (M_to : Int32) (M_value : Int32) (M_isWrong : Int32) (M_rowN : Int32) (M_ran : Int32) (M_actKind : Int32) (M_actN : Int32) (M_actA : Int32) (M_isParted : Int32), fX7_nextToken_F126 n u_tape  k126 (M_isHeld, M_taped, M_token, M_from, M_to, M_value, M_isWrong, M_rowN, M_ran, M_actKind, M_actN, M_actA, M_isParted) = some z → ∀ (H : Heap) (locs : List Loc), va_P D vwCl [(am, .inr (7, [.ref am0, .ref am1, .ref am2, .ref am3, .int M_isHeld, .ref am4, .int M_taped, .int M_token, .int M_from, .int M_to, .int M_value, .int M_isWrong, .ref am5, .int M_rowN, .ref am6, .ref am7, .ref am8, .ref am9, .ref am10, .ref am11, .ref am12, .int M_ran, .int M_actKind, .int M_actN, .int M_actA, .int M_isParted])), (am4, .inl (cy 0, 200, .inl u_tape))] H → va_D A [(am, .inr (7, [.ref am0, .ref am1, .ref am2, .ref am3, .int M_isHeld, .ref am4, .int M_taped, .int M_token, .int M_from, .int M_to, .int M_value, .int M_isWrong, .ref am5, .int M_rowN, .ref am6, .ref am7, .ref am8, .ref am9, .ref am10, .ref am11, .ref am12, .int M_ran, .int M_actKind, .int M_actN, .int M_actA, .int M_isParted])), (am4, .inl (cy 0, 200, .inl u_tape))] → va_S A s.heap H locs → ∀ (ls : Array Slot), lv_has ls 2 [(0, .ref am)] → W p l e (headSpec wsX7_nextToken ({ frames := 1, cells := 0, slots := 0, locals := 21 })).room s m ([.ref am] : List Value).toArray below meth c H locs 0 0 (MQ below (Qw (none) D [(am, .inr (7, [.ref am0, .ref am1, .ref am2, .ref am3, .int z.1, .ref am4, .int z.2.1, .int z.2.2.1, .int z.2.2.2.1, .int z.2.2.2.2.1, .int z.2.2.2.2.2.1, .int z.2.2.2.2.2.2.1, .ref am5, .int z.2.2.2.2.2.2.2.1, .ref am6, .ref am7, .ref am8, .ref am9, .ref am10, .ref am11, .ref am12, .int z.2.2.2.2.2.2.2.2.1, .int z.2.2.2.2.2.2.2.2.2.1, .int z.2.2.2.2.2.2.2.2.2.2.1, .int z.2.2.2.2.2.2.2.2.2.2.2.1, .int z.2.2.2.2.2.2.2.2.2.2.2.2])), (am4, .inl (cy 0, 200, .inl u_tape))] A) ([.ref am] : List Value).toArray s 0 0 A) (F0 m 126 ls []) := by
        intro M_isHeld M_taped M_token M_from M_to M_value M_isWrong M_rowN M_ran M_actKind M_actN M_actA M_isParted hf H locs hP hD hS ls hl
        have hf : (if M_token = (2 : Int32) then ((fX7_byteAt n (M_isHeld, M_taped, M_token, M_from, M_to, M_value, M_isWrong, M_rowN, M_ran, M_actKind, M_actN, M_actA, M_isParted) u_tape M_to).bind fun r139 => (fX7_isDigit n r139).bind fun r142 => if r142 = 0 then (fX7_nextToken_b201 n u_tape  (M_isHeld, M_taped, M_token, M_from, M_to, M_value, M_isWrong, M_rowN, M_ran, M_actKind, M_actN, M_actA, M_isParted)) else (if M_value ≤ (999 : Int32) then ((fX7_byteAt n (M_isHeld, M_taped, M_token, M_from, M_to, M_value, M_isWrong, M_rowN, M_ran, M_actKind, M_actN, M_actA, M_isParted) u_tape M_to).bind fun r178 => fX7_nextToken_b185 n u_tape k126 (M_isHeld, M_taped, M_token, M_from, M_to, M_value, M_isWrong, M_rowN, M_ran, M_actKind, M_actN, M_actA, M_isParted) ((((10 : Int32) * M_value) + r178) - (48 : Int32))) else (fX7_nextToken_b185 n u_tape k126 (M_isHeld, M_taped, M_token, M_from, M_to, M_value, M_isWrong, M_rowN, M_ran, M_actKind, M_actN, M_actA, M_isParted) M_value))) else (fX7_nextToken_b201 n u_tape  (M_isHeld, M_taped, M_token, M_from, M_to, M_value, M_isWrong, M_rowN, M_ran, M_actKind, M_actN, M_actA, M_isParted))) = some z := hf
        refine lv_aload_n hx hb dX7_nextToken_126 rfl (lv_at hl 0 rfl) ?_
        refine va_get (D := D) (ci := 7) (v := .int M_token) (C := RX7) (T := TX7) (N := 26) hx hb hts hin7 hown hK hP 0 rfl rfl 7 (by decide) fl81 (fun _ h9 => h9) rfl dX7_nextToken_127 ?_
        refine lv_iconst (v := (2 : Int32)) hx hb dX7_nextToken_130 (by decide) ?_
        refine lv_icmp_ne (tgt := 201) hx hb dX7_nextToken_131 (by decide) (fun c_131 => ?_) (fun c_131 => ?_)
        · have hf := zn hf c_131
          exact hB201 M_isHeld M_taped M_token M_from M_to M_value M_isWrong M_rowN M_ran M_actKind M_actN M_actA M_isParted hf _ _ hP hD hS _ (lv_sub hl [0] rfl)
        · have hf := zp hf c_131
          refine lv_aload_n hx hb dX7_nextToken_134 rfl (lv_at hl 0 rfl) ?_
          refine lv_aload_n hx hb dX7_nextToken_135 rfl (lv_at hl 0 rfl) ?_
          refine va_get (D := D) (ci := 7) (v := .int M_to) (C := RX7) (T := TX7) (N := 26) hx hb hts hin7 hown hK hP 0 rfl rfl 9 (by decide) fl64 (fun _ h9 => h9) rfl dX7_nextToken_136 ?_
          obtain ⟨r139, hc139, hf⟩ := zb hf
          refine zvr (o := some (.int r139)) (As := [.int M_to]) (rest := []) (stk := [.int r139]) ⟨hx, hb, hml, hown, hts⟩ (mX7_byteAt l D cy st sk sv B am am0 am1 am2 am3 am4 am5 am6 am7 am8 am9 am10 am11 am12 n M_isHeld M_taped M_token M_from M_to M_value M_isWrong M_rowN M_ran M_actKind M_actN M_actA M_isParted u_tape M_to r139 hc139) (cwV 1 hts gX7_nextToken_X7_byteAt rfl rfl rfl (by decide +kernel) ⟨Nat.le_of_ble_eq_true rfl, Nat.le_of_ble_eq_true rfl⟩) hG hS hAB hP [0, 1] rfl 0 7 rfl rfl rfl rfl hl.1 rfl (Nat.le_of_ble_eq_true rfl) dX7_nextToken_139 rfl ?_
          obtain ⟨r142, hc142, hf⟩ := zb hf
          refine zsr (o := some (.int r142)) (As := [.int r139]) (rest := []) (stk := [.int r142]) ⟨hx, hb, hml, hown, hts⟩ (mX7_isDigit l D cy st sk sv B  n r139 r142 hc142) (va_cwS 1 hts gX7_nextToken_X7_isDigit rfl rfl rfl (by decide +kernel) ⟨Nat.le_of_ble_eq_true rfl, Nat.le_of_ble_eq_true rfl⟩) hG hS hAB hP [] rfl rfl hl.1 rfl (Nat.le_of_ble_eq_true rfl) dX7_nextToken_142 rfl ?_
          refine lv_if_eq (tgt := 201) hx hb dX7_nextToken_145 (by decide) (fun c_145 => ?_) (fun c_145 => ?_)
          · have hf := zp hf c_145
            exact hB201 M_isHeld M_taped M_token M_from M_to M_value M_isWrong M_rowN M_ran M_actKind M_actN M_actA M_isParted hf _ _ hP hD hS _ (lv_sub hl [0] rfl)
          · have hf := zn hf c_145
            refine lv_aload_n hx hb dX7_nextToken_148 rfl (lv_at hl 0 rfl) ?_
            refine lv_aload_n hx hb dX7_nextToken_149 rfl (lv_at hl 0 rfl) ?_
            refine va_get (D := D) (ci := 7) (v := .int M_value) (C := RX7) (T := TX7) (N := 26) hx hb hts hin7 hown hK hP 0 rfl rfl 10 (by decide) fl84 (fun _ h9 => h9) rfl dX7_nextToken_150 ?_
            refine lv_sipush (v := (999 : Int32)) hx hb dX7_nextToken_153 (by decide) ?_
            refine lv_icmp_le (tgt := 166) hx hb dX7_nextToken_156 (by decide) (fun c_156 => ?_) (fun c_156 => ?_)
            · have hf := zp hf c_156
              refine lv_bipush (v := (10 : Int32)) hx hb dX7_nextToken_166 (by decide) ?_
              refine lv_aload_n hx hb dX7_nextToken_168 rfl (lv_at hl 0 rfl) ?_
              refine va_get (D := D) (ci := 7) (v := .int M_value) (C := RX7) (T := TX7) (N := 26) hx hb hts hin7 hown hK hP 0 rfl rfl 10 (by decide) fl84 (fun _ h9 => h9) rfl dX7_nextToken_169 ?_
              refine lv_imul hx hb dX7_nextToken_172 ?_
              refine lv_aload_n hx hb dX7_nextToken_173 rfl (lv_at hl 0 rfl) ?_
              refine lv_aload_n hx hb dX7_nextToken_174 rfl (lv_at hl 0 rfl) ?_
              refine va_get (D := D) (ci := 7) (v := .int M_to) (C := RX7) (T := TX7) (N := 26) hx hb hts hin7 hown hK hP 0 rfl rfl 9 (by decide) fl64 (fun _ h9 => h9) rfl dX7_nextToken_175 ?_
              obtain ⟨r178, hc178, hf⟩ := zb hf
              refine zvr (o := some (.int r178)) (As := [.int M_to]) (rest := [.int ((10 : Int32) * M_value), .ref am]) (stk := [.int r178, .int ((10 : Int32) * M_value), .ref am]) ⟨hx, hb, hml, hown, hts⟩ (mX7_byteAt l D cy st sk sv B am am0 am1 am2 am3 am4 am5 am6 am7 am8 am9 am10 am11 am12 n M_isHeld M_taped M_token M_from M_to M_value M_isWrong M_rowN M_ran M_actKind M_actN M_actA M_isParted u_tape M_to r178 hc178) (cwV 1 hts gX7_nextToken_X7_byteAt rfl rfl rfl (by decide +kernel) ⟨Nat.le_of_ble_eq_true rfl, Nat.le_of_ble_eq_true rfl⟩) hG hS hAB hP [0, 1] rfl 0 7 rfl rfl rfl rfl hl.1 rfl (Nat.le_of_ble_eq_true rfl) dX7_nextToken_178 rfl ?_
              refine lv_iadd hx hb dX7_nextToken_181 ?_
              refine lv_bipush (v := (48 : Int32)) hx hb dX7_nextToken_182 (by decide) ?_
              refine lv_isub hx hb dX7_nextToken_184 ?_
              exact hB185 M_isHeld M_taped M_token M_from M_to M_value M_isWrong M_rowN M_ran M_actKind M_actN M_actA M_isParted ((((10 : Int32) * M_value) + r178) - (48 : Int32)) hf _ _ hP hD hS _ (lv_sub hl [0] rfl)
            · have hf := zn hf c_156
              refine lv_aload_n hx hb dX7_nextToken_159 rfl (lv_at hl 0 rfl) ?_
              refine va_get (D := D) (ci := 7) (v := .int M_value) (C := RX7) (T := TX7) (N := 26) hx hb hts hin7 hown hK hP 0 rfl rfl 10 (by decide) fl84 (fun _ h9 => h9) rfl dX7_nextToken_160 ?_
              refine lv_goto (tgt := 185) hx hb dX7_nextToken_163 (by decide) ?_
              exact hB185 M_isHeld M_taped M_token M_from M_to M_value M_isWrong M_rowN M_ran M_actKind M_actN M_actA M_isParted M_value hf _ _ hP hD hS _ (lv_sub hl [0] rfl)
      exact fun v126 h9 => hstep v126.1 v126.2.1 v126.2.2.1 v126.2.2.2.1 v126.2.2.2.2.1 v126.2.2.2.2.2.1 v126.2.2.2.2.2.2.1 v126.2.2.2.2.2.2.2.1 v126.2.2.2.2.2.2.2.2.1 v126.2.2.2.2.2.2.2.2.2.1 v126.2.2.2.2.2.2.2.2.2.2.1 v126.2.2.2.2.2.2.2.2.2.2.2.1 v126.2.2.2.2.2.2.2.2.2.2.2.2 h9
    exact fun n0 M_isHeld M_taped M_token M_from M_to M_value M_isWrong M_rowN M_ran M_actKind M_actN M_actA M_isParted h9 => key n0 (M_isHeld, M_taped, M_token, M_from, M_to, M_value, M_isWrong, M_rowN, M_ran, M_actKind, M_actN, M_actA, M_isParted) h9
  have hL91 : ∀ (n0 : Nat) (M_isHeld : Int32) (M_taped : Int32) (M_token : Int32) (M_from : Int32) (M_to : Int32) (M_value : Int32) (M_isWrong : Int32) (M_rowN : Int32) (M_ran : Int32) (M_actKind : Int32) (M_actN : Int32) (M_actA : Int32) (M_isParted : Int32), lpF (fX7_nextToken_F91 n u_tape ) n0 (M_isHeld, M_taped, M_token, M_from, M_to, M_value, M_isWrong, M_rowN, M_ran, M_actKind, M_actN, M_actA, M_isParted) = some z → ∀ (H : Heap) (locs : List Loc), va_P D vwCl [(am, .inr (7, [.ref am0, .ref am1, .ref am2, .ref am3, .int M_isHeld, .ref am4, .int M_taped, .int M_token, .int M_from, .int M_to, .int M_value, .int M_isWrong, .ref am5, .int M_rowN, .ref am6, .ref am7, .ref am8, .ref am9, .ref am10, .ref am11, .ref am12, .int M_ran, .int M_actKind, .int M_actN, .int M_actA, .int M_isParted])), (am4, .inl (cy 0, 200, .inl u_tape))] H → va_D A [(am, .inr (7, [.ref am0, .ref am1, .ref am2, .ref am3, .int M_isHeld, .ref am4, .int M_taped, .int M_token, .int M_from, .int M_to, .int M_value, .int M_isWrong, .ref am5, .int M_rowN, .ref am6, .ref am7, .ref am8, .ref am9, .ref am10, .ref am11, .ref am12, .int M_ran, .int M_actKind, .int M_actN, .int M_actA, .int M_isParted])), (am4, .inl (cy 0, 200, .inl u_tape))] → va_S A s.heap H locs → ∀ (ls : Array Slot), lv_has ls 2 [(0, .ref am)] → W p l e (headSpec wsX7_nextToken ({ frames := 1, cells := 0, slots := 0, locals := 21 })).room s m ([.ref am] : List Value).toArray below meth c H locs 0 0 (MQ below (Qw (none) D [(am, .inr (7, [.ref am0, .ref am1, .ref am2, .ref am3, .int z.1, .ref am4, .int z.2.1, .int z.2.2.1, .int z.2.2.2.1, .int z.2.2.2.2.1, .int z.2.2.2.2.2.1, .int z.2.2.2.2.2.2.1, .ref am5, .int z.2.2.2.2.2.2.2.1, .ref am6, .ref am7, .ref am8, .ref am9, .ref am10, .ref am11, .ref am12, .int z.2.2.2.2.2.2.2.2.1, .int z.2.2.2.2.2.2.2.2.2.1, .int z.2.2.2.2.2.2.2.2.2.2.1, .int z.2.2.2.2.2.2.2.2.2.2.2.1, .int z.2.2.2.2.2.2.2.2.2.2.2.2])), (am4, .inl (cy 0, 200, .inl u_tape))] A) ([.ref am] : List Value).toArray s 0 0 A) (F0 m 91 ls []) := by
    have key : ∀ (n0 : Nat) (v91 : MO), lpF (fX7_nextToken_F91 n u_tape ) n0 v91 = some z → ∀ (H : Heap) (locs : List Loc), va_P D vwCl [(am, .inr (7, [.ref am0, .ref am1, .ref am2, .ref am3, .int v91.1, .ref am4, .int v91.2.1, .int v91.2.2.1, .int v91.2.2.2.1, .int v91.2.2.2.2.1, .int v91.2.2.2.2.2.1, .int v91.2.2.2.2.2.2.1, .ref am5, .int v91.2.2.2.2.2.2.2.1, .ref am6, .ref am7, .ref am8, .ref am9, .ref am10, .ref am11, .ref am12, .int v91.2.2.2.2.2.2.2.2.1, .int v91.2.2.2.2.2.2.2.2.2.1, .int v91.2.2.2.2.2.2.2.2.2.2.1, .int v91.2.2.2.2.2.2.2.2.2.2.2.1, .int v91.2.2.2.2.2.2.2.2.2.2.2.2])), (am4, .inl (cy 0, 200, .inl u_tape))] H → va_D A [(am, .inr (7, [.ref am0, .ref am1, .ref am2, .ref am3, .int v91.1, .ref am4, .int v91.2.1, .int v91.2.2.1, .int v91.2.2.2.1, .int v91.2.2.2.2.1, .int v91.2.2.2.2.2.1, .int v91.2.2.2.2.2.2.1, .ref am5, .int v91.2.2.2.2.2.2.2.1, .ref am6, .ref am7, .ref am8, .ref am9, .ref am10, .ref am11, .ref am12, .int v91.2.2.2.2.2.2.2.2.1, .int v91.2.2.2.2.2.2.2.2.2.1, .int v91.2.2.2.2.2.2.2.2.2.2.1, .int v91.2.2.2.2.2.2.2.2.2.2.2.1, .int v91.2.2.2.2.2.2.2.2.2.2.2.2])), (am4, .inl (cy 0, 200, .inl u_tape))] → va_S A s.heap H locs → ∀ (ls : Array Slot), lv_has ls 2 [(0, .ref am)] → W p l e (headSpec wsX7_nextToken ({ frames := 1, cells := 0, slots := 0, locals := 21 })).room s m ([.ref am] : List Value).toArray below meth c H locs 0 0 (MQ below (Qw (none) D [(am, .inr (7, [.ref am0, .ref am1, .ref am2, .ref am3, .int z.1, .ref am4, .int z.2.1, .int z.2.2.1, .int z.2.2.2.1, .int z.2.2.2.2.1, .int z.2.2.2.2.2.1, .int z.2.2.2.2.2.2.1, .ref am5, .int z.2.2.2.2.2.2.2.1, .ref am6, .ref am7, .ref am8, .ref am9, .ref am10, .ref am11, .ref am12, .int z.2.2.2.2.2.2.2.2.1, .int z.2.2.2.2.2.2.2.2.2.1, .int z.2.2.2.2.2.2.2.2.2.2.1, .int z.2.2.2.2.2.2.2.2.2.2.2.1, .int z.2.2.2.2.2.2.2.2.2.2.2.2])), (am4, .inl (cy 0, 200, .inl u_tape))] A) ([.ref am] : List Value).toArray s 0 0 A) (F0 m 91 ls []) := by
      refine lpW ?_
      intro k91 hk910
      have hk91 : ∀ (M_isHeld : Int32) (M_taped : Int32) (M_token : Int32) (M_from : Int32) (M_to : Int32) (M_value : Int32) (M_isWrong : Int32) (M_rowN : Int32) (M_ran : Int32) (M_actKind : Int32) (M_actN : Int32) (M_actA : Int32) (M_isParted : Int32), k91 (M_isHeld, M_taped, M_token, M_from, M_to, M_value, M_isWrong, M_rowN, M_ran, M_actKind, M_actN, M_actA, M_isParted) = some z → ∀ (H : Heap) (locs : List Loc), va_P D vwCl [(am, .inr (7, [.ref am0, .ref am1, .ref am2, .ref am3, .int M_isHeld, .ref am4, .int M_taped, .int M_token, .int M_from, .int M_to, .int M_value, .int M_isWrong, .ref am5, .int M_rowN, .ref am6, .ref am7, .ref am8, .ref am9, .ref am10, .ref am11, .ref am12, .int M_ran, .int M_actKind, .int M_actN, .int M_actA, .int M_isParted])), (am4, .inl (cy 0, 200, .inl u_tape))] H → va_D A [(am, .inr (7, [.ref am0, .ref am1, .ref am2, .ref am3, .int M_isHeld, .ref am4, .int M_taped, .int M_token, .int M_from, .int M_to, .int M_value, .int M_isWrong, .ref am5, .int M_rowN, .ref am6, .ref am7, .ref am8, .ref am9, .ref am10, .ref am11, .ref am12, .int M_ran, .int M_actKind, .int M_actN, .int M_actA, .int M_isParted])), (am4, .inl (cy 0, 200, .inl u_tape))] → va_S A s.heap H locs → ∀ (ls : Array Slot), lv_has ls 2 [(0, .ref am)] → W p l e (headSpec wsX7_nextToken ({ frames := 1, cells := 0, slots := 0, locals := 21 })).room s m ([.ref am] : List Value).toArray below meth c H locs 0 0 (MQ below (Qw (none) D [(am, .inr (7, [.ref am0, .ref am1, .ref am2, .ref am3, .int z.1, .ref am4, .int z.2.1, .int z.2.2.1, .int z.2.2.2.1, .int z.2.2.2.2.1, .int z.2.2.2.2.2.1, .int z.2.2.2.2.2.2.1, .ref am5, .int z.2.2.2.2.2.2.2.1, .ref am6, .ref am7, .ref am8, .ref am9, .ref am10, .ref am11, .ref am12, .int z.2.2.2.2.2.2.2.2.1, .int z.2.2.2.2.2.2.2.2.2.1, .int z.2.2.2.2.2.2.2.2.2.2.1, .int z.2.2.2.2.2.2.2.2.2.2.2.1, .int z.2.2.2.2.2.2.2.2.2.2.2.2])), (am4, .inl (cy 0, 200, .inl u_tape))] A) ([.ref am] : List Value).toArray s 0 0 A) (F0 m 91 ls []) := fun M_isHeld M_taped M_token M_from M_to M_value M_isWrong M_rowN M_ran M_actKind M_actN M_actA M_isParted h9 => hk910 (M_isHeld, M_taped, M_token, M_from, M_to, M_value, M_isWrong, M_rowN, M_ran, M_actKind, M_actN, M_actA, M_isParted) h9
      have hstep : ∀ (M_isHeld : Int32) (M_taped : Int32) (M_token : Int32) (M_from : Int32) (M_to : Int32) (M_value : Int32) (M_isWrong : Int32) (M_rowN : Int32) (M_ran : Int32) (M_actKind : Int32) (M_actN : Int32) (M_actA : Int32) (M_isParted : Int32), fX7_nextToken_F91 n u_tape  k91 (M_isHeld, M_taped, M_token, M_from, M_to, M_value, M_isWrong, M_rowN, M_ran, M_actKind, M_actN, M_actA, M_isParted) = some z → ∀ (H : Heap) (locs : List Loc), va_P D vwCl [(am, .inr (7, [.ref am0, .ref am1, .ref am2, .ref am3, .int M_isHeld, .ref am4, .int M_taped, .int M_token, .int M_from, .int M_to, .int M_value, .int M_isWrong, .ref am5, .int M_rowN, .ref am6, .ref am7, .ref am8, .ref am9, .ref am10, .ref am11, .ref am12, .int M_ran, .int M_actKind, .int M_actN, .int M_actA, .int M_isParted])), (am4, .inl (cy 0, 200, .inl u_tape))] H → va_D A [(am, .inr (7, [.ref am0, .ref am1, .ref am2, .ref am3, .int M_isHeld, .ref am4, .int M_taped, .int M_token, .int M_from, .int M_to, .int M_value, .int M_isWrong, .ref am5, .int M_rowN, .ref am6, .ref am7, .ref am8, .ref am9, .ref am10, .ref am11, .ref am12, .int M_ran, .int M_actKind, .int M_actN, .int M_actA, .int M_isParted])), (am4, .inl (cy 0, 200, .inl u_tape))] → va_S A s.heap H locs → ∀ (ls : Array Slot), lv_has ls 2 [(0, .ref am)] → W p l e (headSpec wsX7_nextToken ({ frames := 1, cells := 0, slots := 0, locals := 21 })).room s m ([.ref am] : List Value).toArray below meth c H locs 0 0 (MQ below (Qw (none) D [(am, .inr (7, [.ref am0, .ref am1, .ref am2, .ref am3, .int z.1, .ref am4, .int z.2.1, .int z.2.2.1, .int z.2.2.2.1, .int z.2.2.2.2.1, .int z.2.2.2.2.2.1, .int z.2.2.2.2.2.2.1, .ref am5, .int z.2.2.2.2.2.2.2.1, .ref am6, .ref am7, .ref am8, .ref am9, .ref am10, .ref am11, .ref am12, .int z.2.2.2.2.2.2.2.2.1, .int z.2.2.2.2.2.2.2.2.2.1, .int z.2.2.2.2.2.2.2.2.2.2.1, .int z.2.2.2.2.2.2.2.2.2.2.2.1, .int z.2.2.2.2.2.2.2.2.2.2.2.2])), (am4, .inl (cy 0, 200, .inl u_tape))] A) ([.ref am] : List Value).toArray s 0 0 A) (F0 m 91 ls []) := by
        intro M_isHeld M_taped M_token M_from M_to M_value M_isWrong M_rowN M_ran M_actKind M_actN M_actA M_isParted hf H locs hP hD hS ls hl
        have hf : (if M_token = (1 : Int32) then ((fX7_byteAt n (M_isHeld, M_taped, M_token, M_from, M_to, M_value, M_isWrong, M_rowN, M_ran, M_actKind, M_actN, M_actA, M_isParted) u_tape M_to).bind fun r104 => (fX7_isAlpha n r104).bind fun r107 => if r107 = 0 then (lpF (fX7_nextToken_F126 n u_tape ) n (M_isHeld, M_taped, M_token, M_from, M_to, M_value, M_isWrong, M_rowN, M_ran, M_actKind, M_actN, M_actA, M_isParted)) else (k91 (M_isHeld, M_taped, M_token, M_from, (M_to + (1 : Int32)), M_value, M_isWrong, M_rowN, M_ran, M_actKind, M_actN, M_actA, M_isParted))) else (lpF (fX7_nextToken_F126 n u_tape ) n (M_isHeld, M_taped, M_token, M_from, M_to, M_value, M_isWrong, M_rowN, M_ran, M_actKind, M_actN, M_actA, M_isParted))) = some z := hf
        refine lv_aload_n hx hb dX7_nextToken_91 rfl (lv_at hl 0 rfl) ?_
        refine va_get (D := D) (ci := 7) (v := .int M_token) (C := RX7) (T := TX7) (N := 26) hx hb hts hin7 hown hK hP 0 rfl rfl 7 (by decide) fl81 (fun _ h9 => h9) rfl dX7_nextToken_92 ?_
        refine lv_iconst (v := (1 : Int32)) hx hb dX7_nextToken_95 (by decide) ?_
        refine lv_icmp_ne (tgt := 126) hx hb dX7_nextToken_96 (by decide) (fun c_96 => ?_) (fun c_96 => ?_)
        · have hf := zn hf c_96
          exact hL126 n M_isHeld M_taped M_token M_from M_to M_value M_isWrong M_rowN M_ran M_actKind M_actN M_actA M_isParted hf _ _ hP hD hS _ (lv_sub hl [0] rfl)
        · have hf := zp hf c_96
          refine lv_aload_n hx hb dX7_nextToken_99 rfl (lv_at hl 0 rfl) ?_
          refine lv_aload_n hx hb dX7_nextToken_100 rfl (lv_at hl 0 rfl) ?_
          refine va_get (D := D) (ci := 7) (v := .int M_to) (C := RX7) (T := TX7) (N := 26) hx hb hts hin7 hown hK hP 0 rfl rfl 9 (by decide) fl64 (fun _ h9 => h9) rfl dX7_nextToken_101 ?_
          obtain ⟨r104, hc104, hf⟩ := zb hf
          refine zvr (o := some (.int r104)) (As := [.int M_to]) (rest := []) (stk := [.int r104]) ⟨hx, hb, hml, hown, hts⟩ (mX7_byteAt l D cy st sk sv B am am0 am1 am2 am3 am4 am5 am6 am7 am8 am9 am10 am11 am12 n M_isHeld M_taped M_token M_from M_to M_value M_isWrong M_rowN M_ran M_actKind M_actN M_actA M_isParted u_tape M_to r104 hc104) (cwV 1 hts gX7_nextToken_X7_byteAt rfl rfl rfl (by decide +kernel) ⟨Nat.le_of_ble_eq_true rfl, Nat.le_of_ble_eq_true rfl⟩) hG hS hAB hP [0, 1] rfl 0 7 rfl rfl rfl rfl hl.1 rfl (Nat.le_of_ble_eq_true rfl) dX7_nextToken_104 rfl ?_
          obtain ⟨r107, hc107, hf⟩ := zb hf
          refine zsr (o := some (.int r107)) (As := [.int r104]) (rest := []) (stk := [.int r107]) ⟨hx, hb, hml, hown, hts⟩ (mX7_isAlpha l D cy st sk sv B  n r104 r107 hc107) (va_cwS 1 hts gX7_nextToken_X7_isAlpha rfl rfl rfl (by decide +kernel) ⟨Nat.le_of_ble_eq_true rfl, Nat.le_of_ble_eq_true rfl⟩) hG hS hAB hP [] rfl rfl hl.1 rfl (Nat.le_of_ble_eq_true rfl) dX7_nextToken_107 rfl ?_
          refine lv_if_eq (tgt := 126) hx hb dX7_nextToken_110 (by decide) (fun c_110 => ?_) (fun c_110 => ?_)
          · have hf := zp hf c_110
            exact hL126 n M_isHeld M_taped M_token M_from M_to M_value M_isWrong M_rowN M_ran M_actKind M_actN M_actA M_isParted hf _ _ hP hD hS _ (lv_sub hl [0] rfl)
          · have hf := zn hf c_110
            refine lv_aload_n hx hb dX7_nextToken_113 rfl (lv_at hl 0 rfl) ?_
            refine lv_dup hx hb dX7_nextToken_114 rfl ?_
            refine va_get (D := D) (ci := 7) (v := .int M_to) (C := RX7) (T := TX7) (N := 26) hx hb hts hin7 hown hK hP 0 rfl rfl 9 (by decide) fl64 (fun _ h9 => h9) rfl dX7_nextToken_115 ?_
            refine lv_iconst (v := (1 : Int32)) hx hb dX7_nextToken_118 (by decide) ?_
            refine lv_iadd hx hb dX7_nextToken_119 ?_
            refine va_put (D := D) (ci := 7) (v := .int (M_to + (1 : Int32))) (ty := .int) (C := RX7) (T := TX7) (N := 26) hx hb hts hin7 tyX7 tyX7_ok nmX7 hown hK hP hD hS 0 rfl rfl 9 (by decide) fl64 (fun _ h9 => h9) rfl (by decide +kernel) rfl rfl (Nat.le_of_ble_eq_true rfl) dX7_nextToken_120 (fun H locs hP hD hS => ?_)
            have hP : va_P D vwCl [(am, .inr (7, [.ref am0, .ref am1, .ref am2, .ref am3, .int M_isHeld, .ref am4, .int M_taped, .int M_token, .int M_from, .int (M_to + (1 : Int32)), .int M_value, .int M_isWrong, .ref am5, .int M_rowN, .ref am6, .ref am7, .ref am8, .ref am9, .ref am10, .ref am11, .ref am12, .int M_ran, .int M_actKind, .int M_actN, .int M_actA, .int M_isParted])), (am4, .inl (cy 0, 200, .inl u_tape))] H := hP
            have hD : va_D A [(am, .inr (7, [.ref am0, .ref am1, .ref am2, .ref am3, .int M_isHeld, .ref am4, .int M_taped, .int M_token, .int M_from, .int (M_to + (1 : Int32)), .int M_value, .int M_isWrong, .ref am5, .int M_rowN, .ref am6, .ref am7, .ref am8, .ref am9, .ref am10, .ref am11, .ref am12, .int M_ran, .int M_actKind, .int M_actN, .int M_actA, .int M_isParted])), (am4, .inl (cy 0, 200, .inl u_tape))] := hD
            refine lv_goto (tgt := 91) hx hb dX7_nextToken_123 (by decide) ?_
            exact hk91 M_isHeld M_taped M_token M_from (M_to + (1 : Int32)) M_value M_isWrong M_rowN M_ran M_actKind M_actN M_actA M_isParted hf _ _ hP hD hS _ (lv_sub hl [0] rfl)
      exact fun v91 h9 => hstep v91.1 v91.2.1 v91.2.2.1 v91.2.2.2.1 v91.2.2.2.2.1 v91.2.2.2.2.2.1 v91.2.2.2.2.2.2.1 v91.2.2.2.2.2.2.2.1 v91.2.2.2.2.2.2.2.2.1 v91.2.2.2.2.2.2.2.2.2.1 v91.2.2.2.2.2.2.2.2.2.2.1 v91.2.2.2.2.2.2.2.2.2.2.2.1 v91.2.2.2.2.2.2.2.2.2.2.2.2 h9
    exact fun n0 M_isHeld M_taped M_token M_from M_to M_value M_isWrong M_rowN M_ran M_actKind M_actN M_actA M_isParted h9 => key n0 (M_isHeld, M_taped, M_token, M_from, M_to, M_value, M_isWrong, M_rowN, M_ran, M_actKind, M_actN, M_actA, M_isParted) h9
  have hB83 : ∀ (M_isHeld : Int32) (M_taped : Int32) (M_token : Int32) (M_from : Int32) (M_to : Int32) (M_value : Int32) (M_isWrong : Int32) (M_rowN : Int32) (M_ran : Int32) (M_actKind : Int32) (M_actN : Int32) (M_actA : Int32) (M_isParted : Int32) (w1 : Int32), fX7_nextToken_b83 n u_tape  (M_isHeld, M_taped, M_token, M_from, M_to, M_value, M_isWrong, M_rowN, M_ran, M_actKind, M_actN, M_actA, M_isParted) w1 = some z → ∀ (H : Heap) (locs : List Loc), va_P D vwCl [(am, .inr (7, [.ref am0, .ref am1, .ref am2, .ref am3, .int M_isHeld, .ref am4, .int M_taped, .int M_token, .int M_from, .int M_to, .int M_value, .int M_isWrong, .ref am5, .int M_rowN, .ref am6, .ref am7, .ref am8, .ref am9, .ref am10, .ref am11, .ref am12, .int M_ran, .int M_actKind, .int M_actN, .int M_actA, .int M_isParted])), (am4, .inl (cy 0, 200, .inl u_tape))] H → va_D A [(am, .inr (7, [.ref am0, .ref am1, .ref am2, .ref am3, .int M_isHeld, .ref am4, .int M_taped, .int M_token, .int M_from, .int M_to, .int M_value, .int M_isWrong, .ref am5, .int M_rowN, .ref am6, .ref am7, .ref am8, .ref am9, .ref am10, .ref am11, .ref am12, .int M_ran, .int M_actKind, .int M_actN, .int M_actA, .int M_isParted])), (am4, .inl (cy 0, 200, .inl u_tape))] → va_S A s.heap H locs → ∀ (ls : Array Slot), lv_has ls 2 [(0, .ref am)] → W p l e (headSpec wsX7_nextToken ({ frames := 1, cells := 0, slots := 0, locals := 21 })).room s m ([.ref am] : List Value).toArray below meth c H locs 0 0 (MQ below (Qw (none) D [(am, .inr (7, [.ref am0, .ref am1, .ref am2, .ref am3, .int z.1, .ref am4, .int z.2.1, .int z.2.2.1, .int z.2.2.2.1, .int z.2.2.2.2.1, .int z.2.2.2.2.2.1, .int z.2.2.2.2.2.2.1, .ref am5, .int z.2.2.2.2.2.2.2.1, .ref am6, .ref am7, .ref am8, .ref am9, .ref am10, .ref am11, .ref am12, .int z.2.2.2.2.2.2.2.2.1, .int z.2.2.2.2.2.2.2.2.2.1, .int z.2.2.2.2.2.2.2.2.2.2.1, .int z.2.2.2.2.2.2.2.2.2.2.2.1, .int z.2.2.2.2.2.2.2.2.2.2.2.2])), (am4, .inl (cy 0, 200, .inl u_tape))] A) ([.ref am] : List Value).toArray s 0 0 A) (F0 m 83 ls [.int w1, .ref am]) := by
    intro M_isHeld M_taped M_token M_from M_to M_value M_isWrong M_rowN M_ran M_actKind M_actN M_actA M_isParted w1 hf H locs hP hD hS ls hl
    have hf : (lpF (fX7_nextToken_F91 n u_tape ) n (M_isHeld, M_taped, w1, M_from, M_to, (0 : Int32), M_isWrong, M_rowN, M_ran, M_actKind, M_actN, M_actA, M_isParted)) = some z := hf
    refine va_put (D := D) (ci := 7) (v := .int w1) (ty := .int) (C := RX7) (T := TX7) (N := 26) hx hb hts hin7 tyX7 tyX7_ok nmX7 hown hK hP hD hS 0 rfl rfl 7 (by decide) fl81 (fun _ h9 => h9) rfl (by decide +kernel) rfl rfl (Nat.le_of_ble_eq_true rfl) dX7_nextToken_83 (fun H locs hP hD hS => ?_)
    have hP : va_P D vwCl [(am, .inr (7, [.ref am0, .ref am1, .ref am2, .ref am3, .int M_isHeld, .ref am4, .int M_taped, .int w1, .int M_from, .int M_to, .int M_value, .int M_isWrong, .ref am5, .int M_rowN, .ref am6, .ref am7, .ref am8, .ref am9, .ref am10, .ref am11, .ref am12, .int M_ran, .int M_actKind, .int M_actN, .int M_actA, .int M_isParted])), (am4, .inl (cy 0, 200, .inl u_tape))] H := hP
    have hD : va_D A [(am, .inr (7, [.ref am0, .ref am1, .ref am2, .ref am3, .int M_isHeld, .ref am4, .int M_taped, .int w1, .int M_from, .int M_to, .int M_value, .int M_isWrong, .ref am5, .int M_rowN, .ref am6, .ref am7, .ref am8, .ref am9, .ref am10, .ref am11, .ref am12, .int M_ran, .int M_actKind, .int M_actN, .int M_actA, .int M_isParted])), (am4, .inl (cy 0, 200, .inl u_tape))] := hD
    refine lv_aload_n hx hb dX7_nextToken_86 rfl (lv_at hl 0 rfl) ?_
    refine lv_iconst (v := (0 : Int32)) hx hb dX7_nextToken_87 (by decide) ?_
    refine va_put (D := D) (ci := 7) (v := .int (0 : Int32)) (ty := .int) (C := RX7) (T := TX7) (N := 26) hx hb hts hin7 tyX7 tyX7_ok nmX7 hown hK hP hD hS 0 rfl rfl 10 (by decide) fl84 (fun _ h9 => h9) rfl (by decide +kernel) rfl rfl (Nat.le_of_ble_eq_true rfl) dX7_nextToken_88 (fun H locs hP hD hS => ?_)
    have hP : va_P D vwCl [(am, .inr (7, [.ref am0, .ref am1, .ref am2, .ref am3, .int M_isHeld, .ref am4, .int M_taped, .int w1, .int M_from, .int M_to, .int (0 : Int32), .int M_isWrong, .ref am5, .int M_rowN, .ref am6, .ref am7, .ref am8, .ref am9, .ref am10, .ref am11, .ref am12, .int M_ran, .int M_actKind, .int M_actN, .int M_actA, .int M_isParted])), (am4, .inl (cy 0, 200, .inl u_tape))] H := hP
    have hD : va_D A [(am, .inr (7, [.ref am0, .ref am1, .ref am2, .ref am3, .int M_isHeld, .ref am4, .int M_taped, .int w1, .int M_from, .int M_to, .int (0 : Int32), .int M_isWrong, .ref am5, .int M_rowN, .ref am6, .ref am7, .ref am8, .ref am9, .ref am10, .ref am11, .ref am12, .int M_ran, .int M_actKind, .int M_actN, .int M_actA, .int M_isParted])), (am4, .inl (cy 0, 200, .inl u_tape))] := hD
    exact hL91 n M_isHeld M_taped w1 M_from M_to (0 : Int32) M_isWrong M_rowN M_ran M_actKind M_actN M_actA M_isParted hf _ _ hP hD hS _ (lv_sub hl [0] rfl)
  have hL8 : ∀ (n0 : Nat) (M_isHeld : Int32) (M_taped : Int32) (M_token : Int32) (M_from : Int32) (M_to : Int32) (M_value : Int32) (M_isWrong : Int32) (M_rowN : Int32) (M_ran : Int32) (M_actKind : Int32) (M_actN : Int32) (M_actA : Int32) (M_isParted : Int32), lpF (fX7_nextToken_F8 n u_tape ) n0 (M_isHeld, M_taped, M_token, M_from, M_to, M_value, M_isWrong, M_rowN, M_ran, M_actKind, M_actN, M_actA, M_isParted) = some z → ∀ (H : Heap) (locs : List Loc), va_P D vwCl [(am, .inr (7, [.ref am0, .ref am1, .ref am2, .ref am3, .int M_isHeld, .ref am4, .int M_taped, .int M_token, .int M_from, .int M_to, .int M_value, .int M_isWrong, .ref am5, .int M_rowN, .ref am6, .ref am7, .ref am8, .ref am9, .ref am10, .ref am11, .ref am12, .int M_ran, .int M_actKind, .int M_actN, .int M_actA, .int M_isParted])), (am4, .inl (cy 0, 200, .inl u_tape))] H → va_D A [(am, .inr (7, [.ref am0, .ref am1, .ref am2, .ref am3, .int M_isHeld, .ref am4, .int M_taped, .int M_token, .int M_from, .int M_to, .int M_value, .int M_isWrong, .ref am5, .int M_rowN, .ref am6, .ref am7, .ref am8, .ref am9, .ref am10, .ref am11, .ref am12, .int M_ran, .int M_actKind, .int M_actN, .int M_actA, .int M_isParted])), (am4, .inl (cy 0, 200, .inl u_tape))] → va_S A s.heap H locs → ∀ (ls : Array Slot), lv_has ls 2 [(0, .ref am)] → W p l e (headSpec wsX7_nextToken ({ frames := 1, cells := 0, slots := 0, locals := 21 })).room s m ([.ref am] : List Value).toArray below meth c H locs 0 0 (MQ below (Qw (none) D [(am, .inr (7, [.ref am0, .ref am1, .ref am2, .ref am3, .int z.1, .ref am4, .int z.2.1, .int z.2.2.1, .int z.2.2.2.1, .int z.2.2.2.2.1, .int z.2.2.2.2.2.1, .int z.2.2.2.2.2.2.1, .ref am5, .int z.2.2.2.2.2.2.2.1, .ref am6, .ref am7, .ref am8, .ref am9, .ref am10, .ref am11, .ref am12, .int z.2.2.2.2.2.2.2.2.1, .int z.2.2.2.2.2.2.2.2.2.1, .int z.2.2.2.2.2.2.2.2.2.2.1, .int z.2.2.2.2.2.2.2.2.2.2.2.1, .int z.2.2.2.2.2.2.2.2.2.2.2.2])), (am4, .inl (cy 0, 200, .inl u_tape))] A) ([.ref am] : List Value).toArray s 0 0 A) (F0 m 8 ls []) := by
    have key : ∀ (n0 : Nat) (v8 : MO), lpF (fX7_nextToken_F8 n u_tape ) n0 v8 = some z → ∀ (H : Heap) (locs : List Loc), va_P D vwCl [(am, .inr (7, [.ref am0, .ref am1, .ref am2, .ref am3, .int v8.1, .ref am4, .int v8.2.1, .int v8.2.2.1, .int v8.2.2.2.1, .int v8.2.2.2.2.1, .int v8.2.2.2.2.2.1, .int v8.2.2.2.2.2.2.1, .ref am5, .int v8.2.2.2.2.2.2.2.1, .ref am6, .ref am7, .ref am8, .ref am9, .ref am10, .ref am11, .ref am12, .int v8.2.2.2.2.2.2.2.2.1, .int v8.2.2.2.2.2.2.2.2.2.1, .int v8.2.2.2.2.2.2.2.2.2.2.1, .int v8.2.2.2.2.2.2.2.2.2.2.2.1, .int v8.2.2.2.2.2.2.2.2.2.2.2.2])), (am4, .inl (cy 0, 200, .inl u_tape))] H → va_D A [(am, .inr (7, [.ref am0, .ref am1, .ref am2, .ref am3, .int v8.1, .ref am4, .int v8.2.1, .int v8.2.2.1, .int v8.2.2.2.1, .int v8.2.2.2.2.1, .int v8.2.2.2.2.2.1, .int v8.2.2.2.2.2.2.1, .ref am5, .int v8.2.2.2.2.2.2.2.1, .ref am6, .ref am7, .ref am8, .ref am9, .ref am10, .ref am11, .ref am12, .int v8.2.2.2.2.2.2.2.2.1, .int v8.2.2.2.2.2.2.2.2.2.1, .int v8.2.2.2.2.2.2.2.2.2.2.1, .int v8.2.2.2.2.2.2.2.2.2.2.2.1, .int v8.2.2.2.2.2.2.2.2.2.2.2.2])), (am4, .inl (cy 0, 200, .inl u_tape))] → va_S A s.heap H locs → ∀ (ls : Array Slot), lv_has ls 2 [(0, .ref am)] → W p l e (headSpec wsX7_nextToken ({ frames := 1, cells := 0, slots := 0, locals := 21 })).room s m ([.ref am] : List Value).toArray below meth c H locs 0 0 (MQ below (Qw (none) D [(am, .inr (7, [.ref am0, .ref am1, .ref am2, .ref am3, .int z.1, .ref am4, .int z.2.1, .int z.2.2.1, .int z.2.2.2.1, .int z.2.2.2.2.1, .int z.2.2.2.2.2.1, .int z.2.2.2.2.2.2.1, .ref am5, .int z.2.2.2.2.2.2.2.1, .ref am6, .ref am7, .ref am8, .ref am9, .ref am10, .ref am11, .ref am12, .int z.2.2.2.2.2.2.2.2.1, .int z.2.2.2.2.2.2.2.2.2.1, .int z.2.2.2.2.2.2.2.2.2.2.1, .int z.2.2.2.2.2.2.2.2.2.2.2.1, .int z.2.2.2.2.2.2.2.2.2.2.2.2])), (am4, .inl (cy 0, 200, .inl u_tape))] A) ([.ref am] : List Value).toArray s 0 0 A) (F0 m 8 ls []) := by
      refine lpW ?_
      intro k8 hk80
      have hk8 : ∀ (M_isHeld : Int32) (M_taped : Int32) (M_token : Int32) (M_from : Int32) (M_to : Int32) (M_value : Int32) (M_isWrong : Int32) (M_rowN : Int32) (M_ran : Int32) (M_actKind : Int32) (M_actN : Int32) (M_actA : Int32) (M_isParted : Int32), k8 (M_isHeld, M_taped, M_token, M_from, M_to, M_value, M_isWrong, M_rowN, M_ran, M_actKind, M_actN, M_actA, M_isParted) = some z → ∀ (H : Heap) (locs : List Loc), va_P D vwCl [(am, .inr (7, [.ref am0, .ref am1, .ref am2, .ref am3, .int M_isHeld, .ref am4, .int M_taped, .int M_token, .int M_from, .int M_to, .int M_value, .int M_isWrong, .ref am5, .int M_rowN, .ref am6, .ref am7, .ref am8, .ref am9, .ref am10, .ref am11, .ref am12, .int M_ran, .int M_actKind, .int M_actN, .int M_actA, .int M_isParted])), (am4, .inl (cy 0, 200, .inl u_tape))] H → va_D A [(am, .inr (7, [.ref am0, .ref am1, .ref am2, .ref am3, .int M_isHeld, .ref am4, .int M_taped, .int M_token, .int M_from, .int M_to, .int M_value, .int M_isWrong, .ref am5, .int M_rowN, .ref am6, .ref am7, .ref am8, .ref am9, .ref am10, .ref am11, .ref am12, .int M_ran, .int M_actKind, .int M_actN, .int M_actA, .int M_isParted])), (am4, .inl (cy 0, 200, .inl u_tape))] → va_S A s.heap H locs → ∀ (ls : Array Slot), lv_has ls 2 [(0, .ref am)] → W p l e (headSpec wsX7_nextToken ({ frames := 1, cells := 0, slots := 0, locals := 21 })).room s m ([.ref am] : List Value).toArray below meth c H locs 0 0 (MQ below (Qw (none) D [(am, .inr (7, [.ref am0, .ref am1, .ref am2, .ref am3, .int z.1, .ref am4, .int z.2.1, .int z.2.2.1, .int z.2.2.2.1, .int z.2.2.2.2.1, .int z.2.2.2.2.2.1, .int z.2.2.2.2.2.2.1, .ref am5, .int z.2.2.2.2.2.2.2.1, .ref am6, .ref am7, .ref am8, .ref am9, .ref am10, .ref am11, .ref am12, .int z.2.2.2.2.2.2.2.2.1, .int z.2.2.2.2.2.2.2.2.2.1, .int z.2.2.2.2.2.2.2.2.2.2.1, .int z.2.2.2.2.2.2.2.2.2.2.2.1, .int z.2.2.2.2.2.2.2.2.2.2.2.2])), (am4, .inl (cy 0, 200, .inl u_tape))] A) ([.ref am] : List Value).toArray s 0 0 A) (F0 m 8 ls []) := fun M_isHeld M_taped M_token M_from M_to M_value M_isWrong M_rowN M_ran M_actKind M_actN M_actA M_isParted h9 => hk80 (M_isHeld, M_taped, M_token, M_from, M_to, M_value, M_isWrong, M_rowN, M_ran, M_actKind, M_actN, M_actA, M_isParted) h9
      have hstep : ∀ (M_isHeld : Int32) (M_taped : Int32) (M_token : Int32) (M_from : Int32) (M_to : Int32) (M_value : Int32) (M_isWrong : Int32) (M_rowN : Int32) (M_ran : Int32) (M_actKind : Int32) (M_actN : Int32) (M_actA : Int32) (M_isParted : Int32), fX7_nextToken_F8 n u_tape  k8 (M_isHeld, M_taped, M_token, M_from, M_to, M_value, M_isWrong, M_rowN, M_ran, M_actKind, M_actN, M_actA, M_isParted) = some z → ∀ (H : Heap) (locs : List Loc), va_P D vwCl [(am, .inr (7, [.ref am0, .ref am1, .ref am2, .ref am3, .int M_isHeld, .ref am4, .int M_taped, .int M_token, .int M_from, .int M_to, .int M_value, .int M_isWrong, .ref am5, .int M_rowN, .ref am6, .ref am7, .ref am8, .ref am9, .ref am10, .ref am11, .ref am12, .int M_ran, .int M_actKind, .int M_actN, .int M_actA, .int M_isParted])), (am4, .inl (cy 0, 200, .inl u_tape))] H → va_D A [(am, .inr (7, [.ref am0, .ref am1, .ref am2, .ref am3, .int M_isHeld, .ref am4, .int M_taped, .int M_token, .int M_from, .int M_to, .int M_value, .int M_isWrong, .ref am5, .int M_rowN, .ref am6, .ref am7, .ref am8, .ref am9, .ref am10, .ref am11, .ref am12, .int M_ran, .int M_actKind, .int M_actN, .int M_actA, .int M_isParted])), (am4, .inl (cy 0, 200, .inl u_tape))] → va_S A s.heap H locs → ∀ (ls : Array Slot), lv_has ls 2 [(0, .ref am)] → W p l e (headSpec wsX7_nextToken ({ frames := 1, cells := 0, slots := 0, locals := 21 })).room s m ([.ref am] : List Value).toArray below meth c H locs 0 0 (MQ below (Qw (none) D [(am, .inr (7, [.ref am0, .ref am1, .ref am2, .ref am3, .int z.1, .ref am4, .int z.2.1, .int z.2.2.1, .int z.2.2.2.1, .int z.2.2.2.2.1, .int z.2.2.2.2.2.1, .int z.2.2.2.2.2.2.1, .ref am5, .int z.2.2.2.2.2.2.2.1, .ref am6, .ref am7, .ref am8, .ref am9, .ref am10, .ref am11, .ref am12, .int z.2.2.2.2.2.2.2.2.1, .int z.2.2.2.2.2.2.2.2.2.1, .int z.2.2.2.2.2.2.2.2.2.2.1, .int z.2.2.2.2.2.2.2.2.2.2.2.1, .int z.2.2.2.2.2.2.2.2.2.2.2.2])), (am4, .inl (cy 0, 200, .inl u_tape))] A) ([.ref am] : List Value).toArray s 0 0 A) (F0 m 8 ls []) := by
        intro M_isHeld M_taped M_token M_from M_to M_value M_isWrong M_rowN M_ran M_actKind M_actN M_actA M_isParted hf H locs hP hD hS ls hl
        have hf : ((fX7_byteAt n (M_isHeld, M_taped, M_token, M_from, M_to, M_value, M_isWrong, M_rowN, M_ran, M_actKind, M_actN, M_actA, M_isParted) u_tape M_from).bind fun r13 => if r13 = (32 : Int32) then (k8 (M_isHeld, M_taped, M_token, (M_from + (1 : Int32)), M_to, M_value, M_isWrong, M_rowN, M_ran, M_actKind, M_actN, M_actA, M_isParted)) else ((fX7_byteAt n (M_isHeld, M_taped, M_token, M_from, M_from, M_value, M_isWrong, M_rowN, M_ran, M_actKind, M_actN, M_actA, M_isParted) u_tape M_from).bind fun r47 => if 0 ≤ r47 then ((fX7_isAlpha n r47).bind fun r61 => if r61 = 0 then ((fX7_isDigit n r47).bind fun r72 => if r72 = 0 then (fX7_nextToken_b83 n u_tape  (M_isHeld, M_taped, M_token, M_from, M_from, M_value, M_isWrong, M_rowN, M_ran, M_actKind, M_actN, M_actA, M_isParted) (3 : Int32)) else (fX7_nextToken_b83 n u_tape  (M_isHeld, M_taped, M_token, M_from, M_from, M_value, M_isWrong, M_rowN, M_ran, M_actKind, M_actN, M_actA, M_isParted) (2 : Int32))) else (fX7_nextToken_b83 n u_tape  (M_isHeld, M_taped, M_token, M_from, M_from, M_value, M_isWrong, M_rowN, M_ran, M_actKind, M_actN, M_actA, M_isParted) (1 : Int32))) else (fX7_nextToken_b83 n u_tape  (M_isHeld, M_taped, M_token, M_from, M_from, M_value, M_isWrong, M_rowN, M_ran, M_actKind, M_actN, M_actA, M_isParted) (0 : Int32)))) = some z := hf
        refine lv_aload_n hx hb dX7_nextToken_8 rfl (lv_at hl 0 rfl) ?_
        refine lv_aload_n hx hb dX7_nextToken_9 rfl (lv_at hl 0 rfl) ?_
        refine va_get (D := D) (ci := 7) (v := .int M_from) (C := RX7) (T := TX7) (N := 26) hx hb hts hin7 hown hK hP 0 rfl rfl 8 (by decide) fl67 (fun _ h9 => h9) rfl dX7_nextToken_10 ?_
        obtain ⟨r13, hc13, hf⟩ := zb hf
        refine zvr (o := some (.int r13)) (As := [.int M_from]) (rest := []) (stk := [.int r13]) ⟨hx, hb, hml, hown, hts⟩ (mX7_byteAt l D cy st sk sv B am am0 am1 am2 am3 am4 am5 am6 am7 am8 am9 am10 am11 am12 n M_isHeld M_taped M_token M_from M_to M_value M_isWrong M_rowN M_ran M_actKind M_actN M_actA M_isParted u_tape M_from r13 hc13) (cwV 1 hts gX7_nextToken_X7_byteAt rfl rfl rfl (by decide +kernel) ⟨Nat.le_of_ble_eq_true rfl, Nat.le_of_ble_eq_true rfl⟩) hG hS hAB hP [0, 1] rfl 0 7 rfl rfl rfl rfl hl.1 rfl (Nat.le_of_ble_eq_true rfl) dX7_nextToken_13 rfl ?_
        refine lv_bipush (v := (32 : Int32)) hx hb dX7_nextToken_16 (by decide) ?_
        refine lv_icmp_ne (tgt := 34) hx hb dX7_nextToken_18 (by decide) (fun c_18 => ?_) (fun c_18 => ?_)
        · have hf := zn hf c_18
          refine lv_aload_n hx hb dX7_nextToken_34 rfl (lv_at hl 0 rfl) ?_
          refine lv_aload_n hx hb dX7_nextToken_35 rfl (lv_at hl 0 rfl) ?_
          refine va_get (D := D) (ci := 7) (v := .int M_from) (C := RX7) (T := TX7) (N := 26) hx hb hts hin7 hown hK hP 0 rfl rfl 8 (by decide) fl67 (fun _ h9 => h9) rfl dX7_nextToken_36 ?_
          refine va_put (D := D) (ci := 7) (v := .int M_from) (ty := .int) (C := RX7) (T := TX7) (N := 26) hx hb hts hin7 tyX7 tyX7_ok nmX7 hown hK hP hD hS 0 rfl rfl 9 (by decide) fl64 (fun _ h9 => h9) rfl (by decide +kernel) rfl rfl (Nat.le_of_ble_eq_true rfl) dX7_nextToken_39 (fun H locs hP hD hS => ?_)
          have hP : va_P D vwCl [(am, .inr (7, [.ref am0, .ref am1, .ref am2, .ref am3, .int M_isHeld, .ref am4, .int M_taped, .int M_token, .int M_from, .int M_from, .int M_value, .int M_isWrong, .ref am5, .int M_rowN, .ref am6, .ref am7, .ref am8, .ref am9, .ref am10, .ref am11, .ref am12, .int M_ran, .int M_actKind, .int M_actN, .int M_actA, .int M_isParted])), (am4, .inl (cy 0, 200, .inl u_tape))] H := hP
          have hD : va_D A [(am, .inr (7, [.ref am0, .ref am1, .ref am2, .ref am3, .int M_isHeld, .ref am4, .int M_taped, .int M_token, .int M_from, .int M_from, .int M_value, .int M_isWrong, .ref am5, .int M_rowN, .ref am6, .ref am7, .ref am8, .ref am9, .ref am10, .ref am11, .ref am12, .int M_ran, .int M_actKind, .int M_actN, .int M_actA, .int M_isParted])), (am4, .inl (cy 0, 200, .inl u_tape))] := hD
          refine lv_aload_n hx hb dX7_nextToken_42 rfl (lv_at hl 0 rfl) ?_
          refine lv_aload_n hx hb dX7_nextToken_43 rfl (lv_at hl 0 rfl) ?_
          refine va_get (D := D) (ci := 7) (v := .int M_from) (C := RX7) (T := TX7) (N := 26) hx hb hts hin7 hown hK hP 0 rfl rfl 8 (by decide) fl67 (fun _ h9 => h9) rfl dX7_nextToken_44 ?_
          obtain ⟨r47, hc47, hf⟩ := zb hf
          refine zvr (o := some (.int r47)) (As := [.int M_from]) (rest := []) (stk := [.int r47]) ⟨hx, hb, hml, hown, hts⟩ (mX7_byteAt l D cy st sk sv B am am0 am1 am2 am3 am4 am5 am6 am7 am8 am9 am10 am11 am12 n M_isHeld M_taped M_token M_from M_from M_value M_isWrong M_rowN M_ran M_actKind M_actN M_actA M_isParted u_tape M_from r47 hc47) (cwV 1 hts gX7_nextToken_X7_byteAt rfl rfl rfl (by decide +kernel) ⟨Nat.le_of_ble_eq_true rfl, Nat.le_of_ble_eq_true rfl⟩) hG hS hAB hP [0, 1] rfl 0 7 rfl rfl rfl rfl hl.1 rfl (Nat.le_of_ble_eq_true rfl) dX7_nextToken_47 rfl ?_
          refine lv_istore_n (lv' := [(1, .int r47), (0, .ref am)]) hx hb dX7_nextToken_50 rfl hl (by decide) rfl (fun ls hl => ?_)
          refine lv_aload_n hx hb dX7_nextToken_51 rfl (lv_at hl 1 rfl) ?_
          refine lv_iload_n hx hb dX7_nextToken_52 rfl (lv_at hl 0 rfl) ?_
          refine lv_if_ge (tgt := 60) hx hb dX7_nextToken_53 (by decide) (fun c_53 => ?_) (fun c_53 => ?_)
          · have hf := zp hf c_53
            refine lv_iload_n hx hb dX7_nextToken_60 rfl (lv_at hl 0 rfl) ?_
            obtain ⟨r61, hc61, hf⟩ := zb hf
            refine zsr (o := some (.int r61)) (As := [.int r47]) (rest := [.ref am]) (stk := [.int r61, .ref am]) ⟨hx, hb, hml, hown, hts⟩ (mX7_isAlpha l D cy st sk sv B  n r47 r61 hc61) (va_cwS 1 hts gX7_nextToken_X7_isAlpha rfl rfl rfl (by decide +kernel) ⟨Nat.le_of_ble_eq_true rfl, Nat.le_of_ble_eq_true rfl⟩) hG hS hAB hP [] rfl rfl hl.1 rfl (Nat.le_of_ble_eq_true rfl) dX7_nextToken_61 rfl ?_
            refine lv_if_eq (tgt := 71) hx hb dX7_nextToken_64 (by decide) (fun c_64 => ?_) (fun c_64 => ?_)
            · have hf := zp hf c_64
              refine lv_iload_n hx hb dX7_nextToken_71 rfl (lv_at hl 0 rfl) ?_
              obtain ⟨r72, hc72, hf⟩ := zb hf
              refine zsr (o := some (.int r72)) (As := [.int r47]) (rest := [.ref am]) (stk := [.int r72, .ref am]) ⟨hx, hb, hml, hown, hts⟩ (mX7_isDigit l D cy st sk sv B  n r47 r72 hc72) (va_cwS 1 hts gX7_nextToken_X7_isDigit rfl rfl rfl (by decide +kernel) ⟨Nat.le_of_ble_eq_true rfl, Nat.le_of_ble_eq_true rfl⟩) hG hS hAB hP [] rfl rfl hl.1 rfl (Nat.le_of_ble_eq_true rfl) dX7_nextToken_72 rfl ?_
              refine lv_if_eq (tgt := 82) hx hb dX7_nextToken_75 (by decide) (fun c_75 => ?_) (fun c_75 => ?_)
              · have hf := zp hf c_75
                refine lv_iconst (v := (3 : Int32)) hx hb dX7_nextToken_82 (by decide) ?_
                exact hB83 M_isHeld M_taped M_token M_from M_from M_value M_isWrong M_rowN M_ran M_actKind M_actN M_actA M_isParted (3 : Int32) hf _ _ hP hD hS _ (lv_sub hl [1] rfl)
              · have hf := zn hf c_75
                refine lv_iconst (v := (2 : Int32)) hx hb dX7_nextToken_78 (by decide) ?_
                refine lv_goto (tgt := 83) hx hb dX7_nextToken_79 (by decide) ?_
                exact hB83 M_isHeld M_taped M_token M_from M_from M_value M_isWrong M_rowN M_ran M_actKind M_actN M_actA M_isParted (2 : Int32) hf _ _ hP hD hS _ (lv_sub hl [1] rfl)
            · have hf := zn hf c_64
              refine lv_iconst (v := (1 : Int32)) hx hb dX7_nextToken_67 (by decide) ?_
              refine lv_goto (tgt := 83) hx hb dX7_nextToken_68 (by decide) ?_
              exact hB83 M_isHeld M_taped M_token M_from M_from M_value M_isWrong M_rowN M_ran M_actKind M_actN M_actA M_isParted (1 : Int32) hf _ _ hP hD hS _ (lv_sub hl [1] rfl)
          · have hf := zn hf c_53
            refine lv_iconst (v := (0 : Int32)) hx hb dX7_nextToken_56 (by decide) ?_
            refine lv_goto (tgt := 83) hx hb dX7_nextToken_57 (by decide) ?_
            exact hB83 M_isHeld M_taped M_token M_from M_from M_value M_isWrong M_rowN M_ran M_actKind M_actN M_actA M_isParted (0 : Int32) hf _ _ hP hD hS _ (lv_sub hl [1] rfl)
        · have hf := zp hf c_18
          refine lv_aload_n hx hb dX7_nextToken_21 rfl (lv_at hl 0 rfl) ?_
          refine lv_dup hx hb dX7_nextToken_22 rfl ?_
          refine va_get (D := D) (ci := 7) (v := .int M_from) (C := RX7) (T := TX7) (N := 26) hx hb hts hin7 hown hK hP 0 rfl rfl 8 (by decide) fl67 (fun _ h9 => h9) rfl dX7_nextToken_23 ?_
          refine lv_iconst (v := (1 : Int32)) hx hb dX7_nextToken_26 (by decide) ?_
          refine lv_iadd hx hb dX7_nextToken_27 ?_
          refine va_put (D := D) (ci := 7) (v := .int (M_from + (1 : Int32))) (ty := .int) (C := RX7) (T := TX7) (N := 26) hx hb hts hin7 tyX7 tyX7_ok nmX7 hown hK hP hD hS 0 rfl rfl 8 (by decide) fl67 (fun _ h9 => h9) rfl (by decide +kernel) rfl rfl (Nat.le_of_ble_eq_true rfl) dX7_nextToken_28 (fun H locs hP hD hS => ?_)
          have hP : va_P D vwCl [(am, .inr (7, [.ref am0, .ref am1, .ref am2, .ref am3, .int M_isHeld, .ref am4, .int M_taped, .int M_token, .int (M_from + (1 : Int32)), .int M_to, .int M_value, .int M_isWrong, .ref am5, .int M_rowN, .ref am6, .ref am7, .ref am8, .ref am9, .ref am10, .ref am11, .ref am12, .int M_ran, .int M_actKind, .int M_actN, .int M_actA, .int M_isParted])), (am4, .inl (cy 0, 200, .inl u_tape))] H := hP
          have hD : va_D A [(am, .inr (7, [.ref am0, .ref am1, .ref am2, .ref am3, .int M_isHeld, .ref am4, .int M_taped, .int M_token, .int (M_from + (1 : Int32)), .int M_to, .int M_value, .int M_isWrong, .ref am5, .int M_rowN, .ref am6, .ref am7, .ref am8, .ref am9, .ref am10, .ref am11, .ref am12, .int M_ran, .int M_actKind, .int M_actN, .int M_actA, .int M_isParted])), (am4, .inl (cy 0, 200, .inl u_tape))] := hD
          refine lv_goto (tgt := 8) hx hb dX7_nextToken_31 (by decide) ?_
          exact hk8 M_isHeld M_taped M_token (M_from + (1 : Int32)) M_to M_value M_isWrong M_rowN M_ran M_actKind M_actN M_actA M_isParted hf _ _ hP hD hS _ (lv_sub hl [0] rfl)
      exact fun v8 h9 => hstep v8.1 v8.2.1 v8.2.2.1 v8.2.2.2.1 v8.2.2.2.2.1 v8.2.2.2.2.2.1 v8.2.2.2.2.2.2.1 v8.2.2.2.2.2.2.2.1 v8.2.2.2.2.2.2.2.2.1 v8.2.2.2.2.2.2.2.2.2.1 v8.2.2.2.2.2.2.2.2.2.2.1 v8.2.2.2.2.2.2.2.2.2.2.2.1 v8.2.2.2.2.2.2.2.2.2.2.2.2 h9
    exact fun n0 M_isHeld M_taped M_token M_from M_to M_value M_isWrong M_rowN M_ran M_actKind M_actN M_actA M_isParted h9 => key n0 (M_isHeld, M_taped, M_token, M_from, M_to, M_value, M_isWrong, M_rowN, M_ran, M_actKind, M_actN, M_actA, M_isParted) h9
  have hl := lv_entry ([.ref am]) (n := 2) (Nat.le_of_ble_eq_true rfl)
  rw [lg_entry_eq]
  generalize (lg_sl ([.ref am]) ++ List.replicate (2 - (lg_sl ([.ref am])).length) Slot.unset).toArray = ls at hl ⊢
  have hl : lv_has ls 2 [(0, .ref am)] := hl
  have hf : (lpF (fX7_nextToken_F8 n u_tape ) n (M_isHeld, M_taped, M_token, M_to, M_to, M_value, M_isWrong, M_rowN, M_ran, M_actKind, M_actN, M_actA, M_isParted)) = some z := hf
  refine lv_aload_n hx hb dX7_nextToken_0 rfl (lv_at hl 0 rfl) ?_
  refine lv_aload_n hx hb dX7_nextToken_1 rfl (lv_at hl 0 rfl) ?_
  refine va_get (D := D) (ci := 7) (v := .int M_to) (C := RX7) (T := TX7) (N := 26) hx hb hts hin7 hown hK hP 0 rfl rfl 9 (by decide) fl64 (fun _ h9 => h9) rfl dX7_nextToken_2 ?_
  refine va_put (D := D) (ci := 7) (v := .int M_to) (ty := .int) (C := RX7) (T := TX7) (N := 26) hx hb hts hin7 tyX7 tyX7_ok nmX7 hown hK hP hD hS 0 rfl rfl 8 (by decide) fl67 (fun _ h9 => h9) rfl (by decide +kernel) rfl rfl (Nat.le_of_ble_eq_true rfl) dX7_nextToken_5 (fun H locs hP hD hS => ?_)
  have hP : va_P D vwCl [(am, .inr (7, [.ref am0, .ref am1, .ref am2, .ref am3, .int M_isHeld, .ref am4, .int M_taped, .int M_token, .int M_to, .int M_to, .int M_value, .int M_isWrong, .ref am5, .int M_rowN, .ref am6, .ref am7, .ref am8, .ref am9, .ref am10, .ref am11, .ref am12, .int M_ran, .int M_actKind, .int M_actN, .int M_actA, .int M_isParted])), (am4, .inl (cy 0, 200, .inl u_tape))] H := hP
  have hD : va_D A [(am, .inr (7, [.ref am0, .ref am1, .ref am2, .ref am3, .int M_isHeld, .ref am4, .int M_taped, .int M_token, .int M_to, .int M_to, .int M_value, .int M_isWrong, .ref am5, .int M_rowN, .ref am6, .ref am7, .ref am8, .ref am9, .ref am10, .ref am11, .ref am12, .int M_ran, .int M_actKind, .int M_actN, .int M_actA, .int M_isParted])), (am4, .inl (cy 0, 200, .inl u_tape))] := hD
  exact hL8 n M_isHeld M_taped M_token M_to M_to M_value M_isWrong M_rowN M_ran M_actKind M_actN M_actA M_isParted hf _ _ hP hD hS _ (lv_sub hl [0] rfl)
set_option maxRecDepth 100000 in
set_option maxHeartbeats 100000000 in
theorem mX7_needs (l : Launch) (D : va_G) (cy : Nat → ClassId) (st sk sv : Nat → Nat) (B : Nat) (am : Nat) (am0 : Nat) (am1 : Nat) (am2 : Nat) (am3 : Nat) (am4 : Nat) (am5 : Nat) (am6 : Nat) (am7 : Nat) (am8 : Nat) (am9 : Nat) (am10 : Nat) (am11 : Nat) (am12 : Nat) (sz : Nat) (n : Nat) (M_isHeld : Int32) (M_taped : Int32) (M_token : Int32) (M_from : Int32) (M_to : Int32) (M_value : Int32) (M_isWrong : Int32) (M_rowN : Int32) (M_ran : Int32) (M_actKind : Int32) (M_actN : Int32) (M_actA : Int32) (M_isParted : Int32) (u_tape : (Nat → Int32)) (x1 : Int32) (z : MO) (hf : fX7_needs n (M_isHeld, M_taped, M_token, M_from, M_to, M_value, M_isWrong, M_rowN, M_ran, M_actKind, M_actN, M_actA, M_isParted) u_tape x1 = some z) : Met l yX7_needs wsX7_needs ({ frames := 2, cells := 0, slots := 0, locals := 42 }) (PcW [.ref am, .int x1] D cy st sk sv B sz [(am, .inr (7, [.ref am0, .ref am1, .ref am2, .ref am3, .int M_isHeld, .ref am4, .int M_taped, .int M_token, .int M_from, .int M_to, .int M_value, .int M_isWrong, .ref am5, .int M_rowN, .ref am6, .ref am7, .ref am8, .ref am9, .ref am10, .ref am11, .ref am12, .int M_ran, .int M_actKind, .int M_actN, .int M_actA, .int M_isParted])), (am4, .inl (cy 0, 200, .inl u_tape))]) (Qw (none) D [(am, .inr (7, [.ref am0, .ref am1, .ref am2, .ref am3, .int z.1, .ref am4, .int z.2.1, .int z.2.2.1, .int z.2.2.2.1, .int z.2.2.2.2.1, .int z.2.2.2.2.2.1, .int z.2.2.2.2.2.2.1, .ref am5, .int z.2.2.2.2.2.2.2.1, .ref am6, .ref am7, .ref am8, .ref am9, .ref am10, .ref am11, .ref am12, .int z.2.2.2.2.2.2.2.2.1, .int z.2.2.2.2.2.2.2.2.2.1, .int z.2.2.2.2.2.2.2.2.2.2.1, .int z.2.2.2.2.2.2.2.2.2.2.2.1, .int z.2.2.2.2.2.2.2.2.2.2.2.2])), (am4, .inl (cy 0, 200, .inl u_tape))] (va_A [(am, .inr (7, [.ref am0, .ref am1, .ref am2, .ref am3, .int M_isHeld, .ref am4, .int M_taped, .int M_token, .int M_from, .int M_to, .int M_value, .int M_isWrong, .ref am5, .int M_rowN, .ref am6, .ref am7, .ref am8, .ref am9, .ref am10, .ref am11, .ref am12, .int M_ran, .int M_actKind, .int M_actN, .int M_actA, .int M_isParted])), (am4, .inl (cy 0, 200, .inl u_tape))] sz)) 0 0 (va_A [(am, .inr (7, [.ref am0, .ref am1, .ref am2, .ref am3, .int M_isHeld, .ref am4, .int M_taped, .int M_token, .int M_from, .int M_to, .int M_value, .int M_isWrong, .ref am5, .int M_rowN, .ref am6, .ref am7, .ref am8, .ref am9, .ref am10, .ref am11, .ref am12, .int M_ran, .int M_actKind, .int M_actN, .int M_actA, .int M_isParted])), (am4, .inl (cy 0, 200, .inl u_tape))] sz) := by
  refine Met.ofW (cc := cX7_needs) (maxL := 2) (ret := none) (by decide) rfl ?_
  intro p e s m args below meth c s₁ Bd hml hv
  obtain ⟨rfl, hsz, hP, hD0, hBs, hG⟩ := hv
  have hx := Bd.exec
  have hb := Bd.bytes
  have hr := Bd.returns
  have hts := atoms_spec (ws := wsX7_needs) Bd.pre
  have hown : s.vm.findClass RX7 = some m.cls := findClass_of_methodNamed Bd.named
  have hlocks := Bd.notSynchronized
  have hK := hG.1
  subst hsz
  have hD := hD0.self (sz := s.heap.size)
  have hAB0 := zA hD0 hBs
  generalize hAe : va_A [(am, .inr (7, [.ref am0, .ref am1, .ref am2, .ref am3, .int M_isHeld, .ref am4, .int M_taped, .int M_token, .int M_from, .int M_to, .int M_value, .int M_isWrong, .ref am5, .int M_rowN, .ref am6, .ref am7, .ref am8, .ref am9, .ref am10, .ref am11, .ref am12, .int M_ran, .int M_actKind, .int M_actN, .int M_actA, .int M_isParted])), (am4, .inl (cy 0, 200, .inl u_tape))] s.heap.size = A at hD hAB0 ⊢
  have hA : ∀ q : Nat, s.heap.size ≤ q → A q := fun q h => by rw [← hAe]; exact Or.inr h
  have hAB : ∀ q, A q → B ≤ q := hAB0
  have hS : va_S A s.heap s.heap [] := va_S.rf
  have hfin : ∀ (M_isHeld : Int32) (M_taped : Int32) (M_token : Int32) (M_from : Int32) (M_to : Int32) (M_value : Int32) (M_isWrong : Int32) (M_rowN : Int32) (M_ran : Int32) (M_actKind : Int32) (M_actN : Int32) (M_actA : Int32) (M_isParted : Int32), some (M_isHeld, M_taped, M_token, M_from, M_to, M_value, M_isWrong, M_rowN, M_ran, M_actKind, M_actN, M_actA, M_isParted) = some z → ∀ (H : Heap) (t : State), t.heap = H → va_P D vwCl [(am, .inr (7, [.ref am0, .ref am1, .ref am2, .ref am3, .int M_isHeld, .ref am4, .int M_taped, .int M_token, .int M_from, .int M_to, .int M_value, .int M_isWrong, .ref am5, .int M_rowN, .ref am6, .ref am7, .ref am8, .ref am9, .ref am10, .ref am11, .ref am12, .int M_ran, .int M_actKind, .int M_actN, .int M_actA, .int M_isParted])), (am4, .inl (cy 0, 200, .inl u_tape))] H → va_F A s t → Qw (none) D [(am, .inr (7, [.ref am0, .ref am1, .ref am2, .ref am3, .int z.1, .ref am4, .int z.2.1, .int z.2.2.1, .int z.2.2.2.1, .int z.2.2.2.2.1, .int z.2.2.2.2.2.1, .int z.2.2.2.2.2.2.1, .ref am5, .int z.2.2.2.2.2.2.2.1, .ref am6, .ref am7, .ref am8, .ref am9, .ref am10, .ref am11, .ref am12, .int z.2.2.2.2.2.2.2.2.1, .int z.2.2.2.2.2.2.2.2.2.1, .int z.2.2.2.2.2.2.2.2.2.2.1, .int z.2.2.2.2.2.2.2.2.2.2.2.1, .int z.2.2.2.2.2.2.2.2.2.2.2.2])), (am4, .inl (cy 0, 200, .inl u_tape))] A ([.ref am, .int x1] : List Value).toArray s (.returned (none)) t := by
    intro M_isHeld M_taped M_token M_from M_to M_value M_isWrong M_rowN M_ran M_actKind M_actN M_actA M_isParted h9 H t ht hP hF
    cases h9
    exact ⟨rfl, by rw [ht]; exact hP, hF⟩
  have hin7 : ∀ w ∈ u_ws RX7 TX7 26, w ∈ wsX7_needs := by decide +kernel
  have fl87 := hts (.fieldLink RX7 87 "KinCutleryModel" "isWrong" "Z") (by decide +kernel)
  have hB17 : ∀ (M_isHeld : Int32) (M_taped : Int32) (M_token : Int32) (M_from : Int32) (M_to : Int32) (M_value : Int32) (M_isWrong : Int32) (M_rowN : Int32) (M_ran : Int32) (M_actKind : Int32) (M_actN : Int32) (M_actA : Int32) (M_isParted : Int32) (w1 : Int32), fX7_needs_b17 n u_tape x1  (M_isHeld, M_taped, M_token, M_from, M_to, M_value, M_isWrong, M_rowN, M_ran, M_actKind, M_actN, M_actA, M_isParted) w1 = some z → ∀ (H : Heap) (locs : List Loc), va_P D vwCl [(am, .inr (7, [.ref am0, .ref am1, .ref am2, .ref am3, .int M_isHeld, .ref am4, .int M_taped, .int M_token, .int M_from, .int M_to, .int M_value, .int M_isWrong, .ref am5, .int M_rowN, .ref am6, .ref am7, .ref am8, .ref am9, .ref am10, .ref am11, .ref am12, .int M_ran, .int M_actKind, .int M_actN, .int M_actA, .int M_isParted])), (am4, .inl (cy 0, 200, .inl u_tape))] H → va_D A [(am, .inr (7, [.ref am0, .ref am1, .ref am2, .ref am3, .int M_isHeld, .ref am4, .int M_taped, .int M_token, .int M_from, .int M_to, .int M_value, .int M_isWrong, .ref am5, .int M_rowN, .ref am6, .ref am7, .ref am8, .ref am9, .ref am10, .ref am11, .ref am12, .int M_ran, .int M_actKind, .int M_actN, .int M_actA, .int M_isParted])), (am4, .inl (cy 0, 200, .inl u_tape))] → va_S A s.heap H locs → ∀ (ls : Array Slot), lv_has ls 2 [(0, .ref am), (1, .int x1)] → W p l e (headSpec wsX7_needs ({ frames := 2, cells := 0, slots := 0, locals := 42 })).room s m ([.ref am, .int x1] : List Value).toArray below meth c H locs 0 0 (MQ below (Qw (none) D [(am, .inr (7, [.ref am0, .ref am1, .ref am2, .ref am3, .int z.1, .ref am4, .int z.2.1, .int z.2.2.1, .int z.2.2.2.1, .int z.2.2.2.2.1, .int z.2.2.2.2.2.1, .int z.2.2.2.2.2.2.1, .ref am5, .int z.2.2.2.2.2.2.2.1, .ref am6, .ref am7, .ref am8, .ref am9, .ref am10, .ref am11, .ref am12, .int z.2.2.2.2.2.2.2.2.1, .int z.2.2.2.2.2.2.2.2.2.1, .int z.2.2.2.2.2.2.2.2.2.2.1, .int z.2.2.2.2.2.2.2.2.2.2.2.1, .int z.2.2.2.2.2.2.2.2.2.2.2.2])), (am4, .inl (cy 0, 200, .inl u_tape))] A) ([.ref am, .int x1] : List Value).toArray s 0 0 A) (F0 m 17 ls [.int w1, .ref am]) := by
    intro M_isHeld M_taped M_token M_from M_to M_value M_isWrong M_rowN M_ran M_actKind M_actN M_actA M_isParted w1 hf H locs hP hD hS ls hl
    have hf : (if ¬ (w1 = 0 ∨ w1 = 1) then none else if w1 = 0 then ((fX7_nextToken n (M_isHeld, M_taped, M_token, M_from, M_to, M_value, w1, M_rowN, M_ran, M_actKind, M_actN, M_actA, M_isParted) u_tape).bind fun r28 => some r28) else (some (M_isHeld, M_taped, M_token, M_from, M_to, M_value, w1, M_rowN, M_ran, M_actKind, M_actN, M_actA, M_isParted))) = some z := hf
    obtain ⟨h_17, hf⟩ := zg hf
    refine va_put (D := D) (ci := 7) (v := .int w1) (ty := .boolean) (C := RX7) (T := TX7) (N := 26) hx hb hts hin7 tyX7 tyX7_ok nmX7 hown hK hP hD hS 0 rfl rfl 11 (by decide) fl87 (fun _ h9 => h9) rfl (by decide +kernel) (nz_b h_17).1 (nz_b h_17).2 (Nat.le_of_ble_eq_true rfl) dX7_needs_17 (fun H locs hP hD hS => ?_)
    have hP : va_P D vwCl [(am, .inr (7, [.ref am0, .ref am1, .ref am2, .ref am3, .int M_isHeld, .ref am4, .int M_taped, .int M_token, .int M_from, .int M_to, .int M_value, .int w1, .ref am5, .int M_rowN, .ref am6, .ref am7, .ref am8, .ref am9, .ref am10, .ref am11, .ref am12, .int M_ran, .int M_actKind, .int M_actN, .int M_actA, .int M_isParted])), (am4, .inl (cy 0, 200, .inl u_tape))] H := hP
    have hD : va_D A [(am, .inr (7, [.ref am0, .ref am1, .ref am2, .ref am3, .int M_isHeld, .ref am4, .int M_taped, .int M_token, .int M_from, .int M_to, .int M_value, .int w1, .ref am5, .int M_rowN, .ref am6, .ref am7, .ref am8, .ref am9, .ref am10, .ref am11, .ref am12, .int M_ran, .int M_actKind, .int M_actN, .int M_actA, .int M_isParted])), (am4, .inl (cy 0, 200, .inl u_tape))] := hD
    refine lv_aload_n hx hb dX7_needs_20 rfl (lv_at hl 0 rfl) ?_
    refine va_get (D := D) (ci := 7) (v := .int w1) (C := RX7) (T := TX7) (N := 26) hx hb hts hin7 hown hK hP 0 rfl rfl 11 (by decide) fl87 (fun _ h9 => h9) rfl dX7_needs_21 ?_
    refine lv_if_ne (tgt := 31) hx hb dX7_needs_24 (by decide) (fun c_24 => ?_) (fun c_24 => ?_)
    · have hf := zn hf c_24
      exact W.vret hx hb hr (fun t ht hW => hfin M_isHeld M_taped M_token M_from M_to M_value w1 M_rowN M_ran M_actKind M_actN M_actA M_isParted hf _ t ht hP (hS.F ht)) hS.2.2 dX7_needs_31
    · have hf := zp hf c_24
      refine lv_aload_n hx hb dX7_needs_27 rfl (lv_at hl 0 rfl) ?_
      obtain ⟨r28, hc28, hf⟩ := zb hf
      refine zvw (o := none) (As := []) (rest := []) (stk := []) ⟨hx, hb, hml, hown, hts⟩ (mX7_nextToken l D cy st sk sv B am am0 am1 am2 am3 am4 am5 am6 am7 am8 am9 am10 am11 am12 _ n M_isHeld M_taped M_token M_from M_to M_value w1 M_rowN M_ran M_actKind M_actN M_actA M_isParted u_tape r28 hc28) (cwV 0 hts gX7_needs_X7_nextToken rfl rfl rfl (by decide +kernel) ⟨Nat.le_of_ble_eq_true rfl, Nat.le_of_ble_eq_true rfl⟩) hG hS hAB hA hP hD [0, 1] (by decide) rfl rfl rfl rfl 0 7 rfl rfl rfl rfl hl.1 rfl (Nat.le_of_ble_eq_true rfl) dX7_needs_28 rfl (fun H locs hP hD hS => ?_)
      have hP : va_P D vwCl [(am, .inr (7, [.ref am0, .ref am1, .ref am2, .ref am3, .int r28.1, .ref am4, .int r28.2.1, .int r28.2.2.1, .int r28.2.2.2.1, .int r28.2.2.2.2.1, .int r28.2.2.2.2.2.1, .int r28.2.2.2.2.2.2.1, .ref am5, .int r28.2.2.2.2.2.2.2.1, .ref am6, .ref am7, .ref am8, .ref am9, .ref am10, .ref am11, .ref am12, .int r28.2.2.2.2.2.2.2.2.1, .int r28.2.2.2.2.2.2.2.2.2.1, .int r28.2.2.2.2.2.2.2.2.2.2.1, .int r28.2.2.2.2.2.2.2.2.2.2.2.1, .int r28.2.2.2.2.2.2.2.2.2.2.2.2])), (am4, .inl (cy 0, 200, .inl u_tape))] H := hP
      have hD : va_D A [(am, .inr (7, [.ref am0, .ref am1, .ref am2, .ref am3, .int r28.1, .ref am4, .int r28.2.1, .int r28.2.2.1, .int r28.2.2.2.1, .int r28.2.2.2.2.1, .int r28.2.2.2.2.2.1, .int r28.2.2.2.2.2.2.1, .ref am5, .int r28.2.2.2.2.2.2.2.1, .ref am6, .ref am7, .ref am8, .ref am9, .ref am10, .ref am11, .ref am12, .int r28.2.2.2.2.2.2.2.2.1, .int r28.2.2.2.2.2.2.2.2.2.1, .int r28.2.2.2.2.2.2.2.2.2.2.1, .int r28.2.2.2.2.2.2.2.2.2.2.2.1, .int r28.2.2.2.2.2.2.2.2.2.2.2.2])), (am4, .inl (cy 0, 200, .inl u_tape))] := hD
      exact W.vret hx hb hr (fun t ht hW => hfin r28.1 r28.2.1 r28.2.2.1 r28.2.2.2.1 r28.2.2.2.2.1 r28.2.2.2.2.2.1 r28.2.2.2.2.2.2.1 r28.2.2.2.2.2.2.2.1 r28.2.2.2.2.2.2.2.2.1 r28.2.2.2.2.2.2.2.2.2.1 r28.2.2.2.2.2.2.2.2.2.2.1 r28.2.2.2.2.2.2.2.2.2.2.2.1 r28.2.2.2.2.2.2.2.2.2.2.2.2 hf _ t ht hP (hS.F ht)) hS.2.2 dX7_needs_31
  have hB12 : ∀ (M_isHeld : Int32) (M_taped : Int32) (M_token : Int32) (M_from : Int32) (M_to : Int32) (M_value : Int32) (M_isWrong : Int32) (M_rowN : Int32) (M_ran : Int32) (M_actKind : Int32) (M_actN : Int32) (M_actA : Int32) (M_isParted : Int32), fX7_needs_b12 n u_tape x1  (M_isHeld, M_taped, M_token, M_from, M_to, M_value, M_isWrong, M_rowN, M_ran, M_actKind, M_actN, M_actA, M_isParted) = some z → ∀ (H : Heap) (locs : List Loc), va_P D vwCl [(am, .inr (7, [.ref am0, .ref am1, .ref am2, .ref am3, .int M_isHeld, .ref am4, .int M_taped, .int M_token, .int M_from, .int M_to, .int M_value, .int M_isWrong, .ref am5, .int M_rowN, .ref am6, .ref am7, .ref am8, .ref am9, .ref am10, .ref am11, .ref am12, .int M_ran, .int M_actKind, .int M_actN, .int M_actA, .int M_isParted])), (am4, .inl (cy 0, 200, .inl u_tape))] H → va_D A [(am, .inr (7, [.ref am0, .ref am1, .ref am2, .ref am3, .int M_isHeld, .ref am4, .int M_taped, .int M_token, .int M_from, .int M_to, .int M_value, .int M_isWrong, .ref am5, .int M_rowN, .ref am6, .ref am7, .ref am8, .ref am9, .ref am10, .ref am11, .ref am12, .int M_ran, .int M_actKind, .int M_actN, .int M_actA, .int M_isParted])), (am4, .inl (cy 0, 200, .inl u_tape))] → va_S A s.heap H locs → ∀ (ls : Array Slot), lv_has ls 2 [(0, .ref am), (1, .int x1)] → W p l e (headSpec wsX7_needs ({ frames := 2, cells := 0, slots := 0, locals := 42 })).room s m ([.ref am, .int x1] : List Value).toArray below meth c H locs 0 0 (MQ below (Qw (none) D [(am, .inr (7, [.ref am0, .ref am1, .ref am2, .ref am3, .int z.1, .ref am4, .int z.2.1, .int z.2.2.1, .int z.2.2.2.1, .int z.2.2.2.2.1, .int z.2.2.2.2.2.1, .int z.2.2.2.2.2.2.1, .ref am5, .int z.2.2.2.2.2.2.2.1, .ref am6, .ref am7, .ref am8, .ref am9, .ref am10, .ref am11, .ref am12, .int z.2.2.2.2.2.2.2.2.1, .int z.2.2.2.2.2.2.2.2.2.1, .int z.2.2.2.2.2.2.2.2.2.2.1, .int z.2.2.2.2.2.2.2.2.2.2.2.1, .int z.2.2.2.2.2.2.2.2.2.2.2.2])), (am4, .inl (cy 0, 200, .inl u_tape))] A) ([.ref am, .int x1] : List Value).toArray s 0 0 A) (F0 m 12 ls [.ref am]) := by
    intro M_isHeld M_taped M_token M_from M_to M_value M_isWrong M_rowN M_ran M_actKind M_actN M_actA M_isParted hf H locs hP hD hS ls hl
    have hf : (fX7_needs_b17 n u_tape x1  (M_isHeld, M_taped, M_token, M_from, M_to, M_value, M_isWrong, M_rowN, M_ran, M_actKind, M_actN, M_actA, M_isParted) (1 : Int32)) = some z := hf
    refine lv_iconst (v := (1 : Int32)) hx hb dX7_needs_12 (by decide) ?_
    refine lv_goto (tgt := 17) hx hb dX7_needs_13 (by decide) ?_
    exact hB17 M_isHeld M_taped M_token M_from M_to M_value M_isWrong M_rowN M_ran M_actKind M_actN M_actA M_isParted (1 : Int32) hf _ _ hP hD hS _ (lv_sub hl [0, 1] rfl)
  have hl := lv_entry ([.ref am, .int x1]) (n := 2) (Nat.le_of_ble_eq_true rfl)
  rw [lg_entry_eq]
  generalize (lg_sl ([.ref am, .int x1]) ++ List.replicate (2 - (lg_sl ([.ref am, .int x1])).length) Slot.unset).toArray = ls at hl ⊢
  have hl : lv_has ls 2 [(0, .ref am), (1, .int x1)] := hl
  have hf : (if M_isWrong = 0 then (if x1 = 0 then (fX7_needs_b12 n u_tape x1  (M_isHeld, M_taped, M_token, M_from, M_to, M_value, M_isWrong, M_rowN, M_ran, M_actKind, M_actN, M_actA, M_isParted)) else (fX7_needs_b17 n u_tape x1  (M_isHeld, M_taped, M_token, M_from, M_to, M_value, M_isWrong, M_rowN, M_ran, M_actKind, M_actN, M_actA, M_isParted) (0 : Int32))) else (fX7_needs_b12 n u_tape x1  (M_isHeld, M_taped, M_token, M_from, M_to, M_value, M_isWrong, M_rowN, M_ran, M_actKind, M_actN, M_actA, M_isParted))) = some z := hf
  refine lv_aload_n hx hb dX7_needs_0 rfl (lv_at hl 0 rfl) ?_
  refine lv_aload_n hx hb dX7_needs_1 rfl (lv_at hl 0 rfl) ?_
  refine va_get (D := D) (ci := 7) (v := .int M_isWrong) (C := RX7) (T := TX7) (N := 26) hx hb hts hin7 hown hK hP 0 rfl rfl 11 (by decide) fl87 (fun _ h9 => h9) rfl dX7_needs_2 ?_
  refine lv_if_ne (tgt := 12) hx hb dX7_needs_5 (by decide) (fun c_5 => ?_) (fun c_5 => ?_)
  · have hf := zn hf c_5
    exact hB12 M_isHeld M_taped M_token M_from M_to M_value M_isWrong M_rowN M_ran M_actKind M_actN M_actA M_isParted hf _ _ hP hD hS _ (lv_sub hl [0, 1] rfl)
  · have hf := zp hf c_5
    refine lv_iload_n hx hb dX7_needs_8 rfl (lv_at hl 1 rfl) ?_
    refine lv_if_ne (tgt := 16) hx hb dX7_needs_9 (by decide) (fun c_9 => ?_) (fun c_9 => ?_)
    · have hf := zn hf c_9
      refine lv_iconst (v := (0 : Int32)) hx hb dX7_needs_16 (by decide) ?_
      exact hB17 M_isHeld M_taped M_token M_from M_to M_value M_isWrong M_rowN M_ran M_actKind M_actN M_actA M_isParted (0 : Int32) hf _ _ hP hD hS _ (lv_sub hl [0, 1] rfl)
    · have hf := zp hf c_9
      exact hB12 M_isHeld M_taped M_token M_from M_to M_value M_isWrong M_rowN M_ran M_actKind M_actN M_actA M_isParted hf _ _ hP hD hS _ (lv_sub hl [0, 1] rfl)
