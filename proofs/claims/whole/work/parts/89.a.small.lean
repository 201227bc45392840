/-! CONTRACTS: constructors of what is nested -/
set_option maxRecDepth 100000 in
set_option maxHeartbeats 4000000 in
theorem nX0_init (l : Launch) (D : va_G) (cy : Nat → ClassId) (st sk sv : Nat → Nat) (B h sz : Nat) : Met l yX0_init wsX0_init ({ frames := 1, cells := 1, slots := 30, locals := 12 }) (PcW [.ref h] D cy st sk sv B sz [(h, .inr (0, [.null, .int 0]))]) (Qn D (fun q => FW cy h q ((fun _ => 0), 0)) (va_A [(h, .inr (0, [.null, .int 0]))] sz)) 1 30 (va_A [(h, .inr (0, [.null, .int 0]))] sz) := by
  refine Met.ofW (cc := cX0_init) (maxL := 1) (ret := none) (by decide) rfl ?_
  intro p e s m args below meth c s₁ Bd hml hv
  obtain ⟨rfl, hsz, hP, hD0, hBs, hG⟩ := hv
  have hx := Bd.exec
  have hb := Bd.bytes
  have hr := Bd.returns
  have hts := atoms_spec (ws := wsX0_init) Bd.pre
  have hown : s.vm.findClass RX0 = some m.cls := findClass_of_methodNamed Bd.named
  have hlocks := Bd.notSynchronized
  have hmn : meth.name = "<init>" := (name_of_methodNamed Bd.named Bd.method).1
  have hK := hG.1
  subst hsz
  have hD := hD0.self (sz := s.heap.size)
  have hAB0 := zA hD0 hBs
  generalize hAe : va_A [(h, .inr (0, [.null, .int 0]))] s.heap.size = A at hD hAB0 ⊢
  have hA : ∀ q : Nat, s.heap.size ≤ q → A q := fun q h => by rw [← hAe]; exact Or.inr h
  have hAB : ∀ q, A q → B ≤ q := hAB0
  have hS : va_S A s.heap s.heap [] := va_S.rf
  have hP : va_P D vwCl ([(h, .inr (0, [.null, .int 0]))]) s.heap := hP
  have hD : va_D A ([(h, .inr (0, [.null, .int 0]))]) := hD
  have hin0 : ∀ w ∈ u_ws RX0 TX0 2, w ∈ wsX0_init := by decide +kernel
  have hl := lv_entry ([.ref h]) (n := 1) (Nat.le_of_ble_eq_true rfl)
  rw [lg_entry_eq]
  generalize (lg_sl ([.ref h]) ++ List.replicate (1 - (lg_sl ([.ref h])).length) Slot.unset).toArray = ls at hl ⊢
  have hl : lv_has ls 1 [(0, .ref h)] := hl
  refine lv_aload_n hx hb dX0_init_0 rfl (lv_at hl 0 rfl) ?_
  refine W.objInit hx hb hown (hts (.methodLink RX0 3 objectInit) (by decide +kernel)) (hts (.instanceMethod objectInit) (by decide +kernel)) (hts (.code objectInit ⟨#[0xb1]⟩ 1 none) (List.mem_of_getElem? (i := 3) rfl)) rfl (by rw [hml]; exact hl.1) rfl dX0_init_1 (Nat.le_of_ble_eq_true rfl) (Nat.le_of_ble_eq_true rfl) ?_
  refine W.eq (g2 := F0 m 4 ls []) rfl ?_
  refine lv_aload_n hx hb dX0_init_4 rfl (lv_at hl 0 rfl) ?_
  refine lv_bipush (v := (30 : Int32)) hx hb dX0_init_5 (by decide) ?_
  refine znewa (atype := .int) (ty := .int) (ca := cy 0) (a0 := (30, .inl (fun _ => 0))) (N' := 30) hx hb (hts (.arrayClass .int) (by decide +kernel)) rfl hK 0 rfl (fun _ h => h) hP hD hS hA (fun _ => rfl) (by decide) (by decide +kernel) (by decide +kernel) (Nat.le_of_ble_eq_true rfl) (Nat.le_of_ble_eq_true rfl) dX0_init_7 (fun a1 H hP hD hS => ?_)
  have hP : va_P D vwCl (([(h, .inr (0, [.null, .int 0]))] ++ [(a1, .inl (cy 0, 30, .inl (fun _ => 0)))])) H := hP
  have hD : va_D A (([(h, .inr (0, [.null, .int 0]))] ++ [(a1, .inl (cy 0, 30, .inl (fun _ => 0)))])) := hD
  refine W.widen (k := 1) (n := 30) (Nat.le_of_ble_eq_true rfl) (Nat.le_of_ble_eq_true rfl) ?_
  refine va_putF (D := D) (ci := 0) (v := .ref a1) (ty := .array .int) (C := RX0) (T := TX0) (N := 2) hx hb hts hin0 tyX0 tyX0_ok nmX0 hown hK hP hD hS 0 rfl rfl 0 (by decide) (hts (.fieldLink RX0 9 "KinCutlery$Rows" "cells" "[I") (by decide +kernel)) (fun _ h9 => h9) rfl hmn rfl (by decide +kernel) rfl rfl (Nat.le_of_ble_eq_true rfl) dX0_init_9 (fun H locs hP hD hS => ?_)
  have hP : va_P D vwCl (([(h, .inr (0, [.ref a1, .int 0]))] ++ [(a1, .inl (cy 0, 30, .inl (fun _ => 0)))])) H := hP
  have hD : va_D A (([(h, .inr (0, [.ref a1, .int 0]))] ++ [(a1, .inl (cy 0, 30, .inl (fun _ => 0)))])) := hD
  exact W.vret hx hb hr (fun t ht hW => ⟨rfl, (fun i => [a1].getD i 0), by rw [ht]; exact hP, hD, hS.F ht⟩) hS.2.2 dX0_init_12
set_option maxRecDepth 100000 in
set_option maxHeartbeats 4000000 in
theorem nX1_init (l : Launch) (D : va_G) (cy : Nat → ClassId) (st sk sv : Nat → Nat) (B h sz : Nat) : Met l yX1_init wsX1_init ({ frames := 1, cells := 1, slots := 40, locals := 12 }) (PcW [.ref h] D cy st sk sv B sz [(h, .inr (1, [.null, .int 0, .int 0]))]) (Qn D (fun q => FS cy h q) (va_A [(h, .inr (1, [.null, .int 0, .int 0]))] sz)) 1 40 (va_A [(h, .inr (1, [.null, .int 0, .int 0]))] sz) := by
  refine Met.ofW (cc := cX1_init) (maxL := 1) (ret := none) (by decide) rfl ?_
  intro p e s m args below meth c s₁ Bd hml hv
  obtain ⟨rfl, hsz, hP, hD0, hBs, hG⟩ := hv
  have hx := Bd.exec
  have hb := Bd.bytes
  have hr := Bd.returns
  have hts := atoms_spec (ws := wsX1_init) Bd.pre
  have hown : s.vm.findClass RX1 = some m.cls := findClass_of_methodNamed Bd.named
  have hlocks := Bd.notSynchronized
  have hmn : meth.name = "<init>" := (name_of_methodNamed Bd.named Bd.method).1
  have hK := hG.1
  subst hsz
  have hD := hD0.self (sz := s.heap.size)
  have hAB0 := zA hD0 hBs
  generalize hAe : va_A [(h, .inr (1, [.null, .int 0, .int 0]))] s.heap.size = A at hD hAB0 ⊢
  have hA : ∀ q : Nat, s.heap.size ≤ q → A q := fun q h => by rw [← hAe]; exact Or.inr h
  have hAB : ∀ q, A q → B ≤ q := hAB0
  have hS : va_S A s.heap s.heap [] := va_S.rf
  have hP : va_P D vwCl ([(h, .inr (1, [.null, .int 0, .int 0]))]) s.heap := hP
  have hD : va_D A ([(h, .inr (1, [.null, .int 0, .int 0]))]) := hD
  have hin1 : ∀ w ∈ u_ws RX1 TX1 3, w ∈ wsX1_init := by decide +kernel
  have hl := lv_entry ([.ref h]) (n := 1) (Nat.le_of_ble_eq_true rfl)
  rw [lg_entry_eq]
  generalize (lg_sl ([.ref h]) ++ List.replicate (1 - (lg_sl ([.ref h])).length) Slot.unset).toArray = ls at hl ⊢
  have hl : lv_has ls 1 [(0, .ref h)] := hl
  refine lv_aload_n hx hb dX1_init_0 rfl (lv_at hl 0 rfl) ?_
  refine W.objInit hx hb hown (hts (.methodLink RX1 3 objectInit) (by decide +kernel)) (hts (.instanceMethod objectInit) (by decide +kernel)) (hts (.code objectInit ⟨#[0xb1]⟩ 1 none) (List.mem_of_getElem? (i := 3) rfl)) rfl (by rw [hml]; exact hl.1) rfl dX1_init_1 (Nat.le_of_ble_eq_true rfl) (Nat.le_of_ble_eq_true rfl) ?_
  refine W.eq (g2 := F0 m 4 ls []) rfl ?_
  refine lv_aload_n hx hb dX1_init_4 rfl (lv_at hl 0 rfl) ?_
  refine lv_bipush (v := (40 : Int32)) hx hb dX1_init_5 (by decide) ?_
  refine znewa (atype := .long) (ty := .long) (ca := cy 2) (a0 := (40, .inr (.inl (fun _ => 0)))) (N' := 40) hx hb (hts (.arrayClass .long) (by decide +kernel)) rfl hK 2 rfl (fun _ h => h) hP hD hS hA (fun _ => rfl) (by decide) (by decide +kernel) (by decide +kernel) (Nat.le_of_ble_eq_true rfl) (Nat.le_of_ble_eq_true rfl) dX1_init_7 (fun a1 H hP hD hS => ?_)
  have hP : va_P D vwCl (([(h, .inr (1, [.null, .int 0, .int 0]))] ++ [(a1, .inl (cy 2, 40, .inr (.inl (fun _ => 0))))])) H := hP
  have hD : va_D A (([(h, .inr (1, [.null, .int 0, .int 0]))] ++ [(a1, .inl (cy 2, 40, .inr (.inl (fun _ => 0))))])) := hD
  refine W.widen (k := 1) (n := 40) (Nat.le_of_ble_eq_true rfl) (Nat.le_of_ble_eq_true rfl) ?_
  refine va_putF (D := D) (ci := 1) (v := .ref a1) (ty := .array .long) (C := RX1) (T := TX1) (N := 3) hx hb hts hin1 tyX1 tyX1_ok nmX1 hown hK hP hD hS 0 rfl rfl 0 (by decide) (hts (.fieldLink RX1 9 "KinCutlery$Sheet" "items" "[J") (by decide +kernel)) (fun _ h9 => h9) rfl hmn rfl (by decide +kernel) rfl rfl (Nat.le_of_ble_eq_true rfl) dX1_init_9 (fun H locs hP hD hS => ?_)
  have hP : va_P D vwCl (([(h, .inr (1, [.ref a1, .int 0, .int 0]))] ++ [(a1, .inl (cy 2, 40, .inr (.inl (fun _ => 0))))])) H := hP
  have hD : va_D A (([(h, .inr (1, [.ref a1, .int 0, .int 0]))] ++ [(a1, .inl (cy 2, 40, .inr (.inl (fun _ => 0))))])) := hD
  refine lv_aload_n hx hb dX1_init_12 rfl (lv_at hl 0 rfl) ?_
  refine lv_iconst (v := (-1 : Int32)) hx hb dX1_init_13 (by decide) ?_
  refine va_put (D := D) (ci := 1) (v := .int (-1 : Int32)) (ty := .int) (C := RX1) (T := TX1) (N := 3) hx hb hts hin1 tyX1 tyX1_ok nmX1 hown hK hP hD hS 0 rfl rfl 1 (by decide) (hts (.fieldLink RX1 15 "KinCutlery$Sheet" "sort" "I") (by decide +kernel)) (fun _ h9 => h9) rfl (by decide +kernel) rfl rfl (Nat.le_of_ble_eq_true rfl) dX1_init_14 (fun H locs hP hD hS => ?_)
  have hP : va_P D vwCl (([(h, .inr (1, [.ref a1, .int (-1 : Int32), .int 0]))] ++ [(a1, .inl (cy 2, 40, .inr (.inl (fun _ => 0))))])) H := hP
  have hD : va_D A (([(h, .inr (1, [.ref a1, .int (-1 : Int32), .int 0]))] ++ [(a1, .inl (cy 2, 40, .inr (.inl (fun _ => 0))))])) := hD
  exact W.vret hx hb hr (fun t ht hW => ⟨rfl, (fun i => [a1].getD i 0), by rw [ht]; exact hP, hD, hS.F ht⟩) hS.2.2 dX1_init_17
set_option maxRecDepth 100000 in
set_option maxHeartbeats 4000000 in
theorem nX2_init (l : Launch) (D : va_G) (cy : Nat → ClassId) (st sk sv : Nat → Nat) (B h sz : Nat) : Met l yX2_init wsX2_init ({ frames := 1, cells := 0, slots := 0, locals := 12 }) (PcW [.ref h] D cy st sk sv B sz [(h, .inr (2, [.int 0, .int 0, .int 0, .int 0]))]) (Qn D (fun q => FF cy h q) (va_A [(h, .inr (2, [.int 0, .int 0, .int 0, .int 0]))] sz)) 0 0 (va_A [(h, .inr (2, [.int 0, .int 0, .int 0, .int 0]))] sz) := by
  refine Met.ofW (cc := cX2_init) (maxL := 1) (ret := none) (by decide) rfl ?_
  intro p e s m args below meth c s₁ Bd hml hv
  obtain ⟨rfl, hsz, hP, hD0, hBs, hG⟩ := hv
  have hx := Bd.exec
  have hb := Bd.bytes
  have hr := Bd.returns
  have hts := atoms_spec (ws := wsX2_init) Bd.pre
  have hown : s.vm.findClass RX2 = some m.cls := findClass_of_methodNamed Bd.named
  have hlocks := Bd.notSynchronized
  have hmn : meth.name = "<init>" := (name_of_methodNamed Bd.named Bd.method).1
  have hK := hG.1
  subst hsz
  have hD := hD0.self (sz := s.heap.size)
  have hAB0 := zA hD0 hBs
  generalize hAe : va_A [(h, .inr (2, [.int 0, .int 0, .int 0, .int 0]))] s.heap.size = A at hD hAB0 ⊢
  have hA : ∀ q : Nat, s.heap.size ≤ q → A q := fun q h => by rw [← hAe]; exact Or.inr h
  have hAB : ∀ q, A q → B ≤ q := hAB0
  have hS : va_S A s.heap s.heap [] := va_S.rf
  have hP : va_P D vwCl ([(h, .inr (2, [.int 0, .int 0, .int 0, .int 0]))]) s.heap := hP
  have hD : va_D A ([(h, .inr (2, [.int 0, .int 0, .int 0, .int 0]))]) := hD
  have hin2 : ∀ w ∈ u_ws RX2 TX2 4, w ∈ wsX2_init := by decide +kernel
  have hl := lv_entry ([.ref h]) (n := 1) (Nat.le_of_ble_eq_true rfl)
  rw [lg_entry_eq]
  generalize (lg_sl ([.ref h]) ++ List.replicate (1 - (lg_sl ([.ref h])).length) Slot.unset).toArray = ls at hl ⊢
  have hl : lv_has ls 1 [(0, .ref h)] := hl
  refine lv_aload_n hx hb dX2_init_0 rfl (lv_at hl 0 rfl) ?_
  refine W.objInit hx hb hown (hts (.methodLink RX2 3 objectInit) (by decide +kernel)) (hts (.instanceMethod objectInit) (by decide +kernel)) (hts (.code objectInit ⟨#[0xb1]⟩ 1 none) (List.mem_of_getElem? (i := 3) rfl)) rfl (by rw [hml]; exact hl.1) rfl dX2_init_1 (Nat.le_of_ble_eq_true rfl) (Nat.le_of_ble_eq_true rfl) ?_
  refine W.eq (g2 := F0 m 4 ls []) rfl ?_
  refine lv_aload_n hx hb dX2_init_4 rfl (lv_at hl 0 rfl) ?_
  refine lv_iconst (v := (2 : Int32)) hx hb dX2_init_5 (by decide) ?_
  refine va_put (D := D) (ci := 2) (v := .int (2 : Int32)) (ty := .int) (C := RX2) (T := TX2) (N := 4) hx hb hts hin2 tyX2 tyX2_ok nmX2 hown hK hP hD hS 0 rfl rfl 0 (by decide) (hts (.fieldLink RX2 9 "KinCutlery$Shelf" "what" "I") (by decide +kernel)) (fun _ h9 => h9) rfl (by decide +kernel) rfl rfl (Nat.le_of_ble_eq_true rfl) dX2_init_6 (fun H locs hP hD hS => ?_)
  have hP : va_P D vwCl ([(h, .inr (2, [.int (2 : Int32), .int 0, .int 0, .int 0]))]) H := hP
  have hD : va_D A ([(h, .inr (2, [.int (2 : Int32), .int 0, .int 0, .int 0]))]) := hD
  exact W.vret hx hb hr (fun t ht hW => ⟨rfl, (fun _ => 0), by rw [ht]; exact hP, hD, hS.F ht⟩) hS.2.2 dX2_init_9
set_option maxRecDepth 100000 in
set_option maxHeartbeats 4000000 in
theorem nX3_init (l : Launch) (D : va_G) (cy : Nat → ClassId) (st sk sv : Nat → Nat) (B h sz : Nat) : Met l yX3_init wsX3_init ({ frames := 1, cells := 1, slots := 30, locals := 12 }) (PcW [.ref h] D cy st sk sv B sz [(h, .inr (3, [.null, .int 0, .int 0, .int 0, .int 0, .int 0]))]) (Qn D (fun q => FG cy h q ((fun _ => 0), 0, 0, 0, 0, 0)) (va_A [(h, .inr (3, [.null, .int 0, .int 0, .int 0, .int 0, .int 0]))] sz)) 1 30 (va_A [(h, .inr (3, [.null, .int 0, .int 0, .int 0, .int 0, .int 0]))] sz) := by
  refine Met.ofW (cc := cX3_init) (maxL := 1) (ret := none) (by decide) rfl ?_
  intro p e s m args below meth c s₁ Bd hml hv
  obtain ⟨rfl, hsz, hP, hD0, hBs, hG⟩ := hv
  have hx := Bd.exec
  have hb := Bd.bytes
  have hr := Bd.returns
  have hts := atoms_spec (ws := wsX3_init) Bd.pre
  have hown : s.vm.findClass RX3 = some m.cls := findClass_of_methodNamed Bd.named
  have hlocks := Bd.notSynchronized
  have hmn : meth.name = "<init>" := (name_of_methodNamed Bd.named Bd.method).1
  have hK := hG.1
  subst hsz
  have hD := hD0.self (sz := s.heap.size)
  have hAB0 := zA hD0 hBs
  generalize hAe : va_A [(h, .inr (3, [.null, .int 0, .int 0, .int 0, .int 0, .int 0]))] s.heap.size = A at hD hAB0 ⊢
  have hA : ∀ q : Nat, s.heap.size ≤ q → A q := fun q h => by rw [← hAe]; exact Or.inr h
  have hAB : ∀ q, A q → B ≤ q := hAB0
  have hS : va_S A s.heap s.heap [] := va_S.rf
  have hP : va_P D vwCl ([(h, .inr (3, [.null, .int 0, .int 0, .int 0, .int 0, .int 0]))]) s.heap := hP
  have hD : va_D A ([(h, .inr (3, [.null, .int 0, .int 0, .int 0, .int 0, .int 0]))]) := hD
  have hin3 : ∀ w ∈ u_ws RX3 TX3 6, w ∈ wsX3_init := by decide +kernel
  have hl := lv_entry ([.ref h]) (n := 1) (Nat.le_of_ble_eq_true rfl)
  rw [lg_entry_eq]
  generalize (lg_sl ([.ref h]) ++ List.replicate (1 - (lg_sl ([.ref h])).length) Slot.unset).toArray = ls at hl ⊢
  have hl : lv_has ls 1 [(0, .ref h)] := hl
  refine lv_aload_n hx hb dX3_init_0 rfl (lv_at hl 0 rfl) ?_
  refine W.objInit hx hb hown (hts (.methodLink RX3 3 objectInit) (by decide +kernel)) (hts (.instanceMethod objectInit) (by decide +kernel)) (hts (.code objectInit ⟨#[0xb1]⟩ 1 none) (List.mem_of_getElem? (i := 3) rfl)) rfl (by rw [hml]; exact hl.1) rfl dX3_init_1 (Nat.le_of_ble_eq_true rfl) (Nat.le_of_ble_eq_true rfl) ?_
  refine W.eq (g2 := F0 m 4 ls []) rfl ?_
  refine lv_aload_n hx hb dX3_init_4 rfl (lv_at hl 0 rfl) ?_
  refine lv_bipush (v := (30 : Int32)) hx hb dX3_init_5 (by decide) ?_
  refine znewa (atype := .int) (ty := .int) (ca := cy 0) (a0 := (30, .inl (fun _ => 0))) (N' := 30) hx hb (hts (.arrayClass .int) (by decide +kernel)) rfl hK 0 rfl (fun _ h => h) hP hD hS hA (fun _ => rfl) (by decide) (by decide +kernel) (by decide +kernel) (Nat.le_of_ble_eq_true rfl) (Nat.le_of_ble_eq_true rfl) dX3_init_7 (fun a1 H hP hD hS => ?_)
  have hP : va_P D vwCl (([(h, .inr (3, [.null, .int 0, .int 0, .int 0, .int 0, .int 0]))] ++ [(a1, .inl (cy 0, 30, .inl (fun _ => 0)))])) H := hP
  have hD : va_D A (([(h, .inr (3, [.null, .int 0, .int 0, .int 0, .int 0, .int 0]))] ++ [(a1, .inl (cy 0, 30, .inl (fun _ => 0)))])) := hD
  refine W.widen (k := 1) (n := 30) (Nat.le_of_ble_eq_true rfl) (Nat.le_of_ble_eq_true rfl) ?_
  refine va_putF (D := D) (ci := 3) (v := .ref a1) (ty := .array .int) (C := RX3) (T := TX3) (N := 6) hx hb hts hin3 tyX3 tyX3_ok nmX3 hown hK hP hD hS 0 rfl rfl 0 (by decide) (hts (.fieldLink RX3 9 "KinCutlery$Stage" "bodies" "[I") (by decide +kernel)) (fun _ h9 => h9) rfl hmn rfl (by decide +kernel) rfl rfl (Nat.le_of_ble_eq_true rfl) dX3_init_9 (fun H locs hP hD hS => ?_)
  have hP : va_P D vwCl (([(h, .inr (3, [.ref a1, .int 0, .int 0, .int 0, .int 0, .int 0]))] ++ [(a1, .inl (cy 0, 30, .inl (fun _ => 0)))])) H := hP
  have hD : va_D A (([(h, .inr (3, [.ref a1, .int 0, .int 0, .int 0, .int 0, .int 0]))] ++ [(a1, .inl (cy 0, 30, .inl (fun _ => 0)))])) := hD
  exact W.vret hx hb hr (fun t ht hW => ⟨rfl, (fun i => [a1].getD i 0), by rw [ht]; exact hP, hD, hS.F ht⟩) hS.2.2 dX3_init_12
set_option maxRecDepth 100000 in
set_option maxHeartbeats 4000000 in
theorem nX5_init (l : Launch) (D : va_G) (cy : Nat → ClassId) (st sk sv : Nat → Nat) (B h sz : Nat) : Met l yX5_init wsX5_init ({ frames := 1, cells := 1, slots := 200, locals := 12 }) (PcW [.ref h] D cy st sk sv B sz [(h, .inr (5, [.null, .int 0, .int 0, .int 0, .int 0, .int 0]))]) (Qn D (fun q => FA cy h q ((fun _ => 0), 0, 0, 0, 0, 0)) (va_A [(h, .inr (5, [.null, .int 0, .int 0, .int 0, .int 0, .int 0]))] sz)) 1 200 (va_A [(h, .inr (5, [.null, .int 0, .int 0, .int 0, .int 0, .int 0]))] sz) := by
  refine Met.ofW (cc := cX5_init) (maxL := 1) (ret := none) (by decide) rfl ?_
  intro p e s m args below meth c s₁ Bd hml hv
  obtain ⟨rfl, hsz, hP, hD0, hBs, hG⟩ := hv
  have hx := Bd.exec
  have hb := Bd.bytes
  have hr := Bd.returns
  have hts := atoms_spec (ws := wsX5_init) Bd.pre
  have hown : s.vm.findClass RX5 = some m.cls := findClass_of_methodNamed Bd.named
  have hlocks := Bd.notSynchronized
  have hmn : meth.name = "<init>" := (name_of_methodNamed Bd.named Bd.method).1
  have hK := hG.1
  subst hsz
  have hD := hD0.self (sz := s.heap.size)
  have hAB0 := zA hD0 hBs
  generalize hAe : va_A [(h, .inr (5, [.null, .int 0, .int 0, .int 0, .int 0, .int 0]))] s.heap.size = A at hD hAB0 ⊢
  have hA : ∀ q : Nat, s.heap.size ≤ q → A q := fun q h => by rw [← hAe]; exact Or.inr h
  have hAB : ∀ q, A q → B ≤ q := hAB0
  have hS : va_S A s.heap s.heap [] := va_S.rf
  have hP : va_P D vwCl ([(h, .inr (5, [.null, .int 0, .int 0, .int 0, .int 0, .int 0]))]) s.heap := hP
  have hD : va_D A ([(h, .inr (5, [.null, .int 0, .int 0, .int 0, .int 0, .int 0]))]) := hD
  have hin5 : ∀ w ∈ u_ws RX5 TX5 6, w ∈ wsX5_init := by decide +kernel
  have hl := lv_entry ([.ref h]) (n := 1) (Nat.le_of_ble_eq_true rfl)
  rw [lg_entry_eq]
  generalize (lg_sl ([.ref h]) ++ List.replicate (1 - (lg_sl ([.ref h])).length) Slot.unset).toArray = ls at hl ⊢
  have hl : lv_has ls 1 [(0, .ref h)] := hl
  refine lv_aload_n hx hb dX5_init_0 rfl (lv_at hl 0 rfl) ?_
  refine W.objInit hx hb hown (hts (.methodLink RX5 3 objectInit) (by decide +kernel)) (hts (.instanceMethod objectInit) (by decide +kernel)) (hts (.code objectInit ⟨#[0xb1]⟩ 1 none) (List.mem_of_getElem? (i := 3) rfl)) rfl (by rw [hml]; exact hl.1) rfl dX5_init_1 (Nat.le_of_ble_eq_true rfl) (Nat.le_of_ble_eq_true rfl) ?_
  refine W.eq (g2 := F0 m 4 ls []) rfl ?_
  refine lv_aload_n hx hb dX5_init_4 rfl (lv_at hl 0 rfl) ?_
  refine lv_sipush (v := (200 : Int32)) hx hb dX5_init_5 (by decide) ?_
  refine znewa (atype := .byte) (ty := .byte) (ca := cy 1) (a0 := (200, .inl (fun _ => 0))) (N' := 200) hx hb (hts (.arrayClass .byte) (by decide +kernel)) rfl hK 1 rfl (fun _ h => h) hP hD hS hA (fun _ => rfl) (by decide) (by decide +kernel) (by decide +kernel) (Nat.le_of_ble_eq_true rfl) (Nat.le_of_ble_eq_true rfl) dX5_init_8 (fun a1 H hP hD hS => ?_)
  have hP : va_P D vwCl (([(h, .inr (5, [.null, .int 0, .int 0, .int 0, .int 0, .int 0]))] ++ [(a1, .inl (cy 1, 200, .inl (fun _ => 0)))])) H := hP
  have hD : va_D A (([(h, .inr (5, [.null, .int 0, .int 0, .int 0, .int 0, .int 0]))] ++ [(a1, .inl (cy 1, 200, .inl (fun _ => 0)))])) := hD
  refine W.widen (k := 1) (n := 200) (Nat.le_of_ble_eq_true rfl) (Nat.le_of_ble_eq_true rfl) ?_
  refine va_putF (D := D) (ci := 5) (v := .ref a1) (ty := .array .byte) (C := RX5) (T := TX5) (N := 6) hx hb hts hin5 tyX5 tyX5_ok nmX5 hown hK hP hD hS 0 rfl rfl 0 (by decide) (hts (.fieldLink RX5 9 "KinCutlery$Tape" "bytes" "[B") (by decide +kernel)) (fun _ h9 => h9) rfl hmn rfl (by decide +kernel) rfl rfl (Nat.le_of_ble_eq_true rfl) dX5_init_10 (fun H locs hP hD hS => ?_)
  have hP : va_P D vwCl (([(h, .inr (5, [.ref a1, .int 0, .int 0, .int 0, .int 0, .int 0]))] ++ [(a1, .inl (cy 1, 200, .inl (fun _ => 0)))])) H := hP
  have hD : va_D A (([(h, .inr (5, [.ref a1, .int 0, .int 0, .int 0, .int 0, .int 0]))] ++ [(a1, .inl (cy 1, 200, .inl (fun _ => 0)))])) := hD
  exact W.vret hx hb hr (fun t ht hW => ⟨rfl, (fun i => [a1].getD i 0), by rw [ht]; exact hP, hD, hS.F ht⟩) hS.2.2 dX5_init_13
set_option maxRecDepth 100000 in
set_option maxHeartbeats 4000000 in
theorem nX4_init (l : Launch) (D : va_G) (cy : Nat → ClassId) (st sk sv : Nat → Nat) (B h sz : Nat) (n : Nat) (z : TB) (hf : fX4_clear n ((fun _ => 0), (fun _ => 0), (fun _ => 0), (fun _ => 0), (fun _ => 0), 0, 0, 0, 0, 1) = some z) : Met l yX4_init wsX4_init ({ frames := 2, cells := 5, slots := 36, locals := 80 }) (PcW [.ref h] D cy st sk sv B sz [(h, .inr (4, [.null, .null, .null, .null, .null, .int 0, .int 0, .int 0, .int 0, .int 0]))]) (Qn D (fun q => FT cy h q z) (va_A [(h, .inr (4, [.null, .null, .null, .null, .null, .int 0, .int 0, .int 0, .int 0, .int 0]))] sz)) 5 36 (va_A [(h, .inr (4, [.null, .null, .null, .null, .null, .int 0, .int 0, .int 0, .int 0, .int 0]))] sz) := by
  refine Met.ofW (cc := cX4_init) (maxL := 1) (ret := none) (by decide) rfl ?_
  intro p e s m args below meth c s₁ Bd hml hv
  obtain ⟨rfl, hsz, hP, hD0, hBs, hG⟩ := hv
  have hx := Bd.exec
  have hb := Bd.bytes
  have hr := Bd.returns
  have hts := atoms_spec (ws := wsX4_init) Bd.pre
  have hown : s.vm.findClass RX4 = some m.cls := findClass_of_methodNamed Bd.named
  have hlocks := Bd.notSynchronized
  have hmn : meth.name = "<init>" := (name_of_methodNamed Bd.named Bd.method).1
  have hK := hG.1
  subst hsz
  have hD := hD0.self (sz := s.heap.size)
  have hAB0 := zA hD0 hBs
  generalize hAe : va_A [(h, .inr (4, [.null, .null, .null, .null, .null, .int 0, .int 0, .int 0, .int 0, .int 0]))] s.heap.size = A at hD hAB0 ⊢
  have hA : ∀ q : Nat, s.heap.size ≤ q → A q := fun q h => by rw [← hAe]; exact Or.inr h
  have hAB : ∀ q, A q → B ≤ q := hAB0
  have hS : va_S A s.heap s.heap [] := va_S.rf
  have hP : va_P D vwCl ([(h, .inr (4, [.null, .null, .null, .null, .null, .int 0, .int 0, .int 0, .int 0, .int 0]))]) s.heap := hP
  have hD : va_D A ([(h, .inr (4, [.null, .null, .null, .null, .null, .int 0, .int 0, .int 0, .int 0, .int 0]))]) := hD
  have hin4 : ∀ w ∈ u_ws RX4 TX4 10, w ∈ wsX4_init := by decide +kernel
  have hl := lv_entry ([.ref h]) (n := 1) (Nat.le_of_ble_eq_true rfl)
  rw [lg_entry_eq]
  generalize (lg_sl ([.ref h]) ++ List.replicate (1 - (lg_sl ([.ref h])).length) Slot.unset).toArray = ls at hl ⊢
  have hl : lv_has ls 1 [(0, .ref h)] := hl
  refine lv_aload_n hx hb dX4_init_0 rfl (lv_at hl 0 rfl) ?_
  refine W.objInit hx hb hown (hts (.methodLink RX4 3 objectInit) (by decide +kernel)) (hts (.instanceMethod objectInit) (by decide +kernel)) (hts (.code objectInit ⟨#[0xb1]⟩ 1 none) (List.mem_of_getElem? (i := 3) rfl)) rfl (by rw [hml]; exact hl.1) rfl dX4_init_1 (Nat.le_of_ble_eq_true rfl) (Nat.le_of_ble_eq_true rfl) ?_
  refine W.eq (g2 := F0 m 4 ls []) rfl ?_
  refine lv_aload_n hx hb dX4_init_4 rfl (lv_at hl 0 rfl) ?_
  refine lv_iconst (v := (4 : Int32)) hx hb dX4_init_5 (by decide) ?_
  refine znewa (atype := .int) (ty := .int) (ca := cy 0) (a0 := (4, .inl (fun _ => 0))) (N' := 4) hx hb (hts (.arrayClass .int) (by decide +kernel)) rfl hK 0 rfl (fun _ h => h) hP hD hS hA (fun _ => rfl) (by decide) (by decide +kernel) (by decide +kernel) (Nat.le_of_ble_eq_true rfl) (Nat.le_of_ble_eq_true rfl) dX4_init_6 (fun a1 H hP hD hS => ?_)
  have hP : va_P D vwCl (([(h, .inr (4, [.null, .null, .null, .null, .null, .int 0, .int 0, .int 0, .int 0, .int 0]))] ++ [(a1, .inl (cy 0, 4, .inl (fun _ => 0)))])) H := hP
  have hD : va_D A (([(h, .inr (4, [.null, .null, .null, .null, .null, .int 0, .int 0, .int 0, .int 0, .int 0]))] ++ [(a1, .inl (cy 0, 4, .inl (fun _ => 0)))])) := hD
  refine W.widen (k := 1) (n := 4) (Nat.le_of_ble_eq_true rfl) (Nat.le_of_ble_eq_true rfl) ?_
  refine va_putF (D := D) (ci := 4) (v := .ref a1) (ty := .array .int) (C := RX4) (T := TX4) (N := 10) hx hb hts hin4 tyX4 tyX4_ok nmX4 hown hK hP hD hS 0 rfl rfl 0 (by decide) (hts (.fieldLink RX4 9 "KinCutlery$Table" "laws" "[I") (by decide +kernel)) (fun _ h9 => h9) rfl hmn rfl (by decide +kernel) rfl rfl (Nat.le_of_ble_eq_true rfl) dX4_init_8 (fun H locs hP hD hS => ?_)
  have hP : va_P D vwCl (([(h, .inr (4, [.ref a1, .null, .null, .null, .null, .int 0, .int 0, .int 0, .int 0, .int 0]))] ++ [(a1, .inl (cy 0, 4, .inl (fun _ => 0)))])) H := hP
  have hD : va_D A (([(h, .inr (4, [.ref a1, .null, .null, .null, .null, .int 0, .int 0, .int 0, .int 0, .int 0]))] ++ [(a1, .inl (cy 0, 4, .inl (fun _ => 0)))])) := hD
  refine lv_aload_n hx hb dX4_init_11 rfl (lv_at hl 0 rfl) ?_
  refine lv_bipush (v := (8 : Int32)) hx hb dX4_init_12 (by decide) ?_
  refine znewa (atype := .int) (ty := .int) (ca := cy 0) (a0 := (8, .inl (fun _ => 0))) (N' := 8) hx hb (hts (.arrayClass .int) (by decide +kernel)) rfl hK 0 rfl (fun _ h => h) hP hD hS hA (fun _ => rfl) (by decide) (by decide +kernel) (by decide +kernel) (Nat.le_of_ble_eq_true rfl) (Nat.le_of_ble_eq_true rfl) dX4_init_14 (fun a2 H hP hD hS => ?_)
  have hP : va_P D vwCl ((([(h, .inr (4, [.ref a1, .null, .null, .null, .null, .int 0, .int 0, .int 0, .int 0, .int 0]))] ++ [(a1, .inl (cy 0, 4, .inl (fun _ => 0)))]) ++ [(a2, .inl (cy 0, 8, .inl (fun _ => 0)))])) H := hP
  have hD : va_D A ((([(h, .inr (4, [.ref a1, .null, .null, .null, .null, .int 0, .int 0, .int 0, .int 0, .int 0]))] ++ [(a1, .inl (cy 0, 4, .inl (fun _ => 0)))]) ++ [(a2, .inl (cy 0, 8, .inl (fun _ => 0)))])) := hD
  refine W.widen (k := 2) (n := 12) (Nat.le_of_ble_eq_true rfl) (Nat.le_of_ble_eq_true rfl) ?_
  refine va_putF (D := D) (ci := 4) (v := .ref a2) (ty := .array .int) (C := RX4) (T := TX4) (N := 10) hx hb hts hin4 tyX4 tyX4_ok nmX4 hown hK hP hD hS 0 rfl rfl 1 (by decide) (hts (.fieldLink RX4 15 "KinCutlery$Table" "kind" "[I") (by decide +kernel)) (fun _ h9 => h9) rfl hmn rfl (by decide +kernel) rfl rfl (Nat.le_of_ble_eq_true rfl) dX4_init_16 (fun H locs hP hD hS => ?_)
  have hP : va_P D vwCl ((([(h, .inr (4, [.ref a1, .ref a2, .null, .null, .null, .int 0, .int 0, .int 0, .int 0, .int 0]))] ++ [(a1, .inl (cy 0, 4, .inl (fun _ => 0)))]) ++ [(a2, .inl (cy 0, 8, .inl (fun _ => 0)))])) H := hP
  have hD : va_D A ((([(h, .inr (4, [.ref a1, .ref a2, .null, .null, .null, .int 0, .int 0, .int 0, .int 0, .int 0]))] ++ [(a1, .inl (cy 0, 4, .inl (fun _ => 0)))]) ++ [(a2, .inl (cy 0, 8, .inl (fun _ => 0)))])) := hD
  refine lv_aload_n hx hb dX4_init_19 rfl (lv_at hl 0 rfl) ?_
  refine lv_bipush (v := (8 : Int32)) hx hb dX4_init_20 (by decide) ?_
  refine znewa (atype := .int) (ty := .int) (ca := cy 0) (a0 := (8, .inl (fun _ => 0))) (N' := 8) hx hb (hts (.arrayClass .int) (by decide +kernel)) rfl hK 0 rfl (fun _ h => h) hP hD hS hA (fun _ => rfl) (by decide) (by decide +kernel) (by decide +kernel) (Nat.le_of_ble_eq_true rfl) (Nat.le_of_ble_eq_true rfl) dX4_init_22 (fun a3 H hP hD hS => ?_)
  have hP : va_P D vwCl (((([(h, .inr (4, [.ref a1, .ref a2, .null, .null, .null, .int 0, .int 0, .int 0, .int 0, .int 0]))] ++ [(a1, .inl (cy 0, 4, .inl (fun _ => 0)))]) ++ [(a2, .inl (cy 0, 8, .inl (fun _ => 0)))]) ++ [(a3, .inl (cy 0, 8, .inl (fun _ => 0)))])) H := hP
  have hD : va_D A (((([(h, .inr (4, [.ref a1, .ref a2, .null, .null, .null, .int 0, .int 0, .int 0, .int 0, .int 0]))] ++ [(a1, .inl (cy 0, 4, .inl (fun _ => 0)))]) ++ [(a2, .inl (cy 0, 8, .inl (fun _ => 0)))]) ++ [(a3, .inl (cy 0, 8, .inl (fun _ => 0)))])) := hD
  refine W.widen (k := 3) (n := 20) (Nat.le_of_ble_eq_true rfl) (Nat.le_of_ble_eq_true rfl) ?_
  refine va_putF (D := D) (ci := 4) (v := .ref a3) (ty := .array .int) (C := RX4) (T := TX4) (N := 10) hx hb hts hin4 tyX4 tyX4_ok nmX4 hown hK hP hD hS 0 rfl rfl 2 (by decide) (hts (.fieldLink RX4 18 "KinCutlery$Table" "holds" "[I") (by decide +kernel)) (fun _ h9 => h9) rfl hmn rfl (by decide +kernel) rfl rfl (Nat.le_of_ble_eq_true rfl) dX4_init_24 (fun H locs hP hD hS => ?_)
  have hP : va_P D vwCl (((([(h, .inr (4, [.ref a1, .ref a2, .ref a3, .null, .null, .int 0, .int 0, .int 0, .int 0, .int 0]))] ++ [(a1, .inl (cy 0, 4, .inl (fun _ => 0)))]) ++ [(a2, .inl (cy 0, 8, .inl (fun _ => 0)))]) ++ [(a3, .inl (cy 0, 8, .inl (fun _ => 0)))])) H := hP
  have hD : va_D A (((([(h, .inr (4, [.ref a1, .ref a2, .ref a3, .null, .null, .int 0, .int 0, .int 0, .int 0, .int 0]))] ++ [(a1, .inl (cy 0, 4, .inl (fun _ => 0)))]) ++ [(a2, .inl (cy 0, 8, .inl (fun _ => 0)))]) ++ [(a3, .inl (cy 0, 8, .inl (fun _ => 0)))])) := hD
  refine lv_aload_n hx hb dX4_init_27 rfl (lv_at hl 0 rfl) ?_
  refine lv_bipush (v := (8 : Int32)) hx hb dX4_init_28 (by decide) ?_
  refine znewa (atype := .int) (ty := .int) (ca := cy 0) (a0 := (8, .inl (fun _ => 0))) (N' := 8) hx hb (hts (.arrayClass .int) (by decide +kernel)) rfl hK 0 rfl (fun _ h => h) hP hD hS hA (fun _ => rfl) (by decide) (by decide +kernel) (by decide +kernel) (Nat.le_of_ble_eq_true rfl) (Nat.le_of_ble_eq_true rfl) dX4_init_30 (fun a4 H hP hD hS => ?_)
  have hP : va_P D vwCl ((((([(h, .inr (4, [.ref a1, .ref a2, .ref a3, .null, .null, .int 0, .int 0, .int 0, .int 0, .int 0]))] ++ [(a1, .inl (cy 0, 4, .inl (fun _ => 0)))]) ++ [(a2, .inl (cy 0, 8, .inl (fun _ => 0)))]) ++ [(a3, .inl (cy 0, 8, .inl (fun _ => 0)))]) ++ [(a4, .inl (cy 0, 8, .inl (fun _ => 0)))])) H := hP
  have hD : va_D A ((((([(h, .inr (4, [.ref a1, .ref a2, .ref a3, .null, .null, .int 0, .int 0, .int 0, .int 0, .int 0]))] ++ [(a1, .inl (cy 0, 4, .inl (fun _ => 0)))]) ++ [(a2, .inl (cy 0, 8, .inl (fun _ => 0)))]) ++ [(a3, .inl (cy 0, 8, .inl (fun _ => 0)))]) ++ [(a4, .inl (cy 0, 8, .inl (fun _ => 0)))])) := hD
  refine W.widen (k := 4) (n := 28) (Nat.le_of_ble_eq_true rfl) (Nat.le_of_ble_eq_true rfl) ?_
  refine va_putF (D := D) (ci := 4) (v := .ref a4) (ty := .array .int) (C := RX4) (T := TX4) (N := 10) hx hb hts hin4 tyX4 tyX4_ok nmX4 hown hK hP hD hS 0 rfl rfl 3 (by decide) (hts (.fieldLink RX4 21 "KinCutlery$Table" "gone" "[I") (by decide +kernel)) (fun _ h9 => h9) rfl hmn rfl (by decide +kernel) rfl rfl (Nat.le_of_ble_eq_true rfl) dX4_init_32 (fun H locs hP hD hS => ?_)
  have hP : va_P D vwCl ((((([(h, .inr (4, [.ref a1, .ref a2, .ref a3, .ref a4, .null, .int 0, .int 0, .int 0, .int 0, .int 0]))] ++ [(a1, .inl (cy 0, 4, .inl (fun _ => 0)))]) ++ [(a2, .inl (cy 0, 8, .inl (fun _ => 0)))]) ++ [(a3, .inl (cy 0, 8, .inl (fun _ => 0)))]) ++ [(a4, .inl (cy 0, 8, .inl (fun _ => 0)))])) H := hP
  have hD : va_D A ((((([(h, .inr (4, [.ref a1, .ref a2, .ref a3, .ref a4, .null, .int 0, .int 0, .int 0, .int 0, .int 0]))] ++ [(a1, .inl (cy 0, 4, .inl (fun _ => 0)))]) ++ [(a2, .inl (cy 0, 8, .inl (fun _ => 0)))]) ++ [(a3, .inl (cy 0, 8, .inl (fun _ => 0)))]) ++ [(a4, .inl (cy 0, 8, .inl (fun _ => 0)))])) := hD
  refine lv_aload_n hx hb dX4_init_35 rfl (lv_at hl 0 rfl) ?_
  refine lv_bipush (v := (8 : Int32)) hx hb dX4_init_36 (by decide) ?_
  refine znewa (atype := .int) (ty := .int) (ca := cy 0) (a0 := (8, .inl (fun _ => 0))) (N' := 8) hx hb (hts (.arrayClass .int) (by decide +kernel)) rfl hK 0 rfl (fun _ h => h) hP hD hS hA (fun _ => rfl) (by decide) (by decide +kernel) (by decide +kernel) (Nat.le_of_ble_eq_true rfl) (Nat.le_of_ble_eq_true rfl) dX4_init_38 (fun a5 H hP hD hS => ?_)
  have hP : va_P D vwCl (((((([(h, .inr (4, [.ref a1, .ref a2, .ref a3, .ref a4, .null, .int 0, .int 0, .int 0, .int 0, .int 0]))] ++ [(a1, .inl (cy 0, 4, .inl (fun _ => 0)))]) ++ [(a2, .inl (cy 0, 8, .inl (fun _ => 0)))]) ++ [(a3, .inl (cy 0, 8, .inl (fun _ => 0)))]) ++ [(a4, .inl (cy 0, 8, .inl (fun _ => 0)))]) ++ [(a5, .inl (cy 0, 8, .inl (fun _ => 0)))])) H := hP
  have hD : va_D A (((((([(h, .inr (4, [.ref a1, .ref a2, .ref a3, .ref a4, .null, .int 0, .int 0, .int 0, .int 0, .int 0]))] ++ [(a1, .inl (cy 0, 4, .inl (fun _ => 0)))]) ++ [(a2, .inl (cy 0, 8, .inl (fun _ => 0)))]) ++ [(a3, .inl (cy 0, 8, .inl (fun _ => 0)))]) ++ [(a4, .inl (cy 0, 8, .inl (fun _ => 0)))]) ++ [(a5, .inl (cy 0, 8, .inl (fun _ => 0)))])) := hD
  refine W.widen (k := 5) (n := 36) (Nat.le_of_ble_eq_true rfl) (Nat.le_of_ble_eq_true rfl) ?_
  refine va_putF (D := D) (ci := 4) (v := .ref a5) (ty := .array .int) (C := RX4) (T := TX4) (N := 10) hx hb hts hin4 tyX4 tyX4_ok nmX4 hown hK hP hD hS 0 rfl rfl 4 (by decide) (hts (.fieldLink RX4 24 "KinCutlery$Table" "tells" "[I") (by decide +kernel)) (fun _ h9 => h9) rfl hmn rfl (by decide +kernel) rfl rfl (Nat.le_of_ble_eq_true rfl) dX4_init_40 (fun H locs hP hD hS => ?_)
  have hP : va_P D vwCl (((((([(h, .inr (4, [.ref a1, .ref a2, .ref a3, .ref a4, .ref a5, .int 0, .int 0, .int 0, .int 0, .int 0]))] ++ [(a1, .inl (cy 0, 4, .inl (fun _ => 0)))]) ++ [(a2, .inl (cy 0, 8, .inl (fun _ => 0)))]) ++ [(a3, .inl (cy 0, 8, .inl (fun _ => 0)))]) ++ [(a4, .inl (cy 0, 8, .inl (fun _ => 0)))]) ++ [(a5, .inl (cy 0, 8, .inl (fun _ => 0)))])) H := hP
  have hD : va_D A (((((([(h, .inr (4, [.ref a1, .ref a2, .ref a3, .ref a4, .ref a5, .int 0, .int 0, .int 0, .int 0, .int 0]))] ++ [(a1, .inl (cy 0, 4, .inl (fun _ => 0)))]) ++ [(a2, .inl (cy 0, 8, .inl (fun _ => 0)))]) ++ [(a3, .inl (cy 0, 8, .inl (fun _ => 0)))]) ++ [(a4, .inl (cy 0, 8, .inl (fun _ => 0)))]) ++ [(a5, .inl (cy 0, 8, .inl (fun _ => 0)))])) := hD
  refine lv_aload_n hx hb dX4_init_43 rfl (lv_at hl 0 rfl) ?_
  refine lv_iconst (v := (1 : Int32)) hx hb dX4_init_44 (by decide) ?_
  refine va_put (D := D) (ci := 4) (v := .int (1 : Int32)) (ty := .int) (C := RX4) (T := TX4) (N := 10) hx hb hts hin4 tyX4 tyX4_ok nmX4 hown hK hP hD hS 0 rfl rfl 9 (by decide) (hts (.fieldLink RX4 27 "KinCutlery$Table" "z" "I") (by decide +kernel)) (fun _ h9 => h9) rfl (by decide +kernel) rfl rfl (Nat.le_of_ble_eq_true rfl) dX4_init_45 (fun H locs hP hD hS => ?_)
  have hP : va_P D vwCl (((((([(h, .inr (4, [.ref a1, .ref a2, .ref a3, .ref a4, .ref a5, .int 0, .int 0, .int 0, .int 0, .int (1 : Int32)]))] ++ [(a1, .inl (cy 0, 4, .inl (fun _ => 0)))]) ++ [(a2, .inl (cy 0, 8, .inl (fun _ => 0)))]) ++ [(a3, .inl (cy 0, 8, .inl (fun _ => 0)))]) ++ [(a4, .inl (cy 0, 8, .inl (fun _ => 0)))]) ++ [(a5, .inl (cy 0, 8, .inl (fun _ => 0)))])) H := hP
  have hD : va_D A (((((([(h, .inr (4, [.ref a1, .ref a2, .ref a3, .ref a4, .ref a5, .int 0, .int 0, .int 0, .int 0, .int (1 : Int32)]))] ++ [(a1, .inl (cy 0, 4, .inl (fun _ => 0)))]) ++ [(a2, .inl (cy 0, 8, .inl (fun _ => 0)))]) ++ [(a3, .inl (cy 0, 8, .inl (fun _ => 0)))]) ++ [(a4, .inl (cy 0, 8, .inl (fun _ => 0)))]) ++ [(a5, .inl (cy 0, 8, .inl (fun _ => 0)))])) := hD
  refine lv_aload_n hx hb dX4_init_48 rfl (lv_at hl 0 rfl) ?_
  have hP : va_P D vwCl [(h, .inr (4, [.ref a1, .ref a2, .ref a3, .ref a4, .ref a5, .int 0, .int 0, .int 0, .int 0, .int (1 : Int32)])), (a1, .inl (cy 0, 4, .inl (fun _ => 0))), (a2, .inl (cy 0, 8, .inl (fun _ => 0))), (a3, .inl (cy 0, 8, .inl (fun _ => 0))), (a4, .inl (cy 0, 8, .inl (fun _ => 0))), (a5, .inl (cy 0, 8, .inl (fun _ => 0)))] H := hP
  have hD : va_D A [(h, .inr (4, [.ref a1, .ref a2, .ref a3, .ref a4, .ref a5, .int 0, .int 0, .int 0, .int 0, .int (1 : Int32)])), (a1, .inl (cy 0, 4, .inl (fun _ => 0))), (a2, .inl (cy 0, 8, .inl (fun _ => 0))), (a3, .inl (cy 0, 8, .inl (fun _ => 0))), (a4, .inl (cy 0, 8, .inl (fun _ => 0))), (a5, .inl (cy 0, 8, .inl (fun _ => 0)))] := hD
  refine lvw (o := none) (As := []) (rest := []) (stk := []) ⟨hx, hb, hml, hown, hts⟩ (mX4_clear l D cy st sk sv B h a1 a2 a3 a4 a5 _ n (fun _ => 0) (fun _ => 0) (fun _ => 0) (fun _ => 0) (fun _ => 0) 0 0 0 0 1 z hf) (cwV 0 hts gX4_init_X4_clear rfl rfl rfl (by decide +kernel) ⟨Nat.le_of_ble_eq_true rfl, Nat.le_of_ble_eq_true rfl⟩) ⟨Nat.le_of_ble_eq_true rfl, Nat.le_of_ble_eq_true rfl⟩ hG hS hAB hA hP hD [0, 1, 2, 3, 4, 5] (by decide) rfl rfl rfl rfl 0 4 rfl rfl rfl rfl hl.1 rfl (Nat.le_of_ble_eq_true rfl) dX4_init_49 rfl (fun H locs hP hD hS => ?_)
  have hP : va_P D vwCl [(h, .inr (4, [.ref a1, .ref a2, .ref a3, .ref a4, .ref a5, .int z.2.2.2.2.2.1, .int z.2.2.2.2.2.2.1, .int z.2.2.2.2.2.2.2.1, .int z.2.2.2.2.2.2.2.2.1, .int z.2.2.2.2.2.2.2.2.2])), (a1, .inl (cy 0, 4, .inl z.1)), (a2, .inl (cy 0, 8, .inl z.2.1)), (a3, .inl (cy 0, 8, .inl z.2.2.1)), (a4, .inl (cy 0, 8, .inl z.2.2.2.1)), (a5, .inl (cy 0, 8, .inl z.2.2.2.2.1))] H := hP
  have hD : va_D A [(h, .inr (4, [.ref a1, .ref a2, .ref a3, .ref a4, .ref a5, .int z.2.2.2.2.2.1, .int z.2.2.2.2.2.2.1, .int z.2.2.2.2.2.2.2.1, .int z.2.2.2.2.2.2.2.2.1, .int z.2.2.2.2.2.2.2.2.2])), (a1, .inl (cy 0, 4, .inl z.1)), (a2, .inl (cy 0, 8, .inl z.2.1)), (a3, .inl (cy 0, 8, .inl z.2.2.1)), (a4, .inl (cy 0, 8, .inl z.2.2.2.1)), (a5, .inl (cy 0, 8, .inl z.2.2.2.2.1))] := hD
  exact W.vret hx hb hr (fun t ht hW => ⟨rfl, (fun i => [a1, a2, a3, a4, a5].getD i 0), by rw [ht]; exact hP, hD, hS.F ht⟩) hS.2.2 dX4_init_52
