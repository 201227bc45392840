/-! CONTRACTS: constructors of what is nested -/
set_option maxRecDepth 100000 in
set_option maxHeartbeats 4000000 in
theorem nX0_init (l : Launch) (D : va_G) (cy : Nat → ClassId) (st sk sv : Nat → Nat) (B h sz : Nat) : Met l yX0_init wsX0_init ({ frames := 1, cells := 1, slots := 30, locals := 12 }) (PcW [.ref h] D cy st sk sv B sz [(h, .inr (0, [.null, .int 0]))]) (Qn D (fun q => FW cy h q ((fun _ => 0), 0)) (va_A [(h, .inr (0, [.null, .int 0]))] sz)) 1 30 (va_A [(h, .inr (0, [.null, .int 0]))] sz) := by
  refine Met.ofW (cc := cX0_init) (maxL := 1) (ret := none) (by decide) rfl ?_
  intro p e s m args below meth c s₁ Bd hml hv
  obtain ⟨rfl, hsz, hP, hD0, hBs, hG⟩ := hv
  have hx := Bd.exec
  have hb := Bd.bytes
  have hr := Bd.returns
  have hts := atoms_spec (ws := wsX0_init) Bd.pre
  have hown : s.vm.findClass RX0 = some m.cls := findClass_of_methodNamed Bd.named
  have hlocks := Bd.notSynchronized
  have hmn : meth.name = "<init>" := (name_of_methodNamed Bd.named Bd.method).1
  have hK := hG.1
  subst hsz
  have hD := hD0.self (sz := s.heap.size)
  have hAB0 := zA hD0 hBs
  generalize hAe : va_A [(h, .inr (0, [.null, .int 0]))] s.heap.size = A at hD hAB0 ⊢
  have hA : ∀ q : Nat, s.heap.size ≤ q → A q := fun q h => by rw [← hAe]; exact Or.inr h
  have hAB : ∀ q, A q → B ≤ q := hAB0
  have hS : va_S A s.heap s.heap [] := va_S.rf
  have hP : va_P D vwCl ([(h, .inr (0, [.null, .int 0]))]) s.heap := hP
  have hD : va_D A ([(h, .inr (0, [.null, .int 0]))]) := hD
  have hin0 : ∀ w ∈ u_ws RX0 TX0 2, w ∈ wsX0_init := by decide +kernel
  have hl := lv_entry ([.ref h]) (n := 1) (Nat.le_of_ble_eq_true rfl)
  rw [lg_entry_eq]
  generalize (lg_sl ([.ref h]) ++ List.replicate (1 - (lg_sl ([.ref h])).length) Slot.unset).toArray = ls at hl ⊢
  have hl : lv_has ls 1 [(0, .ref h)] := hl
  refine lv_aload_n hx hb dX0_init_0 rfl (lv_at hl 0 rfl) ?_
  refine W.objInit hx hb hown (hts (.methodLink RX0 3 objectInit) (by decide +kernel)) (hts (.instanceMethod objectInit) (by decide +kernel)) (hts (.code objectInit ⟨#[0xb1]⟩ 1 none) (List.mem_of_getElem? (i := 3) rfl)) rfl (by rw [hml]; exact hl.1) rfl dX0_init_1 (Nat.le_of_ble_eq_true rfl) (Nat.le_of_ble_eq_true rfl) ?_
  refine W.eq (g2 := F0 m 4 ls []) rfl ?_
  refine lv_aload_n hx hb dX0_init_4 rfl (lv_at hl 0 rfl) ?_
  refine lv_bipush (v := (30 : Int32)) hx hb dX0_init_5 (by decide) ?_
  refine znewa (ty := .int) (ca := cy 0) (a0 := (30, .inl (fun _ => 0))) (N' := 30) hx hb (hts (.arrayClass .int) (by decide +kernel)) rfl hK 0 rfl (fun _ h => h) hP hD hS hA (fun _ => rfl) (by decide) (by decide +kernel) (by decide +kernel) (Nat.le_of_ble_eq_true rfl) (Nat.le_of_ble_eq_true rfl) dX0_init_7 (fun a1 H hP hD hS => ?_)
  have hP : va_P D vwCl (([(h, .inr (0, [.null, .int 0]))] ++ [(a1, .inl (cy 0, 30, .inl (fun _ => 0)))])) H := hP
  have hD : va_D A (([(h, .inr (0, [.null, .int 0]))] ++ [(a1, .inl (cy 0, 30, .inl (fun _ => 0)))])) := hD
  refine W.widen (k := 1) (n := 30) (Nat.le_of_ble_eq_true rfl) (Nat.le_of_ble_eq_true rfl) ?_
  refine va_putF (D := D) (ci := 0) (v := .ref a1) (ty := .array .int) (C := RX0) (T := TX0) (N := 2) hx hb hts hin0 tyX0 tyX0_ok nmX0 hown hK hP hD hS 0 rfl rfl 0 (by decide) (hts (.fieldLink RX0 9 "KinCutlery$Rows" "cells" "[I") (by decide +kernel)) (fun _ h9 => h9) rfl hmn rfl (by decide +kernel) rfl rfl (Nat.le_of_ble_eq_true rfl) dX0_init_9 (fun H locs hP hD hS => ?_)
  have hP : va_P D vwCl (([(h, .inr (0, [.ref a1, .int 0]))] ++ [(a1, .inl (cy 0, 30, .inl (fun _ => 0)))])) H := hP
  have hD : va_D A (([(h, .inr (0, [.ref a1, .int 0]))] ++ [(a1, .inl (cy 0, 30, .inl (fun _ => 0)))])) := hD
  exact W.vret hx hb hr (fun t ht hW => ⟨rfl, (fun i => [a1].getD i 0), by rw [ht]; exact hP, hD, hS.F ht⟩) hS.2.2 dX0_init_12
