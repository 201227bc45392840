set_option maxRecDepth 100000 in
set_option maxHeartbeats 100000000 in
theorem mX6_within (l : Launch) (D : va_G) (cy : Nat → ClassId) (st sk sv : Nat → Nat) (B : Nat)  (n : Nat)  (x0 : Int32) (x1 : Int32) (x2 : Int32) (z : Int32) (hf : fX6_within n x0 x1 x2 = some z) : Met l yX6_within wsX6_within ({ frames := 0, cells := 0, slots := 0, locals := 0 }) (PcR [.int x0, .int x1, .int x2] D cy st sk sv B []) (Qr (some (.int z))) 0 0 (fun _ => False) := by
  refine Met.ofW (cc := cX6_within) (maxL := 3) (ret := (some .boolean)) (by decide) rfl ?_
  intro p e s m args below meth c s₁ Bd hml hv
  obtain ⟨rfl, hP, hG⟩ := hv
  have hx := Bd.exec
  have hb := Bd.bytes
  have hr := Bd.returns
  have hts := atoms_spec (ws := wsX6_within) Bd.pre
  have hown : s.vm.findClass RX6 = some m.cls := findClass_of_methodNamed Bd.named
  have hlocks := Bd.notSynchronized
  have hK := hG.1
  have hS : va_S (fun q => B ≤ q) s.heap s.heap [] := va_S.rf
  have hAB : ∀ q, (fun q => B ≤ q) q → B ≤ q := fun _ h => h
  have hl := lv_entry ([.int x0, .int x1, .int x2]) (n := 3) (Nat.le_of_ble_eq_true rfl)
  rw [lg_entry_eq]
  generalize (lg_sl ([.int x0, .int x1, .int x2]) ++ List.replicate (3 - (lg_sl ([.int x0, .int x1, .int x2])).length) Slot.unset).toArray = ls at hl ⊢
  have hl : lv_has ls 3 [(0, .int x0), (1, .int x1), (2, .int x2)] := hl
  have hf : (if x0 < x1 then (some (0 : Int32)) else (if x2 < x0 then (some (0 : Int32)) else (some (1 : Int32)))) = some z := hf
  refine lv_iload_n hx hb dX6_within_0 rfl (lv_at hl 0 rfl) ?_
  refine lv_iload_n hx hb dX6_within_1 rfl (lv_at hl 1 rfl) ?_
  refine lv_icmp_lt (tgt := 14) hx hb dX6_within_2 (by decide) (fun c_2 => ?_) (fun c_2 => ?_)
  · have hf := zp hf c_2
    refine lv_iconst (v := (0 : Int32)) hx hb dX6_within_14 (by decide) ?_
    cases hf
    exact W.zret hx hb hr rfl (fun t ht hW => ⟨rfl, ht⟩) (fun q h => absurd h List.not_mem_nil) dX6_within_15
  · have hf := zn hf c_2
    refine lv_iload_n hx hb dX6_within_5 rfl (lv_at hl 0 rfl) ?_
    refine lv_iload_n hx hb dX6_within_6 rfl (lv_at hl 2 rfl) ?_
    refine lv_icmp_gt (tgt := 14) hx hb dX6_within_7 (by decide) (fun c_7 => ?_) (fun c_7 => ?_)
    · have hf := zp hf c_7
      refine lv_iconst (v := (0 : Int32)) hx hb dX6_within_14 (by decide) ?_
      cases hf
      exact W.zret hx hb hr rfl (fun t ht hW => ⟨rfl, ht⟩) (fun q h => absurd h List.not_mem_nil) dX6_within_15
    · have hf := zn hf c_7
      refine lv_iconst (v := (1 : Int32)) hx hb dX6_within_10 (by decide) ?_
      refine lv_goto (tgt := 15) hx hb dX6_within_11 (by decide) ?_
      cases hf
      exact W.zret hx hb hr rfl (fun t ht hW => ⟨rfl, ht⟩) (fun q h => absurd h List.not_mem_nil) dX6_within_15
set_option maxRecDepth 100000 in
set_option maxHeartbeats 100000000 in
theorem mX0_has (l : Launch) (D : va_G) (cy : Nat → ClassId) (st sk sv : Nat → Nat) (B : Nat) (aw0 : Nat) (aw1 : Nat) (n : Nat) (W_cells : (Nat → Int32)) (W_count : Int32) (x1 : Int32) (x2 : Int32) (z : Int32) (hf : fX0_has n (W_cells, W_count) x1 x2 = some z) : Met l yX0_has wsX0_has ({ frames := 1, cells := 0, slots := 0, locals := 22 }) (PcR [.ref aw0, .int x1, .int x2] D cy st sk sv B [(aw0, .inr (0, [.ref aw1, .int W_count])), (aw1, .inl (cy 0, 30, .inl W_cells))]) (Qr (some (.int z))) 0 0 (fun _ => False) := by
  refine Met.ofW (cc := cX0_has) (maxL := 3) (ret := (some .boolean)) (by decide) rfl ?_
  intro p e s m args below meth c s₁ Bd hml hv
  obtain ⟨rfl, hP, hG⟩ := hv
  have hx := Bd.exec
  have hb := Bd.bytes
  have hr := Bd.returns
  have hts := atoms_spec (ws := wsX0_has) Bd.pre
  have hown : s.vm.findClass RX0 = some m.cls := findClass_of_methodNamed Bd.named
  have hlocks := Bd.notSynchronized
  have hK := hG.1
  have hS : va_S (fun q => B ≤ q) s.heap s.heap [] := va_S.rf
  have hAB : ∀ q, (fun q => B ≤ q) q → B ≤ q := fun _ h => h
  have hin0 : ∀ w ∈ u_ws RX0 TX0 2, w ∈ wsX0_has := by decide +kernel
  have fl15 := hts (.fieldLink RX0 15 "KinCutlery$Rows" "count" "I") (by decide +kernel)
  have hl := lv_entry ([.ref aw0, .int x1, .int x2]) (n := 3) (Nat.le_of_ble_eq_true rfl)
  rw [lg_entry_eq]
  generalize (lg_sl ([.ref aw0, .int x1, .int x2]) ++ List.replicate (3 - (lg_sl ([.ref aw0, .int x1, .int x2])).length) Slot.unset).toArray = ls at hl ⊢
  have hl : lv_has ls 3 [(0, .ref aw0), (1, .int x1), (2, .int x2)] := hl
  have hf : ((fX6_within n x1 (0 : Int32) (W_count - (1 : Int32))).bind fun r8 => if r8 = 0 then (some (0 : Int32)) else ((fX6_within n x2 (0 : Int32) (2 : Int32)).bind fun r17 => if r17 = 0 then (some (0 : Int32)) else (some (1 : Int32)))) = some z := hf
  refine lv_iload_n hx hb dX0_has_0 rfl (lv_at hl 1 rfl) ?_
  refine lv_iconst (v := (0 : Int32)) hx hb dX0_has_1 (by decide) ?_
  refine lv_aload_n hx hb dX0_has_2 rfl (lv_at hl 0 rfl) ?_
  refine va_get (D := D) (ci := 0) (v := .int W_count) (C := RX0) (T := TX0) (N := 2) hx hb hts hin0 hown hK hP 0 rfl rfl 1 (by decide) fl15 (fun _ h9 => h9) rfl dX0_has_3 ?_
  refine lv_iconst (v := (1 : Int32)) hx hb dX0_has_6 (by decide) ?_
  refine lv_isub hx hb dX0_has_7 ?_
  obtain ⟨r8, hc8, hf⟩ := zb hf
  refine zsrN (o := some (.int r8)) (As := [.int x1, .int (0 : Int32), .int (W_count - (1 : Int32))]) (rest := []) (stk := [.int r8]) ⟨hx, hb, hml, hown, hts⟩ (mX6_within l D cy st sk sv B  n x1 (0 : Int32) (W_count - (1 : Int32)) r8 hc8) ⟨va_cnB 3 hts gX0_has_X6_within_n19 rfl rfl rfl hG.2.1.1 (hts (.initialized RX6) (by decide +kernel)) (by decide +kernel) ⟨Nat.le_of_ble_eq_true rfl, Nat.le_of_ble_eq_true rfl⟩, hts (.static yX6_within) (by decide +kernel), trivial⟩ hG hS hAB hP [] rfl rfl hl.1 rfl (Nat.le_of_ble_eq_true rfl) dX0_has_8 rfl ?_
  refine lv_if_eq (tgt := 27) hx hb dX0_has_11 (by decide) (fun c_11 => ?_) (fun c_11 => ?_)
  · have hf := zp hf c_11
    refine lv_iconst (v := (0 : Int32)) hx hb dX0_has_27 (by decide) ?_
    cases hf
    exact W.zret hx hb hr rfl (fun t ht hW => ⟨rfl, ht⟩) (fun q h => absurd h List.not_mem_nil) dX0_has_28
  · have hf := zn hf c_11
    refine lv_iload_n hx hb dX0_has_14 rfl (lv_at hl 2 rfl) ?_
    refine lv_iconst (v := (0 : Int32)) hx hb dX0_has_15 (by decide) ?_
    refine lv_iconst (v := (2 : Int32)) hx hb dX0_has_16 (by decide) ?_
    obtain ⟨r17, hc17, hf⟩ := zb hf
    refine zsrN (o := some (.int r17)) (As := [.int x2, .int (0 : Int32), .int (2 : Int32)]) (rest := []) (stk := [.int r17]) ⟨hx, hb, hml, hown, hts⟩ (mX6_within l D cy st sk sv B  n x2 (0 : Int32) (2 : Int32) r17 hc17) ⟨va_cnB 3 hts gX0_has_X6_within_n19 rfl rfl rfl hG.2.1.1 (hts (.initialized RX6) (by decide +kernel)) (by decide +kernel) ⟨Nat.le_of_ble_eq_true rfl, Nat.le_of_ble_eq_true rfl⟩, hts (.static yX6_within) (by decide +kernel), trivial⟩ hG hS hAB hP [] rfl rfl hl.1 rfl (Nat.le_of_ble_eq_true rfl) dX0_has_17 rfl ?_
    refine lv_if_eq (tgt := 27) hx hb dX0_has_20 (by decide) (fun c_20 => ?_) (fun c_20 => ?_)
    · have hf := zp hf c_20
      refine lv_iconst (v := (0 : Int32)) hx hb dX0_has_27 (by decide) ?_
      cases hf
      exact W.zret hx hb hr rfl (fun t ht hW => ⟨rfl, ht⟩) (fun q h => absurd h List.not_mem_nil) dX0_has_28
    · have hf := zn hf c_20
      refine lv_iconst (v := (1 : Int32)) hx hb dX0_has_23 (by decide) ?_
      refine lv_goto (tgt := 28) hx hb dX0_has_24 (by decide) ?_
      cases hf
      exact W.zret hx hb hr rfl (fun t ht hW => ⟨rfl, ht⟩) (fun q h => absurd h List.not_mem_nil) dX0_has_28
set_option maxRecDepth 100000 in
set_option maxHeartbeats 100000000 in
theorem mJ7_fill_d0a16 (l : Launch) (D : va_G) (cy : Nat → ClassId) (st sk sv : Nat → Nat) (B : Nat) (aj : Nat) (sz : Nat) (n : Nat) (uj : (Nat → Int64)) (x1 : Int64) (z : (Nat → Int64)) (hf : fJ7_fill_d0a16 n uj x1 = some z) : Met l yJ7_fill_d0a16 wsJ7_fill_d0a16 ({ frames := 0, cells := 0, slots := 0, locals := 0 }) (PcW [.ref aj, .long x1] D cy st sk sv B sz [(aj, .inl (cy 2, 40, .inr (.inl uj)))]) (Qw (none) D [(aj, .inl (cy 2, 40, .inr (.inl z)))] (va_A [(aj, .inl (cy 2, 40, .inr (.inl uj)))] sz)) 0 0 (va_A [(aj, .inl (cy 2, 40, .inr (.inl uj)))] sz) := by
  refine Met.ofW (cc := cJ7_fill_d0a16) (maxL := 5) (ret := none) (by decide) rfl ?_
  intro p e s m args below meth c s₁ Bd hml hv
  obtain ⟨rfl, hsz, hP, hD0, hBs, hG⟩ := hv
  have hx := Bd.exec
  have hb := Bd.bytes
  have hr := Bd.returns
  have hts := atoms_spec (ws := wsJ7_fill_d0a16) Bd.pre
  have hown : s.vm.findClass RJ7 = some m.cls := findClass_of_methodNamed Bd.named
  have hlocks := Bd.notSynchronized
  have hK := hG.1
  subst hsz
  have hD := hD0.self (sz := s.heap.size)
  have hAB0 := zA hD0 hBs
  generalize hAe : va_A [(aj, .inl (cy 2, 40, .inr (.inl uj)))] s.heap.size = A at hD hAB0 ⊢
  have hA : ∀ q : Nat, s.heap.size ≤ q → A q := fun q h => by rw [← hAe]; exact Or.inr h
  have hAB : ∀ q, A q → B ≤ q := hAB0
  have hS : va_S A s.heap s.heap [] := va_S.rf
  have hfin : ∀ (uj : (Nat → Int64)), some uj = some z → ∀ (H : Heap) (t : State), t.heap = H → va_P D vwCl [(aj, .inl (cy 2, 40, .inr (.inl uj)))] H → va_F A s t → Qw (none) D [(aj, .inl (cy 2, 40, .inr (.inl z)))] A ([.ref aj, .long x1] : List Value).toArray s (.returned (none)) t := by
    intro uj h9 H t ht hP hF
    cases h9
    exact ⟨rfl, by rw [ht]; exact hP, hF⟩
  have hL6 : ∀ (n0 : Nat) (uj : (Nat → Int64)) (y3 : Int32) (y4 : Int32), lpF (fJ7_fill_d0a16_F6 n x1 ) n0 (uj, y3, y4) = some z → ∀ (H : Heap) (locs : List Loc), va_P D vwCl [(aj, .inl (cy 2, 40, .inr (.inl uj)))] H → va_D A [(aj, .inl (cy 2, 40, .inr (.inl uj)))] → va_S A s.heap H locs → ∀ (ls : Array Slot), lv_has ls 5 [(0, .ref aj), (1, .long x1), (3, .int y3), (4, .int y4)] → W p l e (headSpec wsJ7_fill_d0a16 ({ frames := 0, cells := 0, slots := 0, locals := 0 })).room s m ([.ref aj, .long x1] : List Value).toArray below meth c H locs 0 0 (MQ below (Qw (none) D [(aj, .inl (cy 2, 40, .inr (.inl z)))] A) ([.ref aj, .long x1] : List Value).toArray s 0 0 A) (F0 m 6 ls []) := by
    have key : ∀ (n0 : Nat) (v6 : (Nat → Int64) × Int32 × Int32), lpF (fJ7_fill_d0a16_F6 n x1 ) n0 v6 = some z → ∀ (H : Heap) (locs : List Loc), va_P D vwCl [(aj, .inl (cy 2, 40, .inr (.inl v6.1)))] H → va_D A [(aj, .inl (cy 2, 40, .inr (.inl v6.1)))] → va_S A s.heap H locs → ∀ (ls : Array Slot), lv_has ls 5 [(0, .ref aj), (1, .long x1), (3, .int v6.2.1), (4, .int v6.2.2)] → W p l e (headSpec wsJ7_fill_d0a16 ({ frames := 0, cells := 0, slots := 0, locals := 0 })).room s m ([.ref aj, .long x1] : List Value).toArray below meth c H locs 0 0 (MQ below (Qw (none) D [(aj, .inl (cy 2, 40, .inr (.inl z)))] A) ([.ref aj, .long x1] : List Value).toArray s 0 0 A) (F0 m 6 ls []) := by
      refine lpW ?_
      intro k6 hk60
      have hk6 : ∀ (uj : (Nat → Int64)) (y3 : Int32) (y4 : Int32), k6 (uj, y3, y4) = some z → ∀ (H : Heap) (locs : List Loc), va_P D vwCl [(aj, .inl (cy 2, 40, .inr (.inl uj)))] H → va_D A [(aj, .inl (cy 2, 40, .inr (.inl uj)))] → va_S A s.heap H locs → ∀ (ls : Array Slot), lv_has ls 5 [(0, .ref aj), (1, .long x1), (3, .int y3), (4, .int y4)] → W p l e (headSpec wsJ7_fill_d0a16 ({ frames := 0, cells := 0, slots := 0, locals := 0 })).room s m ([.ref aj, .long x1] : List Value).toArray below meth c H locs 0 0 (MQ below (Qw (none) D [(aj, .inl (cy 2, 40, .inr (.inl z)))] A) ([.ref aj, .long x1] : List Value).toArray s 0 0 A) (F0 m 6 ls []) := fun uj y3 y4 h9 => hk60 (uj, y3, y4) h9
      have hstep : ∀ (uj : (Nat → Int64)) (y3 : Int32) (y4 : Int32), fJ7_fill_d0a16_F6 n x1  k6 (uj, y3, y4) = some z → ∀ (H : Heap) (locs : List Loc), va_P D vwCl [(aj, .inl (cy 2, 40, .inr (.inl uj)))] H → va_D A [(aj, .inl (cy 2, 40, .inr (.inl uj)))] → va_S A s.heap H locs → ∀ (ls : Array Slot), lv_has ls 5 [(0, .ref aj), (1, .long x1), (3, .int y3), (4, .int y4)] → W p l e (headSpec wsJ7_fill_d0a16 ({ frames := 0, cells := 0, slots := 0, locals := 0 })).room s m ([.ref aj, .long x1] : List Value).toArray below meth c H locs 0 0 (MQ below (Qw (none) D [(aj, .inl (cy 2, 40, .inr (.inl z)))] A) ([.ref aj, .long x1] : List Value).toArray s 0 0 A) (F0 m 6 ls []) := by
        intro uj y3 y4 hf H locs hP hD hS ls hl
        have hf : (if y4 ≤ y3 then (some uj) else (if y3 < 0 ∨ 40 ≤ y3.toNatClampNeg then none else k6 ((vp_updL uj y3.toNatClampNeg x1), (y3 + (1 : Int32)), y4))) = some z := hf
        refine lv_iload_n hx hb dJ7_fill_d0a16_6 rfl (lv_at hl 2 rfl) ?_
        refine lv_iload hx hb dJ7_fill_d0a16_7 (lv_at hl 3 rfl) ?_
        refine lv_icmp_ge (tgt := 22) hx hb dJ7_fill_d0a16_9 (by decide) (fun c_9 => ?_) (fun c_9 => ?_)
        · have hf := zp hf c_9
          exact W.vret hx hb hr (fun t ht hW => hfin uj hf _ t ht hP (hS.F ht)) hS.2.2 dJ7_fill_d0a16_22
        · have hf := zn hf c_9
          refine lv_aload_n hx hb dJ7_fill_d0a16_12 rfl (lv_at hl 0 rfl) ?_
          refine lv_iload_n hx hb dJ7_fill_d0a16_13 rfl (lv_at hl 2 rfl) ?_
          refine lv_lload_n hx hb dJ7_fill_d0a16_14 rfl (lv_at hl 1 rfl) ?_
          obtain ⟨h_15, hf⟩ := zg hf
          refine va_last hx hb hK hP hD hS 0 2 rfl rfl h_15 dJ7_fill_d0a16_15 (fun H locs hP hD hS => ?_)
          have hP : va_P D vwCl [(aj, .inl (cy 2, 40, .inr (.inl (vp_updL uj y3.toNatClampNeg x1))))] H := hP
          have hD : va_D A [(aj, .inl (cy 2, 40, .inr (.inl (vp_updL uj y3.toNatClampNeg x1))))] := hD
          refine lv_iinc (v := (y3 + (1 : Int32))) (lv' := [(3, .int (y3 + (1 : Int32))), (0, .ref aj), (1, .long x1), (4, .int y4)]) hx hb dJ7_fill_d0a16_16 hl (k := 2) rfl rfl (by decide) rfl (fun ls hl => ?_)
          refine lv_goto (tgt := 6) hx hb dJ7_fill_d0a16_19 (by decide) ?_
          exact hk6 (vp_updL uj y3.toNatClampNeg x1) (y3 + (1 : Int32)) y4 hf _ _ hP hD hS _ (lv_sub hl [1, 2, 0, 3] rfl)
      exact fun v6 h9 => hstep v6.1 v6.2.1 v6.2.2 h9
    exact fun n0 uj y3 y4 h9 => key n0 (uj, y3, y4) h9
  have hl := lv_entry ([.ref aj, .long x1]) (n := 5) (Nat.le_of_ble_eq_true rfl)
  rw [lg_entry_eq]
  generalize (lg_sl ([.ref aj, .long x1]) ++ List.replicate (5 - (lg_sl ([.ref aj, .long x1])).length) Slot.unset).toArray = ls at hl ⊢
  have hl : lv_has ls 5 [(0, .ref aj), (1, .long x1)] := hl
  have hf : (lpF (fJ7_fill_d0a16_F6 n x1 ) n (uj, (0 : Int32), (40 : Int32))) = some z := hf
  refine lv_iconst (v := (0 : Int32)) hx hb dJ7_fill_d0a16_0 (by decide) ?_
  refine lv_istore_n (lv' := [(3, .int (0 : Int32)), (0, .ref aj), (1, .long x1)]) hx hb dJ7_fill_d0a16_1 rfl hl (by decide) rfl (fun ls hl => ?_)
  refine lv_aload_n hx hb dJ7_fill_d0a16_2 rfl (lv_at hl 1 rfl) ?_
  refine va_alen (v := (40 : Int32)) hx hb hK hP 0 2 rfl rfl rfl dJ7_fill_d0a16_3 ?_
  refine lv_istore (lv' := [(4, .int (40 : Int32)), (3, .int (0 : Int32)), (0, .ref aj), (1, .long x1)]) hx hb dJ7_fill_d0a16_4 hl (by decide) rfl (fun ls hl => ?_)
  exact hL6 n uj (0 : Int32) (40 : Int32) hf _ _ hP hD hS _ (lv_sub hl [2, 3, 1, 0] rfl)
set_option maxRecDepth 100000 in
set_option maxHeartbeats 100000000 in
theorem mX1_become (l : Launch) (D : va_G) (cy : Nat → ClassId) (st sk sv : Nat → Nat) (B : Nat) (ah0 : Nat) (ah1 : Nat) (sz : Nat) (n : Nat) (H_items : (Nat → Int64)) (H_sort : Int32) (H_length : Int32) (x1 : Int32) (x2 : Int32) (z : SHT) (hf : fX1_become n (H_items, H_sort, H_length) x1 x2 = some z) : Met l yX1_become wsX1_become ({ frames := 1, cells := 0, slots := 0, locals := 24 }) (PcW [.ref ah0, .int x1, .int x2] D cy st sk sv B sz [(ah0, .inr (1, [.ref ah1, .int H_sort, .int H_length])), (ah1, .inl (cy 2, 40, .inr (.inl H_items)))]) (Qw (none) D [(ah0, .inr (1, [.ref ah1, .int z.2.1, .int z.2.2])), (ah1, .inl (cy 2, 40, .inr (.inl z.1)))] (va_A [(ah0, .inr (1, [.ref ah1, .int H_sort, .int H_length])), (ah1, .inl (cy 2, 40, .inr (.inl H_items)))] sz)) 0 0 (va_A [(ah0, .inr (1, [.ref ah1, .int H_sort, .int H_length])), (ah1, .inl (cy 2, 40, .inr (.inl H_items)))] sz) := by
  refine Met.ofW (cc := cX1_become) (maxL := 3) (ret := none) (by decide) rfl ?_
  intro p e s m args below meth c s₁ Bd hml hv
  obtain ⟨rfl, hsz, hP, hD0, hBs, hG⟩ := hv
  have hx := Bd.exec
  have hb := Bd.bytes
  have hr := Bd.returns
  have hts := atoms_spec (ws := wsX1_become) Bd.pre
  have hown : s.vm.findClass RX1 = some m.cls := findClass_of_methodNamed Bd.named
  have hlocks := Bd.notSynchronized
  have hK := hG.1
  subst hsz
  have hD := hD0.self (sz := s.heap.size)
  have hAB0 := zA hD0 hBs
  generalize hAe : va_A [(ah0, .inr (1, [.ref ah1, .int H_sort, .int H_length])), (ah1, .inl (cy 2, 40, .inr (.inl H_items)))] s.heap.size = A at hD hAB0 ⊢
  have hA : ∀ q : Nat, s.heap.size ≤ q → A q := fun q h => by rw [← hAe]; exact Or.inr h
  have hAB : ∀ q, A q → B ≤ q := hAB0
  have hS : va_S A s.heap s.heap [] := va_S.rf
  have hfin : ∀ (H_items : (Nat → Int64)) (H_sort : Int32) (H_length : Int32), some (H_items, H_sort, H_length) = some z → ∀ (H : Heap) (t : State), t.heap = H → va_P D vwCl [(ah0, .inr (1, [.ref ah1, .int H_sort, .int H_length])), (ah1, .inl (cy 2, 40, .inr (.inl H_items)))] H → va_F A s t → Qw (none) D [(ah0, .inr (1, [.ref ah1, .int z.2.1, .int z.2.2])), (ah1, .inl (cy 2, 40, .inr (.inl z.1)))] A ([.ref ah0, .int x1, .int x2] : List Value).toArray s (.returned (none)) t := by
    intro H_items H_sort H_length h9 H t ht hP hF
    cases h9
    exact ⟨rfl, by rw [ht]; exact hP, hF⟩
  have hin1 : ∀ w ∈ u_ws RX1 TX1 3, w ∈ wsX1_become := by decide +kernel
  have fl9 := hts (.fieldLink RX1 9 "KinCutlery$Sheet" "items" "[J") (by decide +kernel)
  have fl15 := hts (.fieldLink RX1 15 "KinCutlery$Sheet" "sort" "I") (by decide +kernel)
  have fl19 := hts (.fieldLink RX1 19 "KinCutlery$Sheet" "length" "I") (by decide +kernel)
  have hl := lv_entry ([.ref ah0, .int x1, .int x2]) (n := 3) (Nat.le_of_ble_eq_true rfl)
  rw [lg_entry_eq]
  generalize (lg_sl ([.ref ah0, .int x1, .int x2]) ++ List.replicate (3 - (lg_sl ([.ref ah0, .int x1, .int x2])).length) Slot.unset).toArray = ls at hl ⊢
  have hl : lv_has ls 3 [(0, .ref ah0), (1, .int x1), (2, .int x2)] := hl
  have hf : ((fJ7_fill_d0a16 n H_items (0 : Int64)).bind fun r15 => some (r15, x1, x2)) = some z := hf
  refine lv_aload_n hx hb dX1_become_0 rfl (lv_at hl 0 rfl) ?_
  refine lv_iload_n hx hb dX1_become_1 rfl (lv_at hl 1 rfl) ?_
  refine va_put (D := D) (ci := 1) (v := .int x1) (ty := .int) (C := RX1) (T := TX1) (N := 3) hx hb hts hin1 tyX1 tyX1_ok nmX1 hown hK hP hD hS 0 rfl rfl 1 (by decide) fl15 (fun _ h9 => h9) rfl (by decide +kernel) rfl rfl (Nat.le_of_ble_eq_true rfl) dX1_become_2 (fun H locs hP hD hS => ?_)
  have hP : va_P D vwCl [(ah0, .inr (1, [.ref ah1, .int x1, .int H_length])), (ah1, .inl (cy 2, 40, .inr (.inl H_items)))] H := hP
  have hD : va_D A [(ah0, .inr (1, [.ref ah1, .int x1, .int H_length])), (ah1, .inl (cy 2, 40, .inr (.inl H_items)))] := hD
  refine lv_aload_n hx hb dX1_become_5 rfl (lv_at hl 0 rfl) ?_
  refine lv_iload_n hx hb dX1_become_6 rfl (lv_at hl 2 rfl) ?_
  refine va_put (D := D) (ci := 1) (v := .int x2) (ty := .int) (C := RX1) (T := TX1) (N := 3) hx hb hts hin1 tyX1 tyX1_ok nmX1 hown hK hP hD hS 0 rfl rfl 2 (by decide) fl19 (fun _ h9 => h9) rfl (by decide +kernel) rfl rfl (Nat.le_of_ble_eq_true rfl) dX1_become_7 (fun H locs hP hD hS => ?_)
  have hP : va_P D vwCl [(ah0, .inr (1, [.ref ah1, .int x1, .int x2])), (ah1, .inl (cy 2, 40, .inr (.inl H_items)))] H := hP
  have hD : va_D A [(ah0, .inr (1, [.ref ah1, .int x1, .int x2])), (ah1, .inl (cy 2, 40, .inr (.inl H_items)))] := hD
  refine lv_aload_n hx hb dX1_become_10 rfl (lv_at hl 0 rfl) ?_
  refine va_get (D := D) (ci := 1) (v := .ref ah1) (C := RX1) (T := TX1) (N := 3) hx hb hts hin1 hown hK hP 0 rfl rfl 0 (by decide) fl9 (fun _ h9 => h9) rfl dX1_become_11 ?_
  refine lv_lconst (v := (0 : Int64)) hx hb dX1_become_14 (by decide) ?_
  obtain ⟨r15, hc15, hf⟩ := zb hf
  refine zsw (o := none) (As := [.ref ah1, .long (0 : Int64)]) (rest := []) (stk := []) ⟨hx, hb, hml, hown, hts⟩ (mJ7_fill_d0a16 l D cy st sk sv B ah1 _ n H_items (0 : Int64) r15 hc15) (va_cwS 2 hts gX1_become_J7_fill_d0a16 rfl rfl rfl (by decide +kernel) ⟨Nat.le_of_ble_eq_true rfl, Nat.le_of_ble_eq_true rfl⟩) hG hS hAB hA hP hD [1] (by decide) rfl rfl rfl rfl rfl hl.1 rfl (Nat.le_of_ble_eq_true rfl) dX1_become_15 rfl (fun H locs hP hD hS => ?_)
  have hP : va_P D vwCl [(ah0, .inr (1, [.ref ah1, .int x1, .int x2])), (ah1, .inl (cy 2, 40, .inr (.inl r15)))] H := hP
  have hD : va_D A [(ah0, .inr (1, [.ref ah1, .int x1, .int x2])), (ah1, .inl (cy 2, 40, .inr (.inl r15)))] := hD
  exact W.vret hx hb hr (fun t ht hW => hfin r15 x1 x2 hf _ t ht hP (hS.F ht)) hS.2.2 dX1_become_18
set_option maxRecDepth 100000 in
set_option maxHeartbeats 100000000 in
theorem mX2_holdGuest (l : Launch) (D : va_G) (cy : Nat → ClassId) (st sk sv : Nat → Nat) (B : Nat) (av0 : Nat) (sz : Nat) (n : Nat) (V_what : Int32) (V_number : Int32) (V_sort : Int32) (V_length : Int32) (x1 : Int32) (z : SFT) (hf : fX2_holdGuest n (V_what, V_number, V_sort, V_length) x1 = some z) : Met l yX2_holdGuest wsX2_holdGuest ({ frames := 0, cells := 0, slots := 0, locals := 0 }) (PcW [.ref av0, .int x1] D cy st sk sv B sz [(av0, .inr (2, [.int V_what, .int V_number, .int V_sort, .int V_length]))]) (Qw (none) D [(av0, .inr (2, [.int z.1, .int z.2.1, .int z.2.2.1, .int z.2.2.2]))] (va_A [(av0, .inr (2, [.int V_what, .int V_number, .int V_sort, .int V_length]))] sz)) 0 0 (va_A [(av0, .inr (2, [.int V_what, .int V_number, .int V_sort, .int V_length]))] sz) := by
  refine Met.ofW (cc := cX2_holdGuest) (maxL := 2) (ret := none) (by decide) rfl ?_
  intro p e s m args below meth c s₁ Bd hml hv
  obtain ⟨rfl, hsz, hP, hD0, hBs, hG⟩ := hv
  have hx := Bd.exec
  have hb := Bd.bytes
  have hr := Bd.returns
  have hts := atoms_spec (ws := wsX2_holdGuest) Bd.pre
  have hown : s.vm.findClass RX2 = some m.cls := findClass_of_methodNamed Bd.named
  have hlocks := Bd.notSynchronized
  have hK := hG.1
  subst hsz
  have hD := hD0.self (sz := s.heap.size)
  have hAB0 := zA hD0 hBs
  generalize hAe : va_A [(av0, .inr (2, [.int V_what, .int V_number, .int V_sort, .int V_length]))] s.heap.size = A at hD hAB0 ⊢
  have hA : ∀ q : Nat, s.heap.size ≤ q → A q := fun q h => by rw [← hAe]; exact Or.inr h
  have hAB : ∀ q, A q → B ≤ q := hAB0
  have hS : va_S A s.heap s.heap [] := va_S.rf
  have hfin : ∀ (V_what : Int32) (V_number : Int32) (V_sort : Int32) (V_length : Int32), some (V_what, V_number, V_sort, V_length) = some z → ∀ (H : Heap) (t : State), t.heap = H → va_P D vwCl [(av0, .inr (2, [.int V_what, .int V_number, .int V_sort, .int V_length]))] H → va_F A s t → Qw (none) D [(av0, .inr (2, [.int z.1, .int z.2.1, .int z.2.2.1, .int z.2.2.2]))] A ([.ref av0, .int x1] : List Value).toArray s (.returned (none)) t := by
    intro V_what V_number V_sort V_length h9 H t ht hP hF
    cases h9
    exact ⟨rfl, by rw [ht]; exact hP, hF⟩
  have hin2 : ∀ w ∈ u_ws RX2 TX2 4, w ∈ wsX2_holdGuest := by decide +kernel
  have fl9 := hts (.fieldLink RX2 9 "KinCutlery$Shelf" "what" "I") (by decide +kernel)
  have fl15 := hts (.fieldLink RX2 15 "KinCutlery$Shelf" "number" "I") (by decide +kernel)
  have hl := lv_entry ([.ref av0, .int x1]) (n := 2) (Nat.le_of_ble_eq_true rfl)
  rw [lg_entry_eq]
  generalize (lg_sl ([.ref av0, .int x1]) ++ List.replicate (2 - (lg_sl ([.ref av0, .int x1])).length) Slot.unset).toArray = ls at hl ⊢
  have hl : lv_has ls 2 [(0, .ref av0), (1, .int x1)] := hl
  have hf : (some ((0 : Int32), x1, V_sort, V_length)) = some z := hf
  refine lv_aload_n hx hb dX2_holdGuest_0 rfl (lv_at hl 0 rfl) ?_
  refine lv_iconst (v := (0 : Int32)) hx hb dX2_holdGuest_1 (by decide) ?_
  refine va_put (D := D) (ci := 2) (v := .int (0 : Int32)) (ty := .int) (C := RX2) (T := TX2) (N := 4) hx hb hts hin2 tyX2 tyX2_ok nmX2 hown hK hP hD hS 0 rfl rfl 0 (by decide) fl9 (fun _ h9 => h9) rfl (by decide +kernel) rfl rfl (Nat.le_of_ble_eq_true rfl) dX2_holdGuest_2 (fun H locs hP hD hS => ?_)
  have hP : va_P D vwCl [(av0, .inr (2, [.int (0 : Int32), .int V_number, .int V_sort, .int V_length]))] H := hP
  have hD : va_D A [(av0, .inr (2, [.int (0 : Int32), .int V_number, .int V_sort, .int V_length]))] := hD
  refine lv_aload_n hx hb dX2_holdGuest_5 rfl (lv_at hl 0 rfl) ?_
  refine lv_iload_n hx hb dX2_holdGuest_6 rfl (lv_at hl 1 rfl) ?_
  refine va_put (D := D) (ci := 2) (v := .int x1) (ty := .int) (C := RX2) (T := TX2) (N := 4) hx hb hts hin2 tyX2 tyX2_ok nmX2 hown hK hP hD hS 0 rfl rfl 1 (by decide) fl15 (fun _ h9 => h9) rfl (by decide +kernel) rfl rfl (Nat.le_of_ble_eq_true rfl) dX2_holdGuest_7 (fun H locs hP hD hS => ?_)
  have hP : va_P D vwCl [(av0, .inr (2, [.int (0 : Int32), .int x1, .int V_sort, .int V_length]))] H := hP
  have hD : va_D A [(av0, .inr (2, [.int (0 : Int32), .int x1, .int V_sort, .int V_length]))] := hD
  exact W.vret hx hb hr (fun t ht hW => hfin (0 : Int32) x1 V_sort V_length hf _ t ht hP (hS.F ht)) hS.2.2 dX2_holdGuest_10
set_option maxRecDepth 100000 in
set_option maxHeartbeats 100000000 in
theorem mX2_holdRow (l : Launch) (D : va_G) (cy : Nat → ClassId) (st sk sv : Nat → Nat) (B : Nat) (av0 : Nat) (ah0 : Nat) (ah1 : Nat) (sz : Nat) (n : Nat) (V_what : Int32) (V_number : Int32) (V_sort : Int32) (V_length : Int32) (H_items : (Nat → Int64)) (H_sort : Int32) (H_length : Int32)  (z : SFT) (hf : fX2_holdRow n (V_what, V_number, V_sort, V_length) (H_items, H_sort, H_length) = some z) : Met l yX2_holdRow wsX2_holdRow ({ frames := 0, cells := 0, slots := 0, locals := 0 }) (PcW [.ref av0, .ref ah0] D cy st sk sv B sz [(av0, .inr (2, [.int V_what, .int V_number, .int V_sort, .int V_length])), (ah0, .inr (1, [.ref ah1, .int H_sort, .int H_length])), (ah1, .inl (cy 2, 40, .inr (.inl H_items)))]) (Qw (none) D [(av0, .inr (2, [.int z.1, .int z.2.1, .int z.2.2.1, .int z.2.2.2])), (ah0, .inr (1, [.ref ah1, .int H_sort, .int H_length])), (ah1, .inl (cy 2, 40, .inr (.inl H_items)))] (va_A [(av0, .inr (2, [.int V_what, .int V_number, .int V_sort, .int V_length])), (ah0, .inr (1, [.ref ah1, .int H_sort, .int H_length])), (ah1, .inl (cy 2, 40, .inr (.inl H_items)))] sz)) 0 0 (va_A [(av0, .inr (2, [.int V_what, .int V_number, .int V_sort, .int V_length])), (ah0, .inr (1, [.ref ah1, .int H_sort, .int H_length])), (ah1, .inl (cy 2, 40, .inr (.inl H_items)))] sz) := by
  refine Met.ofW (cc := cX2_holdRow) (maxL := 2) (ret := none) (by decide) rfl ?_
  intro p e s m args below meth c s₁ Bd hml hv
  obtain ⟨rfl, hsz, hP, hD0, hBs, hG⟩ := hv
  have hx := Bd.exec
  have hb := Bd.bytes
  have hr := Bd.returns
  have hts := atoms_spec (ws := wsX2_holdRow) Bd.pre
  have hown : s.vm.findClass RX2 = some m.cls := findClass_of_methodNamed Bd.named
  have hlocks := Bd.notSynchronized
  have hK := hG.1
  subst hsz
  have hD := hD0.self (sz := s.heap.size)
  have hAB0 := zA hD0 hBs
  generalize hAe : va_A [(av0, .inr (2, [.int V_what, .int V_number, .int V_sort, .int V_length])), (ah0, .inr (1, [.ref ah1, .int H_sort, .int H_length])), (ah1, .inl (cy 2, 40, .inr (.inl H_items)))] s.heap.size = A at hD hAB0 ⊢
  have hA : ∀ q : Nat, s.heap.size ≤ q → A q := fun q h => by rw [← hAe]; exact Or.inr h
  have hAB : ∀ q, A q → B ≤ q := hAB0
  have hS : va_S A s.heap s.heap [] := va_S.rf
  have hfin : ∀ (V_what : Int32) (V_number : Int32) (V_sort : Int32) (V_length : Int32), some (V_what, V_number, V_sort, V_length) = some z → ∀ (H : Heap) (t : State), t.heap = H → va_P D vwCl [(av0, .inr (2, [.int V_what, .int V_number, .int V_sort, .int V_length])), (ah0, .inr (1, [.ref ah1, .int H_sort, .int H_length])), (ah1, .inl (cy 2, 40, .inr (.inl H_items)))] H → va_F A s t → Qw (none) D [(av0, .inr (2, [.int z.1, .int z.2.1, .int z.2.2.1, .int z.2.2.2])), (ah0, .inr (1, [.ref ah1, .int H_sort, .int H_length])), (ah1, .inl (cy 2, 40, .inr (.inl H_items)))] A ([.ref av0, .ref ah0] : List Value).toArray s (.returned (none)) t := by
    intro V_what V_number V_sort V_length h9 H t ht hP hF
    cases h9
    exact ⟨rfl, by rw [ht]; exact hP, hF⟩
  have hin1 : ∀ w ∈ u_ws RX1 TX1 3, w ∈ wsX2_holdRow := by decide +kernel
  have hin2 : ∀ w ∈ u_ws RX2 TX2 4, w ∈ wsX2_holdRow := by decide +kernel
  have fl9 := hts (.fieldLink RX2 9 "KinCutlery$Shelf" "what" "I") (by decide +kernel)
  have fl18 := hts (.fieldLink RX2 18 "KinCutlery$Sheet" "sort" "I") (by decide +kernel)
  have fl23 := hts (.fieldLink RX2 23 "KinCutlery$Shelf" "sort" "I") (by decide +kernel)
  have fl24 := hts (.fieldLink RX2 24 "KinCutlery$Sheet" "length" "I") (by decide +kernel)
  have fl27 := hts (.fieldLink RX2 27 "KinCutlery$Shelf" "length" "I") (by decide +kernel)
  have hB14 : ∀ (V_what : Int32) (V_number : Int32) (V_sort : Int32) (V_length : Int32) (w1 : Int32), fX2_holdRow_b14 n (H_items, H_sort, H_length)  (V_what, V_number, V_sort, V_length) w1 = some z → ∀ (H : Heap) (locs : List Loc), va_P D vwCl [(av0, .inr (2, [.int V_what, .int V_number, .int V_sort, .int V_length])), (ah0, .inr (1, [.ref ah1, .int H_sort, .int H_length])), (ah1, .inl (cy 2, 40, .inr (.inl H_items)))] H → va_D A [(av0, .inr (2, [.int V_what, .int V_number, .int V_sort, .int V_length])), (ah0, .inr (1, [.ref ah1, .int H_sort, .int H_length])), (ah1, .inl (cy 2, 40, .inr (.inl H_items)))] → va_S A s.heap H locs → ∀ (ls : Array Slot), lv_has ls 2 [(0, .ref av0), (1, .ref ah0)] → W p l e (headSpec wsX2_holdRow ({ frames := 0, cells := 0, slots := 0, locals := 0 })).room s m ([.ref av0, .ref ah0] : List Value).toArray below meth c H locs 0 0 (MQ below (Qw (none) D [(av0, .inr (2, [.int z.1, .int z.2.1, .int z.2.2.1, .int z.2.2.2])), (ah0, .inr (1, [.ref ah1, .int H_sort, .int H_length])), (ah1, .inl (cy 2, 40, .inr (.inl H_items)))] A) ([.ref av0, .ref ah0] : List Value).toArray s 0 0 A) (F0 m 14 ls [.int w1, .ref av0]) := by
    intro V_what V_number V_sort V_length w1 hf H locs hP hD hS ls hl
    have hf : (some (w1, V_number, H_sort, H_length)) = some z := hf
    refine va_put (D := D) (ci := 2) (v := .int w1) (ty := .int) (C := RX2) (T := TX2) (N := 4) hx hb hts hin2 tyX2 tyX2_ok nmX2 hown hK hP hD hS 0 rfl rfl 0 (by decide) fl9 (fun _ h9 => h9) rfl (by decide +kernel) rfl rfl (Nat.le_of_ble_eq_true rfl) dX2_holdRow_14 (fun H locs hP hD hS => ?_)
    have hP : va_P D vwCl [(av0, .inr (2, [.int w1, .int V_number, .int V_sort, .int V_length])), (ah0, .inr (1, [.ref ah1, .int H_sort, .int H_length])), (ah1, .inl (cy 2, 40, .inr (.inl H_items)))] H := hP
    have hD : va_D A [(av0, .inr (2, [.int w1, .int V_number, .int V_sort, .int V_length])), (ah0, .inr (1, [.ref ah1, .int H_sort, .int H_length])), (ah1, .inl (cy 2, 40, .inr (.inl H_items)))] := hD
    refine lv_aload_n hx hb dX2_holdRow_17 rfl (lv_at hl 0 rfl) ?_
    refine lv_aload_n hx hb dX2_holdRow_18 rfl (lv_at hl 1 rfl) ?_
    refine va_get (D := D) (ci := 1) (v := .int H_sort) (C := RX1) (T := TX1) (N := 3) hx hb hts hin1 hown hK hP 1 rfl rfl 1 (by decide) fl18 (fun _ h9 => h9) rfl dX2_holdRow_19 ?_
    refine va_put (D := D) (ci := 2) (v := .int H_sort) (ty := .int) (C := RX2) (T := TX2) (N := 4) hx hb hts hin2 tyX2 tyX2_ok nmX2 hown hK hP hD hS 0 rfl rfl 2 (by decide) fl23 (fun _ h9 => h9) rfl (by decide +kernel) rfl rfl (Nat.le_of_ble_eq_true rfl) dX2_holdRow_22 (fun H locs hP hD hS => ?_)
    have hP : va_P D vwCl [(av0, .inr (2, [.int w1, .int V_number, .int H_sort, .int V_length])), (ah0, .inr (1, [.ref ah1, .int H_sort, .int H_length])), (ah1, .inl (cy 2, 40, .inr (.inl H_items)))] H := hP
    have hD : va_D A [(av0, .inr (2, [.int w1, .int V_number, .int H_sort, .int V_length])), (ah0, .inr (1, [.ref ah1, .int H_sort, .int H_length])), (ah1, .inl (cy 2, 40, .inr (.inl H_items)))] := hD
    refine lv_aload_n hx hb dX2_holdRow_25 rfl (lv_at hl 0 rfl) ?_
    refine lv_aload_n hx hb dX2_holdRow_26 rfl (lv_at hl 1 rfl) ?_
    refine va_get (D := D) (ci := 1) (v := .int H_length) (C := RX1) (T := TX1) (N := 3) hx hb hts hin1 hown hK hP 1 rfl rfl 2 (by decide) fl24 (fun _ h9 => h9) rfl dX2_holdRow_27 ?_
    refine va_put (D := D) (ci := 2) (v := .int H_length) (ty := .int) (C := RX2) (T := TX2) (N := 4) hx hb hts hin2 tyX2 tyX2_ok nmX2 hown hK hP hD hS 0 rfl rfl 3 (by decide) fl27 (fun _ h9 => h9) rfl (by decide +kernel) rfl rfl (Nat.le_of_ble_eq_true rfl) dX2_holdRow_30 (fun H locs hP hD hS => ?_)
    have hP : va_P D vwCl [(av0, .inr (2, [.int w1, .int V_number, .int H_sort, .int H_length])), (ah0, .inr (1, [.ref ah1, .int H_sort, .int H_length])), (ah1, .inl (cy 2, 40, .inr (.inl H_items)))] H := hP
    have hD : va_D A [(av0, .inr (2, [.int w1, .int V_number, .int H_sort, .int H_length])), (ah0, .inr (1, [.ref ah1, .int H_sort, .int H_length])), (ah1, .inl (cy 2, 40, .inr (.inl H_items)))] := hD
    exact W.vret hx hb hr (fun t ht hW => hfin w1 V_number H_sort H_length hf _ t ht hP (hS.F ht)) hS.2.2 dX2_holdRow_33
  have hl := lv_entry ([.ref av0, .ref ah0]) (n := 2) (Nat.le_of_ble_eq_true rfl)
  rw [lg_entry_eq]
  generalize (lg_sl ([.ref av0, .ref ah0]) ++ List.replicate (2 - (lg_sl ([.ref av0, .ref ah0])).length) Slot.unset).toArray = ls at hl ⊢
  have hl : lv_has ls 2 [(0, .ref av0), (1, .ref ah0)] := hl
  have hf : (if H_sort = (-1 : Int32) then (fX2_holdRow_b14 n (H_items, H_sort, H_length)  (V_what, V_number, V_sort, V_length) (2 : Int32)) else (fX2_holdRow_b14 n (H_items, H_sort, H_length)  (V_what, V_number, V_sort, V_length) (1 : Int32))) = some z := hf
  refine lv_aload_n hx hb dX2_holdRow_0 rfl (lv_at hl 0 rfl) ?_
  refine lv_aload_n hx hb dX2_holdRow_1 rfl (lv_at hl 1 rfl) ?_
  refine va_get (D := D) (ci := 1) (v := .int H_sort) (C := RX1) (T := TX1) (N := 3) hx hb hts hin1 hown hK hP 1 rfl rfl 1 (by decide) fl18 (fun _ h9 => h9) rfl dX2_holdRow_2 ?_
  refine lv_iconst (v := (-1 : Int32)) hx hb dX2_holdRow_5 (by decide) ?_
  refine lv_icmp_ne (tgt := 13) hx hb dX2_holdRow_6 (by decide) (fun c_6 => ?_) (fun c_6 => ?_)
  · have hf := zn hf c_6
    refine lv_iconst (v := (1 : Int32)) hx hb dX2_holdRow_13 (by decide) ?_
    exact hB14 V_what V_number V_sort V_length (1 : Int32) hf _ _ hP hD hS _ (lv_sub hl [0, 1] rfl)
  · have hf := zp hf c_6
    refine lv_iconst (v := (2 : Int32)) hx hb dX2_holdRow_9 (by decide) ?_
    refine lv_goto (tgt := 14) hx hb dX2_holdRow_10 (by decide) ?_
    exact hB14 V_what V_number V_sort V_length (2 : Int32) hf _ _ hP hD hS _ (lv_sub hl [0, 1] rfl)
set_option maxRecDepth 100000 in
set_option maxHeartbeats 100000000 in
theorem mX4_clear (l : Launch) (D : va_G) (cy : Nat → ClassId) (st sk sv : Nat → Nat) (B : Nat) (at0 : Nat) (at1 : Nat) (at2 : Nat) (at3 : Nat) (at4 : Nat) (at5 : Nat) (sz : Nat) (n : Nat) (T_laws : (Nat → Int32)) (T_kind : (Nat → Int32)) (T_holds : (Nat → Int32)) (T_gone : (Nat → Int32)) (T_tells : (Nat → Int32)) (T_drowned : Int32) (T_count : Int32) (T_course : Int32) (T_told : Int32) (T_z : Int32)  (z : TB) (hf : fX4_clear n (T_laws, T_kind, T_holds, T_gone, T_tells, T_drowned, T_count, T_course, T_told, T_z) = some z) : Met l yX4_clear wsX4_clear ({ frames := 1, cells := 0, slots := 0, locals := 60 }) (PcW [.ref at0] D cy st sk sv B sz [(at0, .inr (4, [.ref at1, .ref at2, .ref at3, .ref at4, .ref at5, .int T_drowned, .int T_count, .int T_course, .int T_told, .int T_z])), (at1, .inl (cy 0, 4, .inl T_laws)), (at2, .inl (cy 0, 8, .inl T_kind)), (at3, .inl (cy 0, 8, .inl T_holds)), (at4, .inl (cy 0, 8, .inl T_gone)), (at5, .inl (cy 0, 8, .inl T_tells))]) (Qw (none) D [(at0, .inr (4, [.ref at1, .ref at2, .ref at3, .ref at4, .ref at5, .int z.2.2.2.2.2.1, .int z.2.2.2.2.2.2.1, .int z.2.2.2.2.2.2.2.1, .int z.2.2.2.2.2.2.2.2.1, .int z.2.2.2.2.2.2.2.2.2])), (at1, .inl (cy 0, 4, .inl z.1)), (at2, .inl (cy 0, 8, .inl z.2.1)), (at3, .inl (cy 0, 8, .inl z.2.2.1)), (at4, .inl (cy 0, 8, .inl z.2.2.2.1)), (at5, .inl (cy 0, 8, .inl z.2.2.2.2.1))] (va_A [(at0, .inr (4, [.ref at1, .ref at2, .ref at3, .ref at4, .ref at5, .int T_drowned, .int T_count, .int T_course, .int T_told, .int T_z])), (at1, .inl (cy 0, 4, .inl T_laws)), (at2, .inl (cy 0, 8, .inl T_kind)), (at3, .inl (cy 0, 8, .inl T_holds)), (at4, .inl (cy 0, 8, .inl T_gone)), (at5, .inl (cy 0, 8, .inl T_tells))] sz)) 0 0 (va_A [(at0, .inr (4, [.ref at1, .ref at2, .ref at3, .ref at4, .ref at5, .int T_drowned, .int T_count, .int T_course, .int T_told, .int T_z])), (at1, .inl (cy 0, 4, .inl T_laws)), (at2, .inl (cy 0, 8, .inl T_kind)), (at3, .inl (cy 0, 8, .inl T_holds)), (at4, .inl (cy 0, 8, .inl T_gone)), (at5, .inl (cy 0, 8, .inl T_tells))] sz) := by
  refine Met.ofW (cc := cX4_clear) (maxL := 1) (ret := none) (by decide) rfl ?_
  intro p e s m args below meth c s₁ Bd hml hv
  obtain ⟨rfl, hsz, hP, hD0, hBs, hG⟩ := hv
  have hx := Bd.exec
  have hb := Bd.bytes
  have hr := Bd.returns
  have hts := atoms_spec (ws := wsX4_clear) Bd.pre
  have hown : s.vm.findClass RX4 = some m.cls := findClass_of_methodNamed Bd.named
  have hlocks := Bd.notSynchronized
  have hK := hG.1
  subst hsz
  have hD := hD0.self (sz := s.heap.size)
  have hAB0 := zA hD0 hBs
  generalize hAe : va_A [(at0, .inr (4, [.ref at1, .ref at2, .ref at3, .ref at4, .ref at5, .int T_drowned, .int T_count, .int T_course, .int T_told, .int T_z])), (at1, .inl (cy 0, 4, .inl T_laws)), (at2, .inl (cy 0, 8, .inl T_kind)), (at3, .inl (cy 0, 8, .inl T_holds)), (at4, .inl (cy 0, 8, .inl T_gone)), (at5, .inl (cy 0, 8, .inl T_tells))] s.heap.size = A at hD hAB0 ⊢
  have hA : ∀ q : Nat, s.heap.size ≤ q → A q := fun q h => by rw [← hAe]; exact Or.inr h
  have hAB : ∀ q, A q → B ≤ q := hAB0
  have hS : va_S A s.heap s.heap [] := va_S.rf
  have hfin : ∀ (T_laws : (Nat → Int32)) (T_kind : (Nat → Int32)) (T_holds : (Nat → Int32)) (T_gone : (Nat → Int32)) (T_tells : (Nat → Int32)) (T_drowned : Int32) (T_count : Int32) (T_course : Int32) (T_told : Int32) (T_z : Int32), some (T_laws, T_kind, T_holds, T_gone, T_tells, T_drowned, T_count, T_course, T_told, T_z) = some z → ∀ (H : Heap) (t : State), t.heap = H → va_P D vwCl [(at0, .inr (4, [.ref at1, .ref at2, .ref at3, .ref at4, .ref at5, .int T_drowned, .int T_count, .int T_course, .int T_told, .int T_z])), (at1, .inl (cy 0, 4, .inl T_laws)), (at2, .inl (cy 0, 8, .inl T_kind)), (at3, .inl (cy 0, 8, .inl T_holds)), (at4, .inl (cy 0, 8, .inl T_gone)), (at5, .inl (cy 0, 8, .inl T_tells))] H → va_F A s t → Qw (none) D [(at0, .inr (4, [.ref at1, .ref at2, .ref at3, .ref at4, .ref at5, .int z.2.2.2.2.2.1, .int z.2.2.2.2.2.2.1, .int z.2.2.2.2.2.2.2.1, .int z.2.2.2.2.2.2.2.2.1, .int z.2.2.2.2.2.2.2.2.2])), (at1, .inl (cy 0, 4, .inl z.1)), (at2, .inl (cy 0, 8, .inl z.2.1)), (at3, .inl (cy 0, 8, .inl z.2.2.1)), (at4, .inl (cy 0, 8, .inl z.2.2.2.1)), (at5, .inl (cy 0, 8, .inl z.2.2.2.2.1))] A ([.ref at0] : List Value).toArray s (.returned (none)) t := by
    intro T_laws T_kind T_holds T_gone T_tells T_drowned T_count T_course T_told T_z h9 H t ht hP hF
    cases h9
    exact ⟨rfl, by rw [ht]; exact hP, hF⟩
  have hin4 : ∀ w ∈ u_ws RX4 TX4 10, w ∈ wsX4_clear := by decide +kernel
  have fl9 := hts (.fieldLink RX4 9 "KinCutlery$Table" "laws" "[I") (by decide +kernel)
  have fl43 := hts (.fieldLink RX4 43 "KinCutlery$Table" "drowned" "I") (by decide +kernel)
  have fl46 := hts (.fieldLink RX4 46 "KinCutlery$Table" "count" "I") (by decide +kernel)
  have fl49 := hts (.fieldLink RX4 49 "KinCutlery$Table" "course" "I") (by decide +kernel)
  have fl52 := hts (.fieldLink RX4 52 "KinCutlery$Table" "told" "I") (by decide +kernel)
  have hl := lv_entry ([.ref at0]) (n := 1) (Nat.le_of_ble_eq_true rfl)
  rw [lg_entry_eq]
  generalize (lg_sl ([.ref at0]) ++ List.replicate (1 - (lg_sl ([.ref at0])).length) Slot.unset).toArray = ls at hl ⊢
  have hl : lv_has ls 1 [(0, .ref at0)] := hl
  have hf : (some ((va_cpy (gsF 0) T_laws (0 : Int32).toNatClampNeg (0 : Int32).toNatClampNeg (4 : Int32).toNatClampNeg), T_kind, T_holds, T_gone, T_tells, (0 : Int32), (0 : Int32), (0 : Int32), (0 : Int32), T_z)) = some z := hf
  refine va_getsN (C := RX6) (n := "LAW_AT_FIRST") (d := "[I") (v := .ref (st 0)) hx hb (va_Z.narrow (hG.2.2.1 0 (by decide)).1 hAB) hS hown (va_Nw.use rfl hG.2.1.2.2.2.1) (fun _ h9 => h9) dX4_clear_0 ?_
  refine lv_iconst (v := (0 : Int32)) hx hb dX4_clear_3 (by decide) ?_
  refine lv_aload_n hx hb dX4_clear_4 rfl (lv_at hl 0 rfl) ?_
  refine va_get (D := D) (ci := 4) (v := .ref at1) (C := RX4) (T := TX4) (N := 10) hx hb hts hin4 hown hK hP 0 rfl rfl 0 (by decide) fl9 (fun _ h9 => h9) rfl dX4_clear_5 ?_
  refine lv_iconst (v := (0 : Int32)) hx hb dX4_clear_8 (by decide) ?_
  refine lv_iconst (v := (4 : Int32)) hx hb dX4_clear_9 (by decide) ?_
  refine zcopy hx hb (hml.trans hl.1.symm) hown (hts (.methodLink RX4 37 arraycopyName) (by decide +kernel)) (hts (.native arraycopyName) (by decide +kernel)) (hts (.static arraycopyName) (by decide +kernel)) (hts (.initialized "java/lang/System") (by decide +kernel)) hK hP hD hS (va_T.narrow (hG.2.2.1 0 (by decide)).2 hAB) 1 0 rfl rfl (by decide) (by decide) (by decide) (by decide) (by decide) (Nat.le_of_ble_eq_true rfl) (Nat.le_of_ble_eq_true rfl) dX4_clear_10 (fun H locs hP hD hS => ?_)
  have hP : va_P D vwCl [(at0, .inr (4, [.ref at1, .ref at2, .ref at3, .ref at4, .ref at5, .int T_drowned, .int T_count, .int T_course, .int T_told, .int T_z])), (at1, .inl (cy 0, 4, .inl (va_cpy (gsF 0) T_laws (0 : Int32).toNatClampNeg (0 : Int32).toNatClampNeg (4 : Int32).toNatClampNeg))), (at2, .inl (cy 0, 8, .inl T_kind)), (at3, .inl (cy 0, 8, .inl T_holds)), (at4, .inl (cy 0, 8, .inl T_gone)), (at5, .inl (cy 0, 8, .inl T_tells))] H := hP
  have hD : va_D A [(at0, .inr (4, [.ref at1, .ref at2, .ref at3, .ref at4, .ref at5, .int T_drowned, .int T_count, .int T_course, .int T_told, .int T_z])), (at1, .inl (cy 0, 4, .inl (va_cpy (gsF 0) T_laws (0 : Int32).toNatClampNeg (0 : Int32).toNatClampNeg (4 : Int32).toNatClampNeg))), (at2, .inl (cy 0, 8, .inl T_kind)), (at3, .inl (cy 0, 8, .inl T_holds)), (at4, .inl (cy 0, 8, .inl T_gone)), (at5, .inl (cy 0, 8, .inl T_tells))] := hD
  refine lv_aload_n hx hb dX4_clear_13 rfl (lv_at hl 0 rfl) ?_
  refine lv_iconst (v := (0 : Int32)) hx hb dX4_clear_14 (by decide) ?_
  refine va_put (D := D) (ci := 4) (v := .int (0 : Int32)) (ty := .int) (C := RX4) (T := TX4) (N := 10) hx hb hts hin4 tyX4 tyX4_ok nmX4 hown hK hP hD hS 0 rfl rfl 5 (by decide) fl43 (fun _ h9 => h9) rfl (by decide +kernel) rfl rfl (Nat.le_of_ble_eq_true rfl) dX4_clear_15 (fun H locs hP hD hS => ?_)
  have hP : va_P D vwCl [(at0, .inr (4, [.ref at1, .ref at2, .ref at3, .ref at4, .ref at5, .int (0 : Int32), .int T_count, .int T_course, .int T_told, .int T_z])), (at1, .inl (cy 0, 4, .inl (va_cpy (gsF 0) T_laws (0 : Int32).toNatClampNeg (0 : Int32).toNatClampNeg (4 : Int32).toNatClampNeg))), (at2, .inl (cy 0, 8, .inl T_kind)), (at3, .inl (cy 0, 8, .inl T_holds)), (at4, .inl (cy 0, 8, .inl T_gone)), (at5, .inl (cy 0, 8, .inl T_tells))] H := hP
  have hD : va_D A [(at0, .inr (4, [.ref at1, .ref at2, .ref at3, .ref at4, .ref at5, .int (0 : Int32), .int T_count, .int T_course, .int T_told, .int T_z])), (at1, .inl (cy 0, 4, .inl (va_cpy (gsF 0) T_laws (0 : Int32).toNatClampNeg (0 : Int32).toNatClampNeg (4 : Int32).toNatClampNeg))), (at2, .inl (cy 0, 8, .inl T_kind)), (at3, .inl (cy 0, 8, .inl T_holds)), (at4, .inl (cy 0, 8, .inl T_gone)), (at5, .inl (cy 0, 8, .inl T_tells))] := hD
  refine lv_aload_n hx hb dX4_clear_18 rfl (lv_at hl 0 rfl) ?_
  refine lv_iconst (v := (0 : Int32)) hx hb dX4_clear_19 (by decide) ?_
  refine va_put (D := D) (ci := 4) (v := .int (0 : Int32)) (ty := .int) (C := RX4) (T := TX4) (N := 10) hx hb hts hin4 tyX4 tyX4_ok nmX4 hown hK hP hD hS 0 rfl rfl 6 (by decide) fl46 (fun _ h9 => h9) rfl (by decide +kernel) rfl rfl (Nat.le_of_ble_eq_true rfl) dX4_clear_20 (fun H locs hP hD hS => ?_)
  have hP : va_P D vwCl [(at0, .inr (4, [.ref at1, .ref at2, .ref at3, .ref at4, .ref at5, .int (0 : Int32), .int (0 : Int32), .int T_course, .int T_told, .int T_z])), (at1, .inl (cy 0, 4, .inl (va_cpy (gsF 0) T_laws (0 : Int32).toNatClampNeg (0 : Int32).toNatClampNeg (4 : Int32).toNatClampNeg))), (at2, .inl (cy 0, 8, .inl T_kind)), (at3, .inl (cy 0, 8, .inl T_holds)), (at4, .inl (cy 0, 8, .inl T_gone)), (at5, .inl (cy 0, 8, .inl T_tells))] H := hP
  have hD : va_D A [(at0, .inr (4, [.ref at1, .ref at2, .ref at3, .ref at4, .ref at5, .int (0 : Int32), .int (0 : Int32), .int T_course, .int T_told, .int T_z])), (at1, .inl (cy 0, 4, .inl (va_cpy (gsF 0) T_laws (0 : Int32).toNatClampNeg (0 : Int32).toNatClampNeg (4 : Int32).toNatClampNeg))), (at2, .inl (cy 0, 8, .inl T_kind)), (at3, .inl (cy 0, 8, .inl T_holds)), (at4, .inl (cy 0, 8, .inl T_gone)), (at5, .inl (cy 0, 8, .inl T_tells))] := hD
  refine lv_aload_n hx hb dX4_clear_23 rfl (lv_at hl 0 rfl) ?_
  refine lv_iconst (v := (0 : Int32)) hx hb dX4_clear_24 (by decide) ?_
  refine va_put (D := D) (ci := 4) (v := .int (0 : Int32)) (ty := .int) (C := RX4) (T := TX4) (N := 10) hx hb hts hin4 tyX4 tyX4_ok nmX4 hown hK hP hD hS 0 rfl rfl 7 (by decide) fl49 (fun _ h9 => h9) rfl (by decide +kernel) rfl rfl (Nat.le_of_ble_eq_true rfl) dX4_clear_25 (fun H locs hP hD hS => ?_)
  have hP : va_P D vwCl [(at0, .inr (4, [.ref at1, .ref at2, .ref at3, .ref at4, .ref at5, .int (0 : Int32), .int (0 : Int32), .int (0 : Int32), .int T_told, .int T_z])), (at1, .inl (cy 0, 4, .inl (va_cpy (gsF 0) T_laws (0 : Int32).toNatClampNeg (0 : Int32).toNatClampNeg (4 : Int32).toNatClampNeg))), (at2, .inl (cy 0, 8, .inl T_kind)), (at3, .inl (cy 0, 8, .inl T_holds)), (at4, .inl (cy 0, 8, .inl T_gone)), (at5, .inl (cy 0, 8, .inl T_tells))] H := hP
  have hD : va_D A [(at0, .inr (4, [.ref at1, .ref at2, .ref at3, .ref at4, .ref at5, .int (0 : Int32), .int (0 : Int32), .int (0 : Int32), .int T_told, .int T_z])), (at1, .inl (cy 0, 4, .inl (va_cpy (gsF 0) T_laws (0 : Int32).toNatClampNeg (0 : Int32).toNatClampNeg (4 : Int32).toNatClampNeg))), (at2, .inl (cy 0, 8, .inl T_kind)), (at3, .inl (cy 0, 8, .inl T_holds)), (at4, .inl (cy 0, 8, .inl T_gone)), (at5, .inl (cy 0, 8, .inl T_tells))] := hD
  refine lv_aload_n hx hb dX4_clear_28 rfl (lv_at hl 0 rfl) ?_
  refine lv_iconst (v := (0 : Int32)) hx hb dX4_clear_29 (by decide) ?_
  refine va_put (D := D) (ci := 4) (v := .int (0 : Int32)) (ty := .int) (C := RX4) (T := TX4) (N := 10) hx hb hts hin4 tyX4 tyX4_ok nmX4 hown hK hP hD hS 0 rfl rfl 8 (by decide) fl52 (fun _ h9 => h9) rfl (by decide +kernel) rfl rfl (Nat.le_of_ble_eq_true rfl) dX4_clear_30 (fun H locs hP hD hS => ?_)
  have hP : va_P D vwCl [(at0, .inr (4, [.ref at1, .ref at2, .ref at3, .ref at4, .ref at5, .int (0 : Int32), .int (0 : Int32), .int (0 : Int32), .int (0 : Int32), .int T_z])), (at1, .inl (cy 0, 4, .inl (va_cpy (gsF 0) T_laws (0 : Int32).toNatClampNeg (0 : Int32).toNatClampNeg (4 : Int32).toNatClampNeg))), (at2, .inl (cy 0, 8, .inl T_kind)), (at3, .inl (cy 0, 8, .inl T_holds)), (at4, .inl (cy 0, 8, .inl T_gone)), (at5, .inl (cy 0, 8, .inl T_tells))] H := hP
  have hD : va_D A [(at0, .inr (4, [.ref at1, .ref at2, .ref at3, .ref at4, .ref at5, .int (0 : Int32), .int (0 : Int32), .int (0 : Int32), .int (0 : Int32), .int T_z])), (at1, .inl (cy 0, 4, .inl (va_cpy (gsF 0) T_laws (0 : Int32).toNatClampNeg (0 : Int32).toNatClampNeg (4 : Int32).toNatClampNeg))), (at2, .inl (cy 0, 8, .inl T_kind)), (at3, .inl (cy 0, 8, .inl T_holds)), (at4, .inl (cy 0, 8, .inl T_gone)), (at5, .inl (cy 0, 8, .inl T_tells))] := hD
  exact W.vret hx hb hr (fun t ht hW => hfin (va_cpy (gsF 0) T_laws (0 : Int32).toNatClampNeg (0 : Int32).toNatClampNeg (4 : Int32).toNatClampNeg) T_kind T_holds T_gone T_tells (0 : Int32) (0 : Int32) (0 : Int32) (0 : Int32) T_z hf _ t ht hP (hS.F ht)) hS.2.2 dX4_clear_33
set_option maxRecDepth 100000 in
set_option maxHeartbeats 100000000 in
theorem mX4_copyFrom (l : Launch) (D : va_G) (cy : Nat → ClassId) (st sk sv : Nat → Nat) (B : Nat) (at0 : Nat) (at1 : Nat) (at2 : Nat) (at3 : Nat) (at4 : Nat) (at5 : Nat) (ao0 : Nat) (ao1 : Nat) (ao2 : Nat) (ao3 : Nat) (ao4 : Nat) (ao5 : Nat) (sz : Nat) (n : Nat) (T_laws : (Nat → Int32)) (T_kind : (Nat → Int32)) (T_holds : (Nat → Int32)) (T_gone : (Nat → Int32)) (T_tells : (Nat → Int32)) (T_drowned : Int32) (T_count : Int32) (T_course : Int32) (T_told : Int32) (T_z : Int32) (O_laws : (Nat → Int32)) (O_kind : (Nat → Int32)) (O_holds : (Nat → Int32)) (O_gone : (Nat → Int32)) (O_tells : (Nat → Int32)) (O_drowned : Int32) (O_count : Int32) (O_course : Int32) (O_told : Int32) (O_z : Int32)  (z : TB) (hf : fX4_copyFrom n (T_laws, T_kind, T_holds, T_gone, T_tells, T_drowned, T_count, T_course, T_told, T_z) (O_laws, O_kind, O_holds, O_gone, O_tells, O_drowned, O_count, O_course, O_told, O_z) = some z) : Met l yX4_copyFrom wsX4_copyFrom ({ frames := 1, cells := 0, slots := 0, locals := 60 }) (PcW [.ref at0, .ref ao0] D cy st sk sv B sz [(at0, .inr (4, [.ref at1, .ref at2, .ref at3, .ref at4, .ref at5, .int T_drowned, .int T_count, .int T_course, .int T_told, .int T_z])), (at1, .inl (cy 0, 4, .inl T_laws)), (at2, .inl (cy 0, 8, .inl T_kind)), (at3, .inl (cy 0, 8, .inl T_holds)), (at4, .inl (cy 0, 8, .inl T_gone)), (at5, .inl (cy 0, 8, .inl T_tells)), (ao0, .inr (4, [.ref ao1, .ref ao2, .ref ao3, .ref ao4, .ref ao5, .int O_drowned, .int O_count, .int O_course, .int O_told, .int O_z])), (ao1, .inl (cy 0, 4, .inl O_laws)), (ao2, .inl (cy 0, 8, .inl O_kind)), (ao3, .inl (cy 0, 8, .inl O_holds)), (ao4, .inl (cy 0, 8, .inl O_gone)), (ao5, .inl (cy 0, 8, .inl O_tells))]) (Qw (none) D [(at0, .inr (4, [.ref at1, .ref at2, .ref at3, .ref at4, .ref at5, .int z.2.2.2.2.2.1, .int z.2.2.2.2.2.2.1, .int z.2.2.2.2.2.2.2.1, .int z.2.2.2.2.2.2.2.2.1, .int z.2.2.2.2.2.2.2.2.2])), (at1, .inl (cy 0, 4, .inl z.1)), (at2, .inl (cy 0, 8, .inl z.2.1)), (at3, .inl (cy 0, 8, .inl z.2.2.1)), (at4, .inl (cy 0, 8, .inl z.2.2.2.1)), (at5, .inl (cy 0, 8, .inl z.2.2.2.2.1)), (ao0, .inr (4, [.ref ao1, .ref ao2, .ref ao3, .ref ao4, .ref ao5, .int O_drowned, .int O_count, .int O_course, .int O_told, .int O_z])), (ao1, .inl (cy 0, 4, .inl O_laws)), (ao2, .inl (cy 0, 8, .inl O_kind)), (ao3, .inl (cy 0, 8, .inl O_holds)), (ao4, .inl (cy 0, 8, .inl O_gone)), (ao5, .inl (cy 0, 8, .inl O_tells))] (va_A [(at0, .inr (4, [.ref at1, .ref at2, .ref at3, .ref at4, .ref at5, .int T_drowned, .int T_count, .int T_course, .int T_told, .int T_z])), (at1, .inl (cy 0, 4, .inl T_laws)), (at2, .inl (cy 0, 8, .inl T_kind)), (at3, .inl (cy 0, 8, .inl T_holds)), (at4, .inl (cy 0, 8, .inl T_gone)), (at5, .inl (cy 0, 8, .inl T_tells)), (ao0, .inr (4, [.ref ao1, .ref ao2, .ref ao3, .ref ao4, .ref ao5, .int O_drowned, .int O_count, .int O_course, .int O_told, .int O_z])), (ao1, .inl (cy 0, 4, .inl O_laws)), (ao2, .inl (cy 0, 8, .inl O_kind)), (ao3, .inl (cy 0, 8, .inl O_holds)), (ao4, .inl (cy 0, 8, .inl O_gone)), (ao5, .inl (cy 0, 8, .inl O_tells))] sz)) 0 0 (va_A [(at0, .inr (4, [.ref at1, .ref at2, .ref at3, .ref at4, .ref at5, .int T_drowned, .int T_count, .int T_course, .int T_told, .int T_z])), (at1, .inl (cy 0, 4, .inl T_laws)), (at2, .inl (cy 0, 8, .inl T_kind)), (at3, .inl (cy 0, 8, .inl T_holds)), (at4, .inl (cy 0, 8, .inl T_gone)), (at5, .inl (cy 0, 8, .inl T_tells)), (ao0, .inr (4, [.ref ao1, .ref ao2, .ref ao3, .ref ao4, .ref ao5, .int O_drowned, .int O_count, .int O_course, .int O_told, .int O_z])), (ao1, .inl (cy 0, 4, .inl O_laws)), (ao2, .inl (cy 0, 8, .inl O_kind)), (ao3, .inl (cy 0, 8, .inl O_holds)), (ao4, .inl (cy 0, 8, .inl O_gone)), (ao5, .inl (cy 0, 8, .inl O_tells))] sz) := by
  refine Met.ofW (cc := cX4_copyFrom) (maxL := 2) (ret := none) (by decide) rfl ?_
  intro p e s m args below meth c s₁ Bd hml hv
  obtain ⟨rfl, hsz, hP, hD0, hBs, hG⟩ := hv
  have hx := Bd.exec
  have hb := Bd.bytes
  have hr := Bd.returns
  have hts := atoms_spec (ws := wsX4_copyFrom) Bd.pre
  have hown : s.vm.findClass RX4 = some m.cls := findClass_of_methodNamed Bd.named
  have hlocks := Bd.notSynchronized
  have hK := hG.1
  subst hsz
  have hD := hD0.self (sz := s.heap.size)
  have hAB0 := zA hD0 hBs
  generalize hAe : va_A [(at0, .inr (4, [.ref at1, .ref at2, .ref at3, .ref at4, .ref at5, .int T_drowned, .int T_count, .int T_course, .int T_told, .int T_z])), (at1, .inl (cy 0, 4, .inl T_laws)), (at2, .inl (cy 0, 8, .inl T_kind)), (at3, .inl (cy 0, 8, .inl T_holds)), (at4, .inl (cy 0, 8, .inl T_gone)), (at5, .inl (cy 0, 8, .inl T_tells)), (ao0, .inr (4, [.ref ao1, .ref ao2, .ref ao3, .ref ao4, .ref ao5, .int O_drowned, .int O_count, .int O_course, .int O_told, .int O_z])), (ao1, .inl (cy 0, 4, .inl O_laws)), (ao2, .inl (cy 0, 8, .inl O_kind)), (ao3, .inl (cy 0, 8, .inl O_holds)), (ao4, .inl (cy 0, 8, .inl O_gone)), (ao5, .inl (cy 0, 8, .inl O_tells))] s.heap.size = A at hD hAB0 ⊢
  have hA : ∀ q : Nat, s.heap.size ≤ q → A q := fun q h => by rw [← hAe]; exact Or.inr h
  have hAB : ∀ q, A q → B ≤ q := hAB0
  have hS : va_S A s.heap s.heap [] := va_S.rf
  have hfin : ∀ (T_laws : (Nat → Int32)) (T_kind : (Nat → Int32)) (T_holds : (Nat → Int32)) (T_gone : (Nat → Int32)) (T_tells : (Nat → Int32)) (T_drowned : Int32) (T_count : Int32) (T_course : Int32) (T_told : Int32) (T_z : Int32), some (T_laws, T_kind, T_holds, T_gone, T_tells, T_drowned, T_count, T_course, T_told, T_z) = some z → ∀ (H : Heap) (t : State), t.heap = H → va_P D vwCl [(at0, .inr (4, [.ref at1, .ref at2, .ref at3, .ref at4, .ref at5, .int T_drowned, .int T_count, .int T_course, .int T_told, .int T_z])), (at1, .inl (cy 0, 4, .inl T_laws)), (at2, .inl (cy 0, 8, .inl T_kind)), (at3, .inl (cy 0, 8, .inl T_holds)), (at4, .inl (cy 0, 8, .inl T_gone)), (at5, .inl (cy 0, 8, .inl T_tells)), (ao0, .inr (4, [.ref ao1, .ref ao2, .ref ao3, .ref ao4, .ref ao5, .int O_drowned, .int O_count, .int O_course, .int O_told, .int O_z])), (ao1, .inl (cy 0, 4, .inl O_laws)), (ao2, .inl (cy 0, 8, .inl O_kind)), (ao3, .inl (cy 0, 8, .inl O_holds)), (ao4, .inl (cy 0, 8, .inl O_gone)), (ao5, .inl (cy 0, 8, .inl O_tells))] H → va_F A s t → Qw (none) D [(at0, .inr (4, [.ref at1, .ref at2, .ref at3, .ref at4, .ref at5, .int z.2.2.2.2.2.1, .int z.2.2.2.2.2.2.1, .int z.2.2.2.2.2.2.2.1, .int z.2.2.2.2.2.2.2.2.1, .int z.2.2.2.2.2.2.2.2.2])), (at1, .inl (cy 0, 4, .inl z.1)), (at2, .inl (cy 0, 8, .inl z.2.1)), (at3, .inl (cy 0, 8, .inl z.2.2.1)), (at4, .inl (cy 0, 8, .inl z.2.2.2.1)), (at5, .inl (cy 0, 8, .inl z.2.2.2.2.1)), (ao0, .inr (4, [.ref ao1, .ref ao2, .ref ao3, .ref ao4, .ref ao5, .int O_drowned, .int O_count, .int O_course, .int O_told, .int O_z])), (ao1, .inl (cy 0, 4, .inl O_laws)), (ao2, .inl (cy 0, 8, .inl O_kind)), (ao3, .inl (cy 0, 8, .inl O_holds)), (ao4, .inl (cy 0, 8, .inl O_gone)), (ao5, .inl (cy 0, 8, .inl O_tells))] A ([.ref at0, .ref ao0] : List Value).toArray s (.returned (none)) t := by
    intro T_laws T_kind T_holds T_gone T_tells T_drowned T_count T_course T_told T_z h9 H t ht hP hF
    cases h9
    exact ⟨rfl, by rw [ht]; exact hP, hF⟩
  have hin4 : ∀ w ∈ u_ws RX4 TX4 10, w ∈ wsX4_copyFrom := by decide +kernel
  have fl9 := hts (.fieldLink RX4 9 "KinCutlery$Table" "laws" "[I") (by decide +kernel)
  have fl15 := hts (.fieldLink RX4 15 "KinCutlery$Table" "kind" "[I") (by decide +kernel)
  have fl18 := hts (.fieldLink RX4 18 "KinCutlery$Table" "holds" "[I") (by decide +kernel)
  have fl21 := hts (.fieldLink RX4 21 "KinCutlery$Table" "gone" "[I") (by decide +kernel)
  have fl24 := hts (.fieldLink RX4 24 "KinCutlery$Table" "tells" "[I") (by decide +kernel)
  have fl27 := hts (.fieldLink RX4 27 "KinCutlery$Table" "z" "I") (by decide +kernel)
  have fl43 := hts (.fieldLink RX4 43 "KinCutlery$Table" "drowned" "I") (by decide +kernel)
  have fl46 := hts (.fieldLink RX4 46 "KinCutlery$Table" "count" "I") (by decide +kernel)
  have fl49 := hts (.fieldLink RX4 49 "KinCutlery$Table" "course" "I") (by decide +kernel)
  have fl52 := hts (.fieldLink RX4 52 "KinCutlery$Table" "told" "I") (by decide +kernel)
  have hl := lv_entry ([.ref at0, .ref ao0]) (n := 2) (Nat.le_of_ble_eq_true rfl)
  rw [lg_entry_eq]
  generalize (lg_sl ([.ref at0, .ref ao0]) ++ List.replicate (2 - (lg_sl ([.ref at0, .ref ao0])).length) Slot.unset).toArray = ls at hl ⊢
  have hl : lv_has ls 2 [(0, .ref at0), (1, .ref ao0)] := hl
  have hf : (some ((va_cpy O_laws T_laws (0 : Int32).toNatClampNeg (0 : Int32).toNatClampNeg (4 : Int32).toNatClampNeg), (va_cpy O_kind T_kind (0 : Int32).toNatClampNeg (0 : Int32).toNatClampNeg (8 : Int32).toNatClampNeg), (va_cpy O_holds T_holds (0 : Int32).toNatClampNeg (0 : Int32).toNatClampNeg (8 : Int32).toNatClampNeg), (va_cpy O_gone T_gone (0 : Int32).toNatClampNeg (0 : Int32).toNatClampNeg (8 : Int32).toNatClampNeg), (va_cpy O_tells T_tells (0 : Int32).toNatClampNeg (0 : Int32).toNatClampNeg (8 : Int32).toNatClampNeg), O_drowned, O_count, O_course, O_told, O_z)) = some z := hf
  refine lv_aload_n hx hb dX4_copyFrom_0 rfl (lv_at hl 1 rfl) ?_
  refine va_get (D := D) (ci := 4) (v := .ref ao1) (C := RX4) (T := TX4) (N := 10) hx hb hts hin4 hown hK hP 6 rfl rfl 0 (by decide) fl9 (fun _ h9 => h9) rfl dX4_copyFrom_1 ?_
  refine lv_iconst (v := (0 : Int32)) hx hb dX4_copyFrom_4 (by decide) ?_
  refine lv_aload_n hx hb dX4_copyFrom_5 rfl (lv_at hl 0 rfl) ?_
  refine va_get (D := D) (ci := 4) (v := .ref at1) (C := RX4) (T := TX4) (N := 10) hx hb hts hin4 hown hK hP 0 rfl rfl 0 (by decide) fl9 (fun _ h9 => h9) rfl dX4_copyFrom_6 ?_
  refine lv_iconst (v := (0 : Int32)) hx hb dX4_copyFrom_9 (by decide) ?_
  refine lv_iconst (v := (4 : Int32)) hx hb dX4_copyFrom_10 (by decide) ?_
  refine va_copyi (ty := .int) hx hb (hml.trans hl.1.symm) hown (hts (.methodLink RX4 37 arraycopyName) (by decide +kernel)) (hts (.native arraycopyName) (by decide +kernel)) (hts (.static arraycopyName) (by decide +kernel)) (hts (.initialized "java/lang/System") (by decide +kernel)) hK hP hD hS 7 1 0 0 rfl rfl rfl rfl rfl (by decide) (by decide) (by decide) (by decide) (by decide) (fun _ _ => rfl) (Nat.le_of_ble_eq_true rfl) (Nat.le_of_ble_eq_true rfl) dX4_copyFrom_11 (fun H locs hP hD hS => ?_)
  have hP : va_P D vwCl [(at0, .inr (4, [.ref at1, .ref at2, .ref at3, .ref at4, .ref at5, .int T_drowned, .int T_count, .int T_course, .int T_told, .int T_z])), (at1, .inl (cy 0, 4, .inl (va_cpy O_laws T_laws (0 : Int32).toNatClampNeg (0 : Int32).toNatClampNeg (4 : Int32).toNatClampNeg))), (at2, .inl (cy 0, 8, .inl T_kind)), (at3, .inl (cy 0, 8, .inl T_holds)), (at4, .inl (cy 0, 8, .inl T_gone)), (at5, .inl (cy 0, 8, .inl T_tells)), (ao0, .inr (4, [.ref ao1, .ref ao2, .ref ao3, .ref ao4, .ref ao5, .int O_drowned, .int O_count, .int O_course, .int O_told, .int O_z])), (ao1, .inl (cy 0, 4, .inl O_laws)), (ao2, .inl (cy 0, 8, .inl O_kind)), (ao3, .inl (cy 0, 8, .inl O_holds)), (ao4, .inl (cy 0, 8, .inl O_gone)), (ao5, .inl (cy 0, 8, .inl O_tells))] H := hP
  have hD : va_D A [(at0, .inr (4, [.ref at1, .ref at2, .ref at3, .ref at4, .ref at5, .int T_drowned, .int T_count, .int T_course, .int T_told, .int T_z])), (at1, .inl (cy 0, 4, .inl (va_cpy O_laws T_laws (0 : Int32).toNatClampNeg (0 : Int32).toNatClampNeg (4 : Int32).toNatClampNeg))), (at2, .inl (cy 0, 8, .inl T_kind)), (at3, .inl (cy 0, 8, .inl T_holds)), (at4, .inl (cy 0, 8, .inl T_gone)), (at5, .inl (cy 0, 8, .inl T_tells)), (ao0, .inr (4, [.ref ao1, .ref ao2, .ref ao3, .ref ao4, .ref ao5, .int O_drowned, .int O_count, .int O_course, .int O_told, .int O_z])), (ao1, .inl (cy 0, 4, .inl O_laws)), (ao2, .inl (cy 0, 8, .inl O_kind)), (ao3, .inl (cy 0, 8, .inl O_holds)), (ao4, .inl (cy 0, 8, .inl O_gone)), (ao5, .inl (cy 0, 8, .inl O_tells))] := hD
  refine lv_aload_n hx hb dX4_copyFrom_14 rfl (lv_at hl 1 rfl) ?_
  refine va_get (D := D) (ci := 4) (v := .ref ao2) (C := RX4) (T := TX4) (N := 10) hx hb hts hin4 hown hK hP 6 rfl rfl 1 (by decide) fl15 (fun _ h9 => h9) rfl dX4_copyFrom_15 ?_
  refine lv_iconst (v := (0 : Int32)) hx hb dX4_copyFrom_18 (by decide) ?_
  refine lv_aload_n hx hb dX4_copyFrom_19 rfl (lv_at hl 0 rfl) ?_
  refine va_get (D := D) (ci := 4) (v := .ref at2) (C := RX4) (T := TX4) (N := 10) hx hb hts hin4 hown hK hP 0 rfl rfl 1 (by decide) fl15 (fun _ h9 => h9) rfl dX4_copyFrom_20 ?_
  refine lv_iconst (v := (0 : Int32)) hx hb dX4_copyFrom_23 (by decide) ?_
  refine lv_bipush (v := (8 : Int32)) hx hb dX4_copyFrom_24 (by decide) ?_
  refine va_copyi (ty := .int) hx hb (hml.trans hl.1.symm) hown (hts (.methodLink RX4 37 arraycopyName) (by decide +kernel)) (hts (.native arraycopyName) (by decide +kernel)) (hts (.static arraycopyName) (by decide +kernel)) (hts (.initialized "java/lang/System") (by decide +kernel)) hK hP hD hS 8 2 0 0 rfl rfl rfl rfl rfl (by decide) (by decide) (by decide) (by decide) (by decide) (fun _ _ => rfl) (Nat.le_of_ble_eq_true rfl) (Nat.le_of_ble_eq_true rfl) dX4_copyFrom_26 (fun H locs hP hD hS => ?_)
  have hP : va_P D vwCl [(at0, .inr (4, [.ref at1, .ref at2, .ref at3, .ref at4, .ref at5, .int T_drowned, .int T_count, .int T_course, .int T_told, .int T_z])), (at1, .inl (cy 0, 4, .inl (va_cpy O_laws T_laws (0 : Int32).toNatClampNeg (0 : Int32).toNatClampNeg (4 : Int32).toNatClampNeg))), (at2, .inl (cy 0, 8, .inl (va_cpy O_kind T_kind (0 : Int32).toNatClampNeg (0 : Int32).toNatClampNeg (8 : Int32).toNatClampNeg))), (at3, .inl (cy 0, 8, .inl T_holds)), (at4, .inl (cy 0, 8, .inl T_gone)), (at5, .inl (cy 0, 8, .inl T_tells)), (ao0, .inr (4, [.ref ao1, .ref ao2, .ref ao3, .ref ao4, .ref ao5, .int O_drowned, .int O_count, .int O_course, .int O_told, .int O_z])), (ao1, .inl (cy 0, 4, .inl O_laws)), (ao2, .inl (cy 0, 8, .inl O_kind)), (ao3, .inl (cy 0, 8, .inl O_holds)), (ao4, .inl (cy 0, 8, .inl O_gone)), (ao5, .inl (cy 0, 8, .inl O_tells))] H := hP
  have hD : va_D A [(at0, .inr (4, [.ref at1, .ref at2, .ref at3, .ref at4, .ref at5, .int T_drowned, .int T_count, .int T_course, .int T_told, .int T_z])), (at1, .inl (cy 0, 4, .inl (va_cpy O_laws T_laws (0 : Int32).toNatClampNeg (0 : Int32).toNatClampNeg (4 : Int32).toNatClampNeg))), (at2, .inl (cy 0, 8, .inl (va_cpy O_kind T_kind (0 : Int32).toNatClampNeg (0 : Int32).toNatClampNeg (8 : Int32).toNatClampNeg))), (at3, .inl (cy 0, 8, .inl T_holds)), (at4, .inl (cy 0, 8, .inl T_gone)), (at5, .inl (cy 0, 8, .inl T_tells)), (ao0, .inr (4, [.ref ao1, .ref ao2, .ref ao3, .ref ao4, .ref ao5, .int O_drowned, .int O_count, .int O_course, .int O_told, .int O_z])), (ao1, .inl (cy 0, 4, .inl O_laws)), (ao2, .inl (cy 0, 8, .inl O_kind)), (ao3, .inl (cy 0, 8, .inl O_holds)), (ao4, .inl (cy 0, 8, .inl O_gone)), (ao5, .inl (cy 0, 8, .inl O_tells))] := hD
  refine lv_aload_n hx hb dX4_copyFrom_29 rfl (lv_at hl 1 rfl) ?_
  refine va_get (D := D) (ci := 4) (v := .ref ao3) (C := RX4) (T := TX4) (N := 10) hx hb hts hin4 hown hK hP 6 rfl rfl 2 (by decide) fl18 (fun _ h9 => h9) rfl dX4_copyFrom_30 ?_
  refine lv_iconst (v := (0 : Int32)) hx hb dX4_copyFrom_33 (by decide) ?_
  refine lv_aload_n hx hb dX4_copyFrom_34 rfl (lv_at hl 0 rfl) ?_
  refine va_get (D := D) (ci := 4) (v := .ref at3) (C := RX4) (T := TX4) (N := 10) hx hb hts hin4 hown hK hP 0 rfl rfl 2 (by decide) fl18 (fun _ h9 => h9) rfl dX4_copyFrom_35 ?_
  refine lv_iconst (v := (0 : Int32)) hx hb dX4_copyFrom_38 (by decide) ?_
  refine lv_bipush (v := (8 : Int32)) hx hb dX4_copyFrom_39 (by decide) ?_
  refine va_copyi (ty := .int) hx hb (hml.trans hl.1.symm) hown (hts (.methodLink RX4 37 arraycopyName) (by decide +kernel)) (hts (.native arraycopyName) (by decide +kernel)) (hts (.static arraycopyName) (by decide +kernel)) (hts (.initialized "java/lang/System") (by decide +kernel)) hK hP hD hS 9 3 0 0 rfl rfl rfl rfl rfl (by decide) (by decide) (by decide) (by decide) (by decide) (fun _ _ => rfl) (Nat.le_of_ble_eq_true rfl) (Nat.le_of_ble_eq_true rfl) dX4_copyFrom_41 (fun H locs hP hD hS => ?_)
  have hP : va_P D vwCl [(at0, .inr (4, [.ref at1, .ref at2, .ref at3, .ref at4, .ref at5, .int T_drowned, .int T_count, .int T_course, .int T_told, .int T_z])), (at1, .inl (cy 0, 4, .inl (va_cpy O_laws T_laws (0 : Int32).toNatClampNeg (0 : Int32).toNatClampNeg (4 : Int32).toNatClampNeg))), (at2, .inl (cy 0, 8, .inl (va_cpy O_kind T_kind (0 : Int32).toNatClampNeg (0 : Int32).toNatClampNeg (8 : Int32).toNatClampNeg))), (at3, .inl (cy 0, 8, .inl (va_cpy O_holds T_holds (0 : Int32).toNatClampNeg (0 : Int32).toNatClampNeg (8 : Int32).toNatClampNeg))), (at4, .inl (cy 0, 8, .inl T_gone)), (at5, .inl (cy 0, 8, .inl T_tells)), (ao0, .inr (4, [.ref ao1, .ref ao2, .ref ao3, .ref ao4, .ref ao5, .int O_drowned, .int O_count, .int O_course, .int O_told, .int O_z])), (ao1, .inl (cy 0, 4, .inl O_laws)), (ao2, .inl (cy 0, 8, .inl O_kind)), (ao3, .inl (cy 0, 8, .inl O_holds)), (ao4, .inl (cy 0, 8, .inl O_gone)), (ao5, .inl (cy 0, 8, .inl O_tells))] H := hP
  have hD : va_D A [(at0, .inr (4, [.ref at1, .ref at2, .ref at3, .ref at4, .ref at5, .int T_drowned, .int T_count, .int T_course, .int T_told, .int T_z])), (at1, .inl (cy 0, 4, .inl (va_cpy O_laws T_laws (0 : Int32).toNatClampNeg (0 : Int32).toNatClampNeg (4 : Int32).toNatClampNeg))), (at2, .inl (cy 0, 8, .inl (va_cpy O_kind T_kind (0 : Int32).toNatClampNeg (0 : Int32).toNatClampNeg (8 : Int32).toNatClampNeg))), (at3, .inl (cy 0, 8, .inl (va_cpy O_holds T_holds (0 : Int32).toNatClampNeg (0 : Int32).toNatClampNeg (8 : Int32).toNatClampNeg))), (at4, .inl (cy 0, 8, .inl T_gone)), (at5, .inl (cy 0, 8, .inl T_tells)), (ao0, .inr (4, [.ref ao1, .ref ao2, .ref ao3, .ref ao4, .ref ao5, .int O_drowned, .int O_count, .int O_course, .int O_told, .int O_z])), (ao1, .inl (cy 0, 4, .inl O_laws)), (ao2, .inl (cy 0, 8, .inl O_kind)), (ao3, .inl (cy 0, 8, .inl O_holds)), (ao4, .inl (cy 0, 8, .inl O_gone)), (ao5, .inl (cy 0, 8, .inl O_tells))] := hD
  refine lv_aload_n hx hb dX4_copyFrom_44 rfl (lv_at hl 1 rfl) ?_
  refine va_get (D := D) (ci := 4) (v := .ref ao4) (C := RX4) (T := TX4) (N := 10) hx hb hts hin4 hown hK hP 6 rfl rfl 3 (by decide) fl21 (fun _ h9 => h9) rfl dX4_copyFrom_45 ?_
  refine lv_iconst (v := (0 : Int32)) hx hb dX4_copyFrom_48 (by decide) ?_
  refine lv_aload_n hx hb dX4_copyFrom_49 rfl (lv_at hl 0 rfl) ?_
  refine va_get (D := D) (ci := 4) (v := .ref at4) (C := RX4) (T := TX4) (N := 10) hx hb hts hin4 hown hK hP 0 rfl rfl 3 (by decide) fl21 (fun _ h9 => h9) rfl dX4_copyFrom_50 ?_
  refine lv_iconst (v := (0 : Int32)) hx hb dX4_copyFrom_53 (by decide) ?_
  refine lv_bipush (v := (8 : Int32)) hx hb dX4_copyFrom_54 (by decide) ?_
  refine va_copyi (ty := .int) hx hb (hml.trans hl.1.symm) hown (hts (.methodLink RX4 37 arraycopyName) (by decide +kernel)) (hts (.native arraycopyName) (by decide +kernel)) (hts (.static arraycopyName) (by decide +kernel)) (hts (.initialized "java/lang/System") (by decide +kernel)) hK hP hD hS 10 4 0 0 rfl rfl rfl rfl rfl (by decide) (by decide) (by decide) (by decide) (by decide) (fun _ _ => rfl) (Nat.le_of_ble_eq_true rfl) (Nat.le_of_ble_eq_true rfl) dX4_copyFrom_56 (fun H locs hP hD hS => ?_)
  have hP : va_P D vwCl [(at0, .inr (4, [.ref at1, .ref at2, .ref at3, .ref at4, .ref at5, .int T_drowned, .int T_count, .int T_course, .int T_told, .int T_z])), (at1, .inl (cy 0, 4, .inl (va_cpy O_laws T_laws (0 : Int32).toNatClampNeg (0 : Int32).toNatClampNeg (4 : Int32).toNatClampNeg))), (at2, .inl (cy 0, 8, .inl (va_cpy O_kind T_kind (0 : Int32).toNatClampNeg (0 : Int32).toNatClampNeg (8 : Int32).toNatClampNeg))), (at3, .inl (cy 0, 8, .inl (va_cpy O_holds T_holds (0 : Int32).toNatClampNeg (0 : Int32).toNatClampNeg (8 : Int32).toNatClampNeg))), (at4, .inl (cy 0, 8, .inl (va_cpy O_gone T_gone (0 : Int32).toNatClampNeg (0 : Int32).toNatClampNeg (8 : Int32).toNatClampNeg))), (at5, .inl (cy 0, 8, .inl T_tells)), (ao0, .inr (4, [.ref ao1, .ref ao2, .ref ao3, .ref ao4, .ref ao5, .int O_drowned, .int O_count, .int O_course, .int O_told, .int O_z])), (ao1, .inl (cy 0, 4, .inl O_laws)), (ao2, .inl (cy 0, 8, .inl O_kind)), (ao3, .inl (cy 0, 8, .inl O_holds)), (ao4, .inl (cy 0, 8, .inl O_gone)), (ao5, .inl (cy 0, 8, .inl O_tells))] H := hP
  have hD : va_D A [(at0, .inr (4, [.ref at1, .ref at2, .ref at3, .ref at4, .ref at5, .int T_drowned, .int T_count, .int T_course, .int T_told, .int T_z])), (at1, .inl (cy 0, 4, .inl (va_cpy O_laws T_laws (0 : Int32).toNatClampNeg (0 : Int32).toNatClampNeg (4 : Int32).toNatClampNeg))), (at2, .inl (cy 0, 8, .inl (va_cpy O_kind T_kind (0 : Int32).toNatClampNeg (0 : Int32).toNatClampNeg (8 : Int32).toNatClampNeg))), (at3, .inl (cy 0, 8, .inl (va_cpy O_holds T_holds (0 : Int32).toNatClampNeg (0 : Int32).toNatClampNeg (8 : Int32).toNatClampNeg))), (at4, .inl (cy 0, 8, .inl (va_cpy O_gone T_gone (0 : Int32).toNatClampNeg (0 : Int32).toNatClampNeg (8 : Int32).toNatClampNeg))), (at5, .inl (cy 0, 8, .inl T_tells)), (ao0, .inr (4, [.ref ao1, .ref ao2, .ref ao3, .ref ao4, .ref ao5, .int O_drowned, .int O_count, .int O_course, .int O_told, .int O_z])), (ao1, .inl (cy 0, 4, .inl O_laws)), (ao2, .inl (cy 0, 8, .inl O_kind)), (ao3, .inl (cy 0, 8, .inl O_holds)), (ao4, .inl (cy 0, 8, .inl O_gone)), (ao5, .inl (cy 0, 8, .inl O_tells))] := hD
  refine lv_aload_n hx hb dX4_copyFrom_59 rfl (lv_at hl 1 rfl) ?_
  refine va_get (D := D) (ci := 4) (v := .ref ao5) (C := RX4) (T := TX4) (N := 10) hx hb hts hin4 hown hK hP 6 rfl rfl 4 (by decide) fl24 (fun _ h9 => h9) rfl dX4_copyFrom_60 ?_
  refine lv_iconst (v := (0 : Int32)) hx hb dX4_copyFrom_63 (by decide) ?_
  refine lv_aload_n hx hb dX4_copyFrom_64 rfl (lv_at hl 0 rfl) ?_
  refine va_get (D := D) (ci := 4) (v := .ref at5) (C := RX4) (T := TX4) (N := 10) hx hb hts hin4 hown hK hP 0 rfl rfl 4 (by decide) fl24 (fun _ h9 => h9) rfl dX4_copyFrom_65 ?_
  refine lv_iconst (v := (0 : Int32)) hx hb dX4_copyFrom_68 (by decide) ?_
  refine lv_bipush (v := (8 : Int32)) hx hb dX4_copyFrom_69 (by decide) ?_
  refine va_copyi (ty := .int) hx hb (hml.trans hl.1.symm) hown (hts (.methodLink RX4 37 arraycopyName) (by decide +kernel)) (hts (.native arraycopyName) (by decide +kernel)) (hts (.static arraycopyName) (by decide +kernel)) (hts (.initialized "java/lang/System") (by decide +kernel)) hK hP hD hS 11 5 0 0 rfl rfl rfl rfl rfl (by decide) (by decide) (by decide) (by decide) (by decide) (fun _ _ => rfl) (Nat.le_of_ble_eq_true rfl) (Nat.le_of_ble_eq_true rfl) dX4_copyFrom_71 (fun H locs hP hD hS => ?_)
  have hP : va_P D vwCl [(at0, .inr (4, [.ref at1, .ref at2, .ref at3, .ref at4, .ref at5, .int T_drowned, .int T_count, .int T_course, .int T_told, .int T_z])), (at1, .inl (cy 0, 4, .inl (va_cpy O_laws T_laws (0 : Int32).toNatClampNeg (0 : Int32).toNatClampNeg (4 : Int32).toNatClampNeg))), (at2, .inl (cy 0, 8, .inl (va_cpy O_kind T_kind (0 : Int32).toNatClampNeg (0 : Int32).toNatClampNeg (8 : Int32).toNatClampNeg))), (at3, .inl (cy 0, 8, .inl (va_cpy O_holds T_holds (0 : Int32).toNatClampNeg (0 : Int32).toNatClampNeg (8 : Int32).toNatClampNeg))), (at4, .inl (cy 0, 8, .inl (va_cpy O_gone T_gone (0 : Int32).toNatClampNeg (0 : Int32).toNatClampNeg (8 : Int32).toNatClampNeg))), (at5, .inl (cy 0, 8, .inl (va_cpy O_tells T_tells (0 : Int32).toNatClampNeg (0 : Int32).toNatClampNeg (8 : Int32).toNatClampNeg))), (ao0, .inr (4, [.ref ao1, .ref ao2, .ref ao3, .ref ao4, .ref ao5, .int O_drowned, .int O_count, .int O_course, .int O_told, .int O_z])), (ao1, .inl (cy 0, 4, .inl O_laws)), (ao2, .inl (cy 0, 8, .inl O_kind)), (ao3, .inl (cy 0, 8, .inl O_holds)), (ao4, .inl (cy 0, 8, .inl O_gone)), (ao5, .inl (cy 0, 8, .inl O_tells))] H := hP
  have hD : va_D A [(at0, .inr (4, [.ref at1, .ref at2, .ref at3, .ref at4, .ref at5, .int T_drowned, .int T_count, .int T_course, .int T_told, .int T_z])), (at1, .inl (cy 0, 4, .inl (va_cpy O_laws T_laws (0 : Int32).toNatClampNeg (0 : Int32).toNatClampNeg (4 : Int32).toNatClampNeg))), (at2, .inl (cy 0, 8, .inl (va_cpy O_kind T_kind (0 : Int32).toNatClampNeg (0 : Int32).toNatClampNeg (8 : Int32).toNatClampNeg))), (at3, .inl (cy 0, 8, .inl (va_cpy O_holds T_holds (0 : Int32).toNatClampNeg (0 : Int32).toNatClampNeg (8 : Int32).toNatClampNeg))), (at4, .inl (cy 0, 8, .inl (va_cpy O_gone T_gone (0 : Int32).toNatClampNeg (0 : Int32).toNatClampNeg (8 : Int32).toNatClampNeg))), (at5, .inl (cy 0, 8, .inl (va_cpy O_tells T_tells (0 : Int32).toNatClampNeg (0 : Int32).toNatClampNeg (8 : Int32).toNatClampNeg))), (ao0, .inr (4, [.ref ao1, .ref ao2, .ref ao3, .ref ao4, .ref ao5, .int O_drowned, .int O_count, .int O_course, .int O_told, .int O_z])), (ao1, .inl (cy 0, 4, .inl O_laws)), (ao2, .inl (cy 0, 8, .inl O_kind)), (ao3, .inl (cy 0, 8, .inl O_holds)), (ao4, .inl (cy 0, 8, .inl O_gone)), (ao5, .inl (cy 0, 8, .inl O_tells))] := hD
  refine lv_aload_n hx hb dX4_copyFrom_74 rfl (lv_at hl 0 rfl) ?_
  refine lv_aload_n hx hb dX4_copyFrom_75 rfl (lv_at hl 1 rfl) ?_
  refine va_get (D := D) (ci := 4) (v := .int O_drowned) (C := RX4) (T := TX4) (N := 10) hx hb hts hin4 hown hK hP 6 rfl rfl 5 (by decide) fl43 (fun _ h9 => h9) rfl dX4_copyFrom_76 ?_
  refine va_put (D := D) (ci := 4) (v := .int O_drowned) (ty := .int) (C := RX4) (T := TX4) (N := 10) hx hb hts hin4 tyX4 tyX4_ok nmX4 hown hK hP hD hS 0 rfl rfl 5 (by decide) fl43 (fun _ h9 => h9) rfl (by decide +kernel) rfl rfl (Nat.le_of_ble_eq_true rfl) dX4_copyFrom_79 (fun H locs hP hD hS => ?_)
  have hP : va_P D vwCl [(at0, .inr (4, [.ref at1, .ref at2, .ref at3, .ref at4, .ref at5, .int O_drowned, .int T_count, .int T_course, .int T_told, .int T_z])), (at1, .inl (cy 0, 4, .inl (va_cpy O_laws T_laws (0 : Int32).toNatClampNeg (0 : Int32).toNatClampNeg (4 : Int32).toNatClampNeg))), (at2, .inl (cy 0, 8, .inl (va_cpy O_kind T_kind (0 : Int32).toNatClampNeg (0 : Int32).toNatClampNeg (8 : Int32).toNatClampNeg))), (at3, .inl (cy 0, 8, .inl (va_cpy O_holds T_holds (0 : Int32).toNatClampNeg (0 : Int32).toNatClampNeg (8 : Int32).toNatClampNeg))), (at4, .inl (cy 0, 8, .inl (va_cpy O_gone T_gone (0 : Int32).toNatClampNeg (0 : Int32).toNatClampNeg (8 : Int32).toNatClampNeg))), (at5, .inl (cy 0, 8, .inl (va_cpy O_tells T_tells (0 : Int32).toNatClampNeg (0 : Int32).toNatClampNeg (8 : Int32).toNatClampNeg))), (ao0, .inr (4, [.ref ao1, .ref ao2, .ref ao3, .ref ao4, .ref ao5, .int O_drowned, .int O_count, .int O_course, .int O_told, .int O_z])), (ao1, .inl (cy 0, 4, .inl O_laws)), (ao2, .inl (cy 0, 8, .inl O_kind)), (ao3, .inl (cy 0, 8, .inl O_holds)), (ao4, .inl (cy 0, 8, .inl O_gone)), (ao5, .inl (cy 0, 8, .inl O_tells))] H := hP
  have hD : va_D A [(at0, .inr (4, [.ref at1, .ref at2, .ref at3, .ref at4, .ref at5, .int O_drowned, .int T_count, .int T_course, .int T_told, .int T_z])), (at1, .inl (cy 0, 4, .inl (va_cpy O_laws T_laws (0 : Int32).toNatClampNeg (0 : Int32).toNatClampNeg (4 : Int32).toNatClampNeg))), (at2, .inl (cy 0, 8, .inl (va_cpy O_kind T_kind (0 : Int32).toNatClampNeg (0 : Int32).toNatClampNeg (8 : Int32).toNatClampNeg))), (at3, .inl (cy 0, 8, .inl (va_cpy O_holds T_holds (0 : Int32).toNatClampNeg (0 : Int32).toNatClampNeg (8 : Int32).toNatClampNeg))), (at4, .inl (cy 0, 8, .inl (va_cpy O_gone T_gone (0 : Int32).toNatClampNeg (0 : Int32).toNatClampNeg (8 : Int32).toNatClampNeg))), (at5, .inl (cy 0, 8, .inl (va_cpy O_tells T_tells (0 : Int32).toNatClampNeg (0 : Int32).toNatClampNeg (8 : Int32).toNatClampNeg))), (ao0, .inr (4, [.ref ao1, .ref ao2, .ref ao3, .ref ao4, .ref ao5, .int O_drowned, .int O_count, .int O_course, .int O_told, .int O_z])), (ao1, .inl (cy 0, 4, .inl O_laws)), (ao2, .inl (cy 0, 8, .inl O_kind)), (ao3, .inl (cy 0, 8, .inl O_holds)), (ao4, .inl (cy 0, 8, .inl O_gone)), (ao5, .inl (cy 0, 8, .inl O_tells))] := hD
  refine lv_aload_n hx hb dX4_copyFrom_82 rfl (lv_at hl 0 rfl) ?_
  refine lv_aload_n hx hb dX4_copyFrom_83 rfl (lv_at hl 1 rfl) ?_
  refine va_get (D := D) (ci := 4) (v := .int O_count) (C := RX4) (T := TX4) (N := 10) hx hb hts hin4 hown hK hP 6 rfl rfl 6 (by decide) fl46 (fun _ h9 => h9) rfl dX4_copyFrom_84 ?_
  refine va_put (D := D) (ci := 4) (v := .int O_count) (ty := .int) (C := RX4) (T := TX4) (N := 10) hx hb hts hin4 tyX4 tyX4_ok nmX4 hown hK hP hD hS 0 rfl rfl 6 (by decide) fl46 (fun _ h9 => h9) rfl (by decide +kernel) rfl rfl (Nat.le_of_ble_eq_true rfl) dX4_copyFrom_87 (fun H locs hP hD hS => ?_)
  have hP : va_P D vwCl [(at0, .inr (4, [.ref at1, .ref at2, .ref at3, .ref at4, .ref at5, .int O_drowned, .int O_count, .int T_course, .int T_told, .int T_z])), (at1, .inl (cy 0, 4, .inl (va_cpy O_laws T_laws (0 : Int32).toNatClampNeg (0 : Int32).toNatClampNeg (4 : Int32).toNatClampNeg))), (at2, .inl (cy 0, 8, .inl (va_cpy O_kind T_kind (0 : Int32).toNatClampNeg (0 : Int32).toNatClampNeg (8 : Int32).toNatClampNeg))), (at3, .inl (cy 0, 8, .inl (va_cpy O_holds T_holds (0 : Int32).toNatClampNeg (0 : Int32).toNatClampNeg (8 : Int32).toNatClampNeg))), (at4, .inl (cy 0, 8, .inl (va_cpy O_gone T_gone (0 : Int32).toNatClampNeg (0 : Int32).toNatClampNeg (8 : Int32).toNatClampNeg))), (at5, .inl (cy 0, 8, .inl (va_cpy O_tells T_tells (0 : Int32).toNatClampNeg (0 : Int32).toNatClampNeg (8 : Int32).toNatClampNeg))), (ao0, .inr (4, [.ref ao1, .ref ao2, .ref ao3, .ref ao4, .ref ao5, .int O_drowned, .int O_count, .int O_course, .int O_told, .int O_z])), (ao1, .inl (cy 0, 4, .inl O_laws)), (ao2, .inl (cy 0, 8, .inl O_kind)), (ao3, .inl (cy 0, 8, .inl O_holds)), (ao4, .inl (cy 0, 8, .inl O_gone)), (ao5, .inl (cy 0, 8, .inl O_tells))] H := hP
  have hD : va_D A [(at0, .inr (4, [.ref at1, .ref at2, .ref at3, .ref at4, .ref at5, .int O_drowned, .int O_count, .int T_course, .int T_told, .int T_z])), (at1, .inl (cy 0, 4, .inl (va_cpy O_laws T_laws (0 : Int32).toNatClampNeg (0 : Int32).toNatClampNeg (4 : Int32).toNatClampNeg))), (at2, .inl (cy 0, 8, .inl (va_cpy O_kind T_kind (0 : Int32).toNatClampNeg (0 : Int32).toNatClampNeg (8 : Int32).toNatClampNeg))), (at3, .inl (cy 0, 8, .inl (va_cpy O_holds T_holds (0 : Int32).toNatClampNeg (0 : Int32).toNatClampNeg (8 : Int32).toNatClampNeg))), (at4, .inl (cy 0, 8, .inl (va_cpy O_gone T_gone (0 : Int32).toNatClampNeg (0 : Int32).toNatClampNeg (8 : Int32).toNatClampNeg))), (at5, .inl (cy 0, 8, .inl (va_cpy O_tells T_tells (0 : Int32).toNatClampNeg (0 : Int32).toNatClampNeg (8 : Int32).toNatClampNeg))), (ao0, .inr (4, [.ref ao1, .ref ao2, .ref ao3, .ref ao4, .ref ao5, .int O_drowned, .int O_count, .int O_course, .int O_told, .int O_z])), (ao1, .inl (cy 0, 4, .inl O_laws)), (ao2, .inl (cy 0, 8, .inl O_kind)), (ao3, .inl (cy 0, 8, .inl O_holds)), (ao4, .inl (cy 0, 8, .inl O_gone)), (ao5, .inl (cy 0, 8, .inl O_tells))] := hD
  refine lv_aload_n hx hb dX4_copyFrom_90 rfl (lv_at hl 0 rfl) ?_
  refine lv_aload_n hx hb dX4_copyFrom_91 rfl (lv_at hl 1 rfl) ?_
  refine va_get (D := D) (ci := 4) (v := .int O_course) (C := RX4) (T := TX4) (N := 10) hx hb hts hin4 hown hK hP 6 rfl rfl 7 (by decide) fl49 (fun _ h9 => h9) rfl dX4_copyFrom_92 ?_
  refine va_put (D := D) (ci := 4) (v := .int O_course) (ty := .int) (C := RX4) (T := TX4) (N := 10) hx hb hts hin4 tyX4 tyX4_ok nmX4 hown hK hP hD hS 0 rfl rfl 7 (by decide) fl49 (fun _ h9 => h9) rfl (by decide +kernel) rfl rfl (Nat.le_of_ble_eq_true rfl) dX4_copyFrom_95 (fun H locs hP hD hS => ?_)
  have hP : va_P D vwCl [(at0, .inr (4, [.ref at1, .ref at2, .ref at3, .ref at4, .ref at5, .int O_drowned, .int O_count, .int O_course, .int T_told, .int T_z])), (at1, .inl (cy 0, 4, .inl (va_cpy O_laws T_laws (0 : Int32).toNatClampNeg (0 : Int32).toNatClampNeg (4 : Int32).toNatClampNeg))), (at2, .inl (cy 0, 8, .inl (va_cpy O_kind T_kind (0 : Int32).toNatClampNeg (0 : Int32).toNatClampNeg (8 : Int32).toNatClampNeg))), (at3, .inl (cy 0, 8, .inl (va_cpy O_holds T_holds (0 : Int32).toNatClampNeg (0 : Int32).toNatClampNeg (8 : Int32).toNatClampNeg))), (at4, .inl (cy 0, 8, .inl (va_cpy O_gone T_gone (0 : Int32).toNatClampNeg (0 : Int32).toNatClampNeg (8 : Int32).toNatClampNeg))), (at5, .inl (cy 0, 8, .inl (va_cpy O_tells T_tells (0 : Int32).toNatClampNeg (0 : Int32).toNatClampNeg (8 : Int32).toNatClampNeg))), (ao0, .inr (4, [.ref ao1, .ref ao2, .ref ao3, .ref ao4, .ref ao5, .int O_drowned, .int O_count, .int O_course, .int O_told, .int O_z])), (ao1, .inl (cy 0, 4, .inl O_laws)), (ao2, .inl (cy 0, 8, .inl O_kind)), (ao3, .inl (cy 0, 8, .inl O_holds)), (ao4, .inl (cy 0, 8, .inl O_gone)), (ao5, .inl (cy 0, 8, .inl O_tells))] H := hP
  have hD : va_D A [(at0, .inr (4, [.ref at1, .ref at2, .ref at3, .ref at4, .ref at5, .int O_drowned, .int O_count, .int O_course, .int T_told, .int T_z])), (at1, .inl (cy 0, 4, .inl (va_cpy O_laws T_laws (0 : Int32).toNatClampNeg (0 : Int32).toNatClampNeg (4 : Int32).toNatClampNeg))), (at2, .inl (cy 0, 8, .inl (va_cpy O_kind T_kind (0 : Int32).toNatClampNeg (0 : Int32).toNatClampNeg (8 : Int32).toNatClampNeg))), (at3, .inl (cy 0, 8, .inl (va_cpy O_holds T_holds (0 : Int32).toNatClampNeg (0 : Int32).toNatClampNeg (8 : Int32).toNatClampNeg))), (at4, .inl (cy 0, 8, .inl (va_cpy O_gone T_gone (0 : Int32).toNatClampNeg (0 : Int32).toNatClampNeg (8 : Int32).toNatClampNeg))), (at5, .inl (cy 0, 8, .inl (va_cpy O_tells T_tells (0 : Int32).toNatClampNeg (0 : Int32).toNatClampNeg (8 : Int32).toNatClampNeg))), (ao0, .inr (4, [.ref ao1, .ref ao2, .ref ao3, .ref ao4, .ref ao5, .int O_drowned, .int O_count, .int O_course, .int O_told, .int O_z])), (ao1, .inl (cy 0, 4, .inl O_laws)), (ao2, .inl (cy 0, 8, .inl O_kind)), (ao3, .inl (cy 0, 8, .inl O_holds)), (ao4, .inl (cy 0, 8, .inl O_gone)), (ao5, .inl (cy 0, 8, .inl O_tells))] := hD
  refine lv_aload_n hx hb dX4_copyFrom_98 rfl (lv_at hl 0 rfl) ?_
  refine lv_aload_n hx hb dX4_copyFrom_99 rfl (lv_at hl 1 rfl) ?_
  refine va_get (D := D) (ci := 4) (v := .int O_told) (C := RX4) (T := TX4) (N := 10) hx hb hts hin4 hown hK hP 6 rfl rfl 8 (by decide) fl52 (fun _ h9 => h9) rfl dX4_copyFrom_100 ?_
  refine va_put (D := D) (ci := 4) (v := .int O_told) (ty := .int) (C := RX4) (T := TX4) (N := 10) hx hb hts hin4 tyX4 tyX4_ok nmX4 hown hK hP hD hS 0 rfl rfl 8 (by decide) fl52 (fun _ h9 => h9) rfl (by decide +kernel) rfl rfl (Nat.le_of_ble_eq_true rfl) dX4_copyFrom_103 (fun H locs hP hD hS => ?_)
  have hP : va_P D vwCl [(at0, .inr (4, [.ref at1, .ref at2, .ref at3, .ref at4, .ref at5, .int O_drowned, .int O_count, .int O_course, .int O_told, .int T_z])), (at1, .inl (cy 0, 4, .inl (va_cpy O_laws T_laws (0 : Int32).toNatClampNeg (0 : Int32).toNatClampNeg (4 : Int32).toNatClampNeg))), (at2, .inl (cy 0, 8, .inl (va_cpy O_kind T_kind (0 : Int32).toNatClampNeg (0 : Int32).toNatClampNeg (8 : Int32).toNatClampNeg))), (at3, .inl (cy 0, 8, .inl (va_cpy O_holds T_holds (0 : Int32).toNatClampNeg (0 : Int32).toNatClampNeg (8 : Int32).toNatClampNeg))), (at4, .inl (cy 0, 8, .inl (va_cpy O_gone T_gone (0 : Int32).toNatClampNeg (0 : Int32).toNatClampNeg (8 : Int32).toNatClampNeg))), (at5, .inl (cy 0, 8, .inl (va_cpy O_tells T_tells (0 : Int32).toNatClampNeg (0 : Int32).toNatClampNeg (8 : Int32).toNatClampNeg))), (ao0, .inr (4, [.ref ao1, .ref ao2, .ref ao3, .ref ao4, .ref ao5, .int O_drowned, .int O_count, .int O_course, .int O_told, .int O_z])), (ao1, .inl (cy 0, 4, .inl O_laws)), (ao2, .inl (cy 0, 8, .inl O_kind)), (ao3, .inl (cy 0, 8, .inl O_holds)), (ao4, .inl (cy 0, 8, .inl O_gone)), (ao5, .inl (cy 0, 8, .inl O_tells))] H := hP
  have hD : va_D A [(at0, .inr (4, [.ref at1, .ref at2, .ref at3, .ref at4, .ref at5, .int O_drowned, .int O_count, .int O_course, .int O_told, .int T_z])), (at1, .inl (cy 0, 4, .inl (va_cpy O_laws T_laws (0 : Int32).toNatClampNeg (0 : Int32).toNatClampNeg (4 : Int32).toNatClampNeg))), (at2, .inl (cy 0, 8, .inl (va_cpy O_kind T_kind (0 : Int32).toNatClampNeg (0 : Int32).toNatClampNeg (8 : Int32).toNatClampNeg))), (at3, .inl (cy 0, 8, .inl (va_cpy O_holds T_holds (0 : Int32).toNatClampNeg (0 : Int32).toNatClampNeg (8 : Int32).toNatClampNeg))), (at4, .inl (cy 0, 8, .inl (va_cpy O_gone T_gone (0 : Int32).toNatClampNeg (0 : Int32).toNatClampNeg (8 : Int32).toNatClampNeg))), (at5, .inl (cy 0, 8, .inl (va_cpy O_tells T_tells (0 : Int32).toNatClampNeg (0 : Int32).toNatClampNeg (8 : Int32).toNatClampNeg))), (ao0, .inr (4, [.ref ao1, .ref ao2, .ref ao3, .ref ao4, .ref ao5, .int O_drowned, .int O_count, .int O_course, .int O_told, .int O_z])), (ao1, .inl (cy 0, 4, .inl O_laws)), (ao2, .inl (cy 0, 8, .inl O_kind)), (ao3, .inl (cy 0, 8, .inl O_holds)), (ao4, .inl (cy 0, 8, .inl O_gone)), (ao5, .inl (cy 0, 8, .inl O_tells))] := hD
  refine lv_aload_n hx hb dX4_copyFrom_106 rfl (lv_at hl 0 rfl) ?_
  refine lv_aload_n hx hb dX4_copyFrom_107 rfl (lv_at hl 1 rfl) ?_
  refine va_get (D := D) (ci := 4) (v := .int O_z) (C := RX4) (T := TX4) (N := 10) hx hb hts hin4 hown hK hP 6 rfl rfl 9 (by decide) fl27 (fun _ h9 => h9) rfl dX4_copyFrom_108 ?_
  refine va_put (D := D) (ci := 4) (v := .int O_z) (ty := .int) (C := RX4) (T := TX4) (N := 10) hx hb hts hin4 tyX4 tyX4_ok nmX4 hown hK hP hD hS 0 rfl rfl 9 (by decide) fl27 (fun _ h9 => h9) rfl (by decide +kernel) rfl rfl (Nat.le_of_ble_eq_true rfl) dX4_copyFrom_111 (fun H locs hP hD hS => ?_)
  have hP : va_P D vwCl [(at0, .inr (4, [.ref at1, .ref at2, .ref at3, .ref at4, .ref at5, .int O_drowned, .int O_count, .int O_course, .int O_told, .int O_z])), (at1, .inl (cy 0, 4, .inl (va_cpy O_laws T_laws (0 : Int32).toNatClampNeg (0 : Int32).toNatClampNeg (4 : Int32).toNatClampNeg))), (at2, .inl (cy 0, 8, .inl (va_cpy O_kind T_kind (0 : Int32).toNatClampNeg (0 : Int32).toNatClampNeg (8 : Int32).toNatClampNeg))), (at3, .inl (cy 0, 8, .inl (va_cpy O_holds T_holds (0 : Int32).toNatClampNeg (0 : Int32).toNatClampNeg (8 : Int32).toNatClampNeg))), (at4, .inl (cy 0, 8, .inl (va_cpy O_gone T_gone (0 : Int32).toNatClampNeg (0 : Int32).toNatClampNeg (8 : Int32).toNatClampNeg))), (at5, .inl (cy 0, 8, .inl (va_cpy O_tells T_tells (0 : Int32).toNatClampNeg (0 : Int32).toNatClampNeg (8 : Int32).toNatClampNeg))), (ao0, .inr (4, [.ref ao1, .ref ao2, .ref ao3, .ref ao4, .ref ao5, .int O_drowned, .int O_count, .int O_course, .int O_told, .int O_z])), (ao1, .inl (cy 0, 4, .inl O_laws)), (ao2, .inl (cy 0, 8, .inl O_kind)), (ao3, .inl (cy 0, 8, .inl O_holds)), (ao4, .inl (cy 0, 8, .inl O_gone)), (ao5, .inl (cy 0, 8, .inl O_tells))] H := hP
  have hD : va_D A [(at0, .inr (4, [.ref at1, .ref at2, .ref at3, .ref at4, .ref at5, .int O_drowned, .int O_count, .int O_course, .int O_told, .int O_z])), (at1, .inl (cy 0, 4, .inl (va_cpy O_laws T_laws (0 : Int32).toNatClampNeg (0 : Int32).toNatClampNeg (4 : Int32).toNatClampNeg))), (at2, .inl (cy 0, 8, .inl (va_cpy O_kind T_kind (0 : Int32).toNatClampNeg (0 : Int32).toNatClampNeg (8 : Int32).toNatClampNeg))), (at3, .inl (cy 0, 8, .inl (va_cpy O_holds T_holds (0 : Int32).toNatClampNeg (0 : Int32).toNatClampNeg (8 : Int32).toNatClampNeg))), (at4, .inl (cy 0, 8, .inl (va_cpy O_gone T_gone (0 : Int32).toNatClampNeg (0 : Int32).toNatClampNeg (8 : Int32).toNatClampNeg))), (at5, .inl (cy 0, 8, .inl (va_cpy O_tells T_tells (0 : Int32).toNatClampNeg (0 : Int32).toNatClampNeg (8 : Int32).toNatClampNeg))), (ao0, .inr (4, [.ref ao1, .ref ao2, .ref ao3, .ref ao4, .ref ao5, .int O_drowned, .int O_count, .int O_course, .int O_told, .int O_z])), (ao1, .inl (cy 0, 4, .inl O_laws)), (ao2, .inl (cy 0, 8, .inl O_kind)), (ao3, .inl (cy 0, 8, .inl O_holds)), (ao4, .inl (cy 0, 8, .inl O_gone)), (ao5, .inl (cy 0, 8, .inl O_tells))] := hD
  exact W.vret hx hb hr (fun t ht hW => hfin (va_cpy O_laws T_laws (0 : Int32).toNatClampNeg (0 : Int32).toNatClampNeg (4 : Int32).toNatClampNeg) (va_cpy O_kind T_kind (0 : Int32).toNatClampNeg (0 : Int32).toNatClampNeg (8 : Int32).toNatClampNeg) (va_cpy O_holds T_holds (0 : Int32).toNatClampNeg (0 : Int32).toNatClampNeg (8 : Int32).toNatClampNeg) (va_cpy O_gone T_gone (0 : Int32).toNatClampNeg (0 : Int32).toNatClampNeg (8 : Int32).toNatClampNeg) (va_cpy O_tells T_tells (0 : Int32).toNatClampNeg (0 : Int32).toNatClampNeg (8 : Int32).toNatClampNeg) O_drowned O_count O_course O_told O_z hf _ t ht hP (hS.F ht)) hS.2.2 dX4_copyFrom_114
set_option maxRecDepth 100000 in
set_option maxHeartbeats 100000000 in
theorem mX4_has (l : Launch) (D : va_G) (cy : Nat → ClassId) (st sk sv : Nat → Nat) (B : Nat) (at0 : Nat) (at1 : Nat) (at2 : Nat) (at3 : Nat) (at4 : Nat) (at5 : Nat) (n : Nat) (T_laws : (Nat → Int32)) (T_kind : (Nat → Int32)) (T_holds : (Nat → Int32)) (T_gone : (Nat → Int32)) (T_tells : (Nat → Int32)) (T_drowned : Int32) (T_count : Int32) (T_course : Int32) (T_told : Int32) (T_z : Int32) (x1 : Int32) (z : Int32) (hf : fX4_has n (T_laws, T_kind, T_holds, T_gone, T_tells, T_drowned, T_count, T_course, T_told, T_z) x1 = some z) : Met l yX4_has wsX4_has ({ frames := 1, cells := 0, slots := 0, locals := 22 }) (PcR [.ref at0, .int x1] D cy st sk sv B [(at0, .inr (4, [.ref at1, .ref at2, .ref at3, .ref at4, .ref at5, .int T_drowned, .int T_count, .int T_course, .int T_told, .int T_z])), (at1, .inl (cy 0, 4, .inl T_laws)), (at2, .inl (cy 0, 8, .inl T_kind)), (at3, .inl (cy 0, 8, .inl T_holds)), (at4, .inl (cy 0, 8, .inl T_gone)), (at5, .inl (cy 0, 8, .inl T_tells))]) (Qr (some (.int z))) 0 0 (fun _ => False) := by
  refine Met.ofW (cc := cX4_has) (maxL := 2) (ret := (some .boolean)) (by decide) rfl ?_
  intro p e s m args below meth c s₁ Bd hml hv
  obtain ⟨rfl, hP, hG⟩ := hv
  have hx := Bd.exec
  have hb := Bd.bytes
  have hr := Bd.returns
  have hts := atoms_spec (ws := wsX4_has) Bd.pre
  have hown : s.vm.findClass RX4 = some m.cls := findClass_of_methodNamed Bd.named
  have hlocks := Bd.notSynchronized
  have hK := hG.1
  have hS : va_S (fun q => B ≤ q) s.heap s.heap [] := va_S.rf
  have hAB : ∀ q, (fun q => B ≤ q) q → B ≤ q := fun _ h => h
  have hin4 : ∀ w ∈ u_ws RX4 TX4 10, w ∈ wsX4_has := by decide +kernel
  have fl46 := hts (.fieldLink RX4 46 "KinCutlery$Table" "count" "I") (by decide +kernel)
  have hl := lv_entry ([.ref at0, .int x1]) (n := 2) (Nat.le_of_ble_eq_true rfl)
  rw [lg_entry_eq]
  generalize (lg_sl ([.ref at0, .int x1]) ++ List.replicate (2 - (lg_sl ([.ref at0, .int x1])).length) Slot.unset).toArray = ls at hl ⊢
  have hl : lv_has ls 2 [(0, .ref at0), (1, .int x1)] := hl
  have hf : ((fX6_within n x1 (0 : Int32) (T_count - (1 : Int32))).bind fun r8 => if ¬ (r8 = 0 ∨ r8 = 1) then none else some r8) = some z := hf
  refine lv_iload_n hx hb dX4_has_0 rfl (lv_at hl 1 rfl) ?_
  refine lv_iconst (v := (0 : Int32)) hx hb dX4_has_1 (by decide) ?_
  refine lv_aload_n hx hb dX4_has_2 rfl (lv_at hl 0 rfl) ?_
  refine va_get (D := D) (ci := 4) (v := .int T_count) (C := RX4) (T := TX4) (N := 10) hx hb hts hin4 hown hK hP 0 rfl rfl 6 (by decide) fl46 (fun _ h9 => h9) rfl dX4_has_3 ?_
  refine lv_iconst (v := (1 : Int32)) hx hb dX4_has_6 (by decide) ?_
  refine lv_isub hx hb dX4_has_7 ?_
  obtain ⟨r8, hc8, hf⟩ := zb hf
  refine zsrN (o := some (.int r8)) (As := [.int x1, .int (0 : Int32), .int (T_count - (1 : Int32))]) (rest := []) (stk := [.int r8]) ⟨hx, hb, hml, hown, hts⟩ (mX6_within l D cy st sk sv B  n x1 (0 : Int32) (T_count - (1 : Int32)) r8 hc8) ⟨va_cnB 3 hts gX4_has_X6_within_n55 rfl rfl rfl hG.2.1.2.1 (hts (.initialized RX6) (by decide +kernel)) (by decide +kernel) ⟨Nat.le_of_ble_eq_true rfl, Nat.le_of_ble_eq_true rfl⟩, hts (.static yX6_within) (by decide +kernel), trivial⟩ hG hS hAB hP [] rfl rfl hl.1 rfl (Nat.le_of_ble_eq_true rfl) dX4_has_8 rfl ?_
  obtain ⟨h_11, hf⟩ := zg hf
  cases hf
  exact W.zret hx hb hr (nz_b h_11).1 (fun t ht hW => ⟨rfl, ht⟩) (fun q h => absurd h List.not_mem_nil) dX4_has_11
set_option maxRecDepth 100000 in
set_option maxHeartbeats 100000000 in
theorem mX4_everyone (l : Launch) (D : va_G) (cy : Nat → ClassId) (st sk sv : Nat → Nat) (B : Nat) (at0 : Nat) (at1 : Nat) (at2 : Nat) (at3 : Nat) (at4 : Nat) (at5 : Nat) (n : Nat) (T_laws : (Nat → Int32)) (T_kind : (Nat → Int32)) (T_holds : (Nat → Int32)) (T_gone : (Nat → Int32)) (T_tells : (Nat → Int32)) (T_drowned : Int32) (T_count : Int32) (T_course : Int32) (T_told : Int32) (T_z : Int32)  (z : Int32) (hf : fX4_everyone n (T_laws, T_kind, T_holds, T_gone, T_tells, T_drowned, T_count, T_course, T_told, T_z) = some z) : Met l yX4_everyone wsX4_everyone ({ frames := 0, cells := 0, slots := 0, locals := 0 }) (PcR [.ref at0] D cy st sk sv B [(at0, .inr (4, [.ref at1, .ref at2, .ref at3, .ref at4, .ref at5, .int T_drowned, .int T_count, .int T_course, .int T_told, .int T_z])), (at1, .inl (cy 0, 4, .inl T_laws)), (at2, .inl (cy 0, 8, .inl T_kind)), (at3, .inl (cy 0, 8, .inl T_holds)), (at4, .inl (cy 0, 8, .inl T_gone)), (at5, .inl (cy 0, 8, .inl T_tells))]) (Qr (some (.int z))) 0 0 (fun _ => False) := by
  refine Met.ofW (cc := cX4_everyone) (maxL := 1) (ret := (some .int)) (by decide) rfl ?_
  intro p e s m args below meth c s₁ Bd hml hv
  obtain ⟨rfl, hP, hG⟩ := hv
  have hx := Bd.exec
  have hb := Bd.bytes
  have hr := Bd.returns
  have hts := atoms_spec (ws := wsX4_everyone) Bd.pre
  have hown : s.vm.findClass RX4 = some m.cls := findClass_of_methodNamed Bd.named
  have hlocks := Bd.notSynchronized
  have hK := hG.1
  have hS : va_S (fun q => B ≤ q) s.heap s.heap [] := va_S.rf
  have hAB : ∀ q, (fun q => B ≤ q) q → B ≤ q := fun _ h => h
  have hin4 : ∀ w ∈ u_ws RX4 TX4 10, w ∈ wsX4_everyone := by decide +kernel
  have fl46 := hts (.fieldLink RX4 46 "KinCutlery$Table" "count" "I") (by decide +kernel)
  have hl := lv_entry ([.ref at0]) (n := 1) (Nat.le_of_ble_eq_true rfl)
  rw [lg_entry_eq]
  generalize (lg_sl ([.ref at0]) ++ List.replicate (1 - (lg_sl ([.ref at0])).length) Slot.unset).toArray = ls at hl ⊢
  have hl : lv_has ls 1 [(0, .ref at0)] := hl
  have hf : (some (((1 : Int32) <<< (T_count &&& 31)) - (1 : Int32))) = some z := hf
  refine lv_iconst (v := (1 : Int32)) hx hb dX4_everyone_0 (by decide) ?_
  refine lv_aload_n hx hb dX4_everyone_1 rfl (lv_at hl 0 rfl) ?_
  refine va_get (D := D) (ci := 4) (v := .int T_count) (C := RX4) (T := TX4) (N := 10) hx hb hts hin4 hown hK hP 0 rfl rfl 6 (by decide) fl46 (fun _ h9 => h9) rfl dX4_everyone_2 ?_
  refine lv_ishl hx hb dX4_everyone_5 ?_
  refine lv_iconst (v := (1 : Int32)) hx hb dX4_everyone_6 (by decide) ?_
  refine lv_isub hx hb dX4_everyone_7 ?_
  cases hf
  exact W.iret hx hb hr (fun t ht hW => ⟨rfl, ht⟩) (fun q h => absurd h List.not_mem_nil) dX4_everyone_8
set_option maxRecDepth 100000 in
set_option maxHeartbeats 100000000 in
theorem mX4_isDrowned (l : Launch) (D : va_G) (cy : Nat → ClassId) (st sk sv : Nat → Nat) (B : Nat) (at0 : Nat) (at1 : Nat) (at2 : Nat) (at3 : Nat) (at4 : Nat) (at5 : Nat) (n : Nat) (T_laws : (Nat → Int32)) (T_kind : (Nat → Int32)) (T_holds : (Nat → Int32)) (T_gone : (Nat → Int32)) (T_tells : (Nat → Int32)) (T_drowned : Int32) (T_count : Int32) (T_course : Int32) (T_told : Int32) (T_z : Int32) (x1 : Int32) (z : Int32) (hf : fX4_isDrowned n (T_laws, T_kind, T_holds, T_gone, T_tells, T_drowned, T_count, T_course, T_told, T_z) x1 = some z) : Met l yX4_isDrowned wsX4_isDrowned ({ frames := 0, cells := 0, slots := 0, locals := 0 }) (PcR [.ref at0, .int x1] D cy st sk sv B [(at0, .inr (4, [.ref at1, .ref at2, .ref at3, .ref at4, .ref at5, .int T_drowned, .int T_count, .int T_course, .int T_told, .int T_z])), (at1, .inl (cy 0, 4, .inl T_laws)), (at2, .inl (cy 0, 8, .inl T_kind)), (at3, .inl (cy 0, 8, .inl T_holds)), (at4, .inl (cy 0, 8, .inl T_gone)), (at5, .inl (cy 0, 8, .inl T_tells))]) (Qr (some (.int z))) 0 0 (fun _ => False) := by
  refine Met.ofW (cc := cX4_isDrowned) (maxL := 2) (ret := (some .boolean)) (by decide) rfl ?_
  intro p e s m args below meth c s₁ Bd hml hv
  obtain ⟨rfl, hP, hG⟩ := hv
  have hx := Bd.exec
  have hb := Bd.bytes
  have hr := Bd.returns
  have hts := atoms_spec (ws := wsX4_isDrowned) Bd.pre
  have hown : s.vm.findClass RX4 = some m.cls := findClass_of_methodNamed Bd.named
  have hlocks := Bd.notSynchronized
  have hK := hG.1
  have hS : va_S (fun q => B ≤ q) s.heap s.heap [] := va_S.rf
  have hAB : ∀ q, (fun q => B ≤ q) q → B ≤ q := fun _ h => h
  have hin4 : ∀ w ∈ u_ws RX4 TX4 10, w ∈ wsX4_isDrowned := by decide +kernel
  have fl43 := hts (.fieldLink RX4 43 "KinCutlery$Table" "drowned" "I") (by decide +kernel)
  have hl := lv_entry ([.ref at0, .int x1]) (n := 2) (Nat.le_of_ble_eq_true rfl)
  rw [lg_entry_eq]
  generalize (lg_sl ([.ref at0, .int x1]) ++ List.replicate (2 - (lg_sl ([.ref at0, .int x1])).length) Slot.unset).toArray = ls at hl ⊢
  have hl : lv_has ls 2 [(0, .ref at0), (1, .int x1)] := hl
  have hf : (if ((T_drowned >>> (x1 &&& 31)) &&& (1 : Int32)) = (1 : Int32) then (some (1 : Int32)) else (some (0 : Int32))) = some z := hf
  refine lv_aload_n hx hb dX4_isDrowned_0 rfl (lv_at hl 0 rfl) ?_
  refine va_get (D := D) (ci := 4) (v := .int T_drowned) (C := RX4) (T := TX4) (N := 10) hx hb hts hin4 hown hK hP 0 rfl rfl 5 (by decide) fl43 (fun _ h9 => h9) rfl dX4_isDrowned_1 ?_
  refine lv_iload_n hx hb dX4_isDrowned_4 rfl (lv_at hl 1 rfl) ?_
  refine lv_ishr hx hb dX4_isDrowned_5 ?_
  refine lv_iconst (v := (1 : Int32)) hx hb dX4_isDrowned_6 (by decide) ?_
  refine lv_iand hx hb dX4_isDrowned_7 ?_
  refine lv_iconst (v := (1 : Int32)) hx hb dX4_isDrowned_8 (by decide) ?_
  refine lv_icmp_ne (tgt := 16) hx hb dX4_isDrowned_9 (by decide) (fun c_9 => ?_) (fun c_9 => ?_)
  · have hf := zn hf c_9
    refine lv_iconst (v := (0 : Int32)) hx hb dX4_isDrowned_16 (by decide) ?_
    cases hf
    exact W.zret hx hb hr rfl (fun t ht hW => ⟨rfl, ht⟩) (fun q h => absurd h List.not_mem_nil) dX4_isDrowned_17
  · have hf := zp hf c_9
    refine lv_iconst (v := (1 : Int32)) hx hb dX4_isDrowned_12 (by decide) ?_
    refine lv_goto (tgt := 17) hx hb dX4_isDrowned_13 (by decide) ?_
    cases hf
    exact W.zret hx hb hr rfl (fun t ht hW => ⟨rfl, ht⟩) (fun q h => absurd h List.not_mem_nil) dX4_isDrowned_17
set_option maxRecDepth 100000 in
set_option maxHeartbeats 100000000 in
theorem mX4_drown (l : Launch) (D : va_G) (cy : Nat → ClassId) (st sk sv : Nat → Nat) (B : Nat) (at0 : Nat) (at1 : Nat) (at2 : Nat) (at3 : Nat) (at4 : Nat) (at5 : Nat) (sz : Nat) (n : Nat) (T_laws : (Nat → Int32)) (T_kind : (Nat → Int32)) (T_holds : (Nat → Int32)) (T_gone : (Nat → Int32)) (T_tells : (Nat → Int32)) (T_drowned : Int32) (T_count : Int32) (T_course : Int32) (T_told : Int32) (T_z : Int32) (x1 : Int32) (x2 : Int32) (z : TB) (hf : fX4_drown n (T_laws, T_kind, T_holds, T_gone, T_tells, T_drowned, T_count, T_course, T_told, T_z) x1 x2 = some z) : Met l yX4_drown wsX4_drown ({ frames := 0, cells := 0, slots := 0, locals := 0 }) (PcW [.ref at0, .int x1, .int x2] D cy st sk sv B sz [(at0, .inr (4, [.ref at1, .ref at2, .ref at3, .ref at4, .ref at5, .int T_drowned, .int T_count, .int T_course, .int T_told, .int T_z])), (at1, .inl (cy 0, 4, .inl T_laws)), (at2, .inl (cy 0, 8, .inl T_kind)), (at3, .inl (cy 0, 8, .inl T_holds)), (at4, .inl (cy 0, 8, .inl T_gone)), (at5, .inl (cy 0, 8, .inl T_tells))]) (Qw (none) D [(at0, .inr (4, [.ref at1, .ref at2, .ref at3, .ref at4, .ref at5, .int z.2.2.2.2.2.1, .int z.2.2.2.2.2.2.1, .int z.2.2.2.2.2.2.2.1, .int z.2.2.2.2.2.2.2.2.1, .int z.2.2.2.2.2.2.2.2.2])), (at1, .inl (cy 0, 4, .inl z.1)), (at2, .inl (cy 0, 8, .inl z.2.1)), (at3, .inl (cy 0, 8, .inl z.2.2.1)), (at4, .inl (cy 0, 8, .inl z.2.2.2.1)), (at5, .inl (cy 0, 8, .inl z.2.2.2.2.1))] (va_A [(at0, .inr (4, [.ref at1, .ref at2, .ref at3, .ref at4, .ref at5, .int T_drowned, .int T_count, .int T_course, .int T_told, .int T_z])), (at1, .inl (cy 0, 4, .inl T_laws)), (at2, .inl (cy 0, 8, .inl T_kind)), (at3, .inl (cy 0, 8, .inl T_holds)), (at4, .inl (cy 0, 8, .inl T_gone)), (at5, .inl (cy 0, 8, .inl T_tells))] sz)) 0 0 (va_A [(at0, .inr (4, [.ref at1, .ref at2, .ref at3, .ref at4, .ref at5, .int T_drowned, .int T_count, .int T_course, .int T_told, .int T_z])), (at1, .inl (cy 0, 4, .inl T_laws)), (at2, .inl (cy 0, 8, .inl T_kind)), (at3, .inl (cy 0, 8, .inl T_holds)), (at4, .inl (cy 0, 8, .inl T_gone)), (at5, .inl (cy 0, 8, .inl T_tells))] sz) := by
  refine Met.ofW (cc := cX4_drown) (maxL := 3) (ret := none) (by decide) rfl ?_
  intro p e s m args below meth c s₁ Bd hml hv
  obtain ⟨rfl, hsz, hP, hD0, hBs, hG⟩ := hv
  have hx := Bd.exec
  have hb := Bd.bytes
  have hr := Bd.returns
  have hts := atoms_spec (ws := wsX4_drown) Bd.pre
  have hown : s.vm.findClass RX4 = some m.cls := findClass_of_methodNamed Bd.named
  have hlocks := Bd.notSynchronized
  have hK := hG.1
  subst hsz
  have hD := hD0.self (sz := s.heap.size)
  have hAB0 := zA hD0 hBs
  generalize hAe : va_A [(at0, .inr (4, [.ref at1, .ref at2, .ref at3, .ref at4, .ref at5, .int T_drowned, .int T_count, .int T_course, .int T_told, .int T_z])), (at1, .inl (cy 0, 4, .inl T_laws)), (at2, .inl (cy 0, 8, .inl T_kind)), (at3, .inl (cy 0, 8, .inl T_holds)), (at4, .inl (cy 0, 8, .inl T_gone)), (at5, .inl (cy 0, 8, .inl T_tells))] s.heap.size = A at hD hAB0 ⊢
  have hA : ∀ q : Nat, s.heap.size ≤ q → A q := fun q h => by rw [← hAe]; exact Or.inr h
  have hAB : ∀ q, A q → B ≤ q := hAB0
  have hS : va_S A s.heap s.heap [] := va_S.rf
  have hfin : ∀ (T_laws : (Nat → Int32)) (T_kind : (Nat → Int32)) (T_holds : (Nat → Int32)) (T_gone : (Nat → Int32)) (T_tells : (Nat → Int32)) (T_drowned : Int32) (T_count : Int32) (T_course : Int32) (T_told : Int32) (T_z : Int32), some (T_laws, T_kind, T_holds, T_gone, T_tells, T_drowned, T_count, T_course, T_told, T_z) = some z → ∀ (H : Heap) (t : State), t.heap = H → va_P D vwCl [(at0, .inr (4, [.ref at1, .ref at2, .ref at3, .ref at4, .ref at5, .int T_drowned, .int T_count, .int T_course, .int T_told, .int T_z])), (at1, .inl (cy 0, 4, .inl T_laws)), (at2, .inl (cy 0, 8, .inl T_kind)), (at3, .inl (cy 0, 8, .inl T_holds)), (at4, .inl (cy 0, 8, .inl T_gone)), (at5, .inl (cy 0, 8, .inl T_tells))] H → va_F A s t → Qw (none) D [(at0, .inr (4, [.ref at1, .ref at2, .ref at3, .ref at4, .ref at5, .int z.2.2.2.2.2.1, .int z.2.2.2.2.2.2.1, .int z.2.2.2.2.2.2.2.1, .int z.2.2.2.2.2.2.2.2.1, .int z.2.2.2.2.2.2.2.2.2])), (at1, .inl (cy 0, 4, .inl z.1)), (at2, .inl (cy 0, 8, .inl z.2.1)), (at3, .inl (cy 0, 8, .inl z.2.2.1)), (at4, .inl (cy 0, 8, .inl z.2.2.2.1)), (at5, .inl (cy 0, 8, .inl z.2.2.2.2.1))] A ([.ref at0, .int x1, .int x2] : List Value).toArray s (.returned (none)) t := by
    intro T_laws T_kind T_holds T_gone T_tells T_drowned T_count T_course T_told T_z h9 H t ht hP hF
    cases h9
    exact ⟨rfl, by rw [ht]; exact hP, hF⟩
  have hin4 : ∀ w ∈ u_ws RX4 TX4 10, w ∈ wsX4_drown := by decide +kernel
  have fl43 := hts (.fieldLink RX4 43 "KinCutlery$Table" "drowned" "I") (by decide +kernel)
  have hl := lv_entry ([.ref at0, .int x1, .int x2]) (n := 3) (Nat.le_of_ble_eq_true rfl)
  rw [lg_entry_eq]
  generalize (lg_sl ([.ref at0, .int x1, .int x2]) ++ List.replicate (3 - (lg_sl ([.ref at0, .int x1, .int x2])).length) Slot.unset).toArray = ls at hl ⊢
  have hl : lv_has ls 3 [(0, .ref at0), (1, .int x1), (2, .int x2)] := hl
  have hf : (if x2 = 0 then (some (T_laws, T_kind, T_holds, T_gone, T_tells, (T_drowned &&& (((1 : Int32) <<< (x1 &&& 31)) ^^^ (-1 : Int32))), T_count, T_course, T_told, T_z)) else (some (T_laws, T_kind, T_holds, T_gone, T_tells, (T_drowned ||| ((1 : Int32) <<< (x1 &&& 31))), T_count, T_course, T_told, T_z))) = some z := hf
  refine lv_aload_n hx hb dX4_drown_0 rfl (lv_at hl 0 rfl) ?_
  refine lv_iload_n hx hb dX4_drown_1 rfl (lv_at hl 2 rfl) ?_
  refine lv_if_eq (tgt := 16) hx hb dX4_drown_2 (by decide) (fun c_2 => ?_) (fun c_2 => ?_)
  · have hf := zp hf c_2
    refine lv_aload_n hx hb dX4_drown_16 rfl (lv_at hl 0 rfl) ?_
    refine va_get (D := D) (ci := 4) (v := .int T_drowned) (C := RX4) (T := TX4) (N := 10) hx hb hts hin4 hown hK hP 0 rfl rfl 5 (by decide) fl43 (fun _ h9 => h9) rfl dX4_drown_17 ?_
    refine lv_iconst (v := (1 : Int32)) hx hb dX4_drown_20 (by decide) ?_
    refine lv_iload_n hx hb dX4_drown_21 rfl (lv_at hl 1 rfl) ?_
    refine lv_ishl hx hb dX4_drown_22 ?_
    refine lv_iconst (v := (-1 : Int32)) hx hb dX4_drown_23 (by decide) ?_
    refine lv_ixor hx hb dX4_drown_24 ?_
    refine lv_iand hx hb dX4_drown_25 ?_
    refine va_put (D := D) (ci := 4) (v := .int (T_drowned &&& (((1 : Int32) <<< (x1 &&& 31)) ^^^ (-1 : Int32)))) (ty := .int) (C := RX4) (T := TX4) (N := 10) hx hb hts hin4 tyX4 tyX4_ok nmX4 hown hK hP hD hS 0 rfl rfl 5 (by decide) fl43 (fun _ h9 => h9) rfl (by decide +kernel) rfl rfl (Nat.le_of_ble_eq_true rfl) dX4_drown_26 (fun H locs hP hD hS => ?_)
    have hP : va_P D vwCl [(at0, .inr (4, [.ref at1, .ref at2, .ref at3, .ref at4, .ref at5, .int (T_drowned &&& (((1 : Int32) <<< (x1 &&& 31)) ^^^ (-1 : Int32))), .int T_count, .int T_course, .int T_told, .int T_z])), (at1, .inl (cy 0, 4, .inl T_laws)), (at2, .inl (cy 0, 8, .inl T_kind)), (at3, .inl (cy 0, 8, .inl T_holds)), (at4, .inl (cy 0, 8, .inl T_gone)), (at5, .inl (cy 0, 8, .inl T_tells))] H := hP
    have hD : va_D A [(at0, .inr (4, [.ref at1, .ref at2, .ref at3, .ref at4, .ref at5, .int (T_drowned &&& (((1 : Int32) <<< (x1 &&& 31)) ^^^ (-1 : Int32))), .int T_count, .int T_course, .int T_told, .int T_z])), (at1, .inl (cy 0, 4, .inl T_laws)), (at2, .inl (cy 0, 8, .inl T_kind)), (at3, .inl (cy 0, 8, .inl T_holds)), (at4, .inl (cy 0, 8, .inl T_gone)), (at5, .inl (cy 0, 8, .inl T_tells))] := hD
    exact W.vret hx hb hr (fun t ht hW => hfin T_laws T_kind T_holds T_gone T_tells (T_drowned &&& (((1 : Int32) <<< (x1 &&& 31)) ^^^ (-1 : Int32))) T_count T_course T_told T_z hf _ t ht hP (hS.F ht)) hS.2.2 dX4_drown_29
  · have hf := zn hf c_2
    refine lv_aload_n hx hb dX4_drown_5 rfl (lv_at hl 0 rfl) ?_
    refine va_get (D := D) (ci := 4) (v := .int T_drowned) (C := RX4) (T := TX4) (N := 10) hx hb hts hin4 hown hK hP 0 rfl rfl 5 (by decide) fl43 (fun _ h9 => h9) rfl dX4_drown_6 ?_
    refine lv_iconst (v := (1 : Int32)) hx hb dX4_drown_9 (by decide) ?_
    refine lv_iload_n hx hb dX4_drown_10 rfl (lv_at hl 1 rfl) ?_
    refine lv_ishl hx hb dX4_drown_11 ?_
    refine lv_ior hx hb dX4_drown_12 ?_
    refine lv_goto (tgt := 26) hx hb dX4_drown_13 (by decide) ?_
    refine va_put (D := D) (ci := 4) (v := .int (T_drowned ||| ((1 : Int32) <<< (x1 &&& 31)))) (ty := .int) (C := RX4) (T := TX4) (N := 10) hx hb hts hin4 tyX4 tyX4_ok nmX4 hown hK hP hD hS 0 rfl rfl 5 (by decide) fl43 (fun _ h9 => h9) rfl (by decide +kernel) rfl rfl (Nat.le_of_ble_eq_true rfl) dX4_drown_26 (fun H locs hP hD hS => ?_)
    have hP : va_P D vwCl [(at0, .inr (4, [.ref at1, .ref at2, .ref at3, .ref at4, .ref at5, .int (T_drowned ||| ((1 : Int32) <<< (x1 &&& 31))), .int T_count, .int T_course, .int T_told, .int T_z])), (at1, .inl (cy 0, 4, .inl T_laws)), (at2, .inl (cy 0, 8, .inl T_kind)), (at3, .inl (cy 0, 8, .inl T_holds)), (at4, .inl (cy 0, 8, .inl T_gone)), (at5, .inl (cy 0, 8, .inl T_tells))] H := hP
    have hD : va_D A [(at0, .inr (4, [.ref at1, .ref at2, .ref at3, .ref at4, .ref at5, .int (T_drowned ||| ((1 : Int32) <<< (x1 &&& 31))), .int T_count, .int T_course, .int T_told, .int T_z])), (at1, .inl (cy 0, 4, .inl T_laws)), (at2, .inl (cy 0, 8, .inl T_kind)), (at3, .inl (cy 0, 8, .inl T_holds)), (at4, .inl (cy 0, 8, .inl T_gone)), (at5, .inl (cy 0, 8, .inl T_tells))] := hD
    exact W.vret hx hb hr (fun t ht hW => hfin T_laws T_kind T_holds T_gone T_tells (T_drowned ||| ((1 : Int32) <<< (x1 &&& 31))) T_count T_course T_told T_z hf _ t ht hP (hS.F ht)) hS.2.2 dX4_drown_29
set_option maxRecDepth 100000 in
set_option maxHeartbeats 100000000 in
theorem mX4_seat (l : Launch) (D : va_G) (cy : Nat → ClassId) (st sk sv : Nat → Nat) (B : Nat) (at0 : Nat) (at1 : Nat) (at2 : Nat) (at3 : Nat) (at4 : Nat) (at5 : Nat) (sz : Nat) (n : Nat) (T_laws : (Nat → Int32)) (T_kind : (Nat → Int32)) (T_holds : (Nat → Int32)) (T_gone : (Nat → Int32)) (T_tells : (Nat → Int32)) (T_drowned : Int32) (T_count : Int32) (T_course : Int32) (T_told : Int32) (T_z : Int32) (x1 : Int32) (x2 : Int32) (z : Int32 × TB) (hf : fX4_seat n (T_laws, T_kind, T_holds, T_gone, T_tells, T_drowned, T_count, T_course, T_told, T_z) x1 x2 = some z) : Met l yX4_seat wsX4_seat ({ frames := 1, cells := 0, slots := 0, locals := 22 }) (PcW [.ref at0, .int x1, .int x2] D cy st sk sv B sz [(at0, .inr (4, [.ref at1, .ref at2, .ref at3, .ref at4, .ref at5, .int T_drowned, .int T_count, .int T_course, .int T_told, .int T_z])), (at1, .inl (cy 0, 4, .inl T_laws)), (at2, .inl (cy 0, 8, .inl T_kind)), (at3, .inl (cy 0, 8, .inl T_holds)), (at4, .inl (cy 0, 8, .inl T_gone)), (at5, .inl (cy 0, 8, .inl T_tells))]) (Qw (some (.int z.1)) D [(at0, .inr (4, [.ref at1, .ref at2, .ref at3, .ref at4, .ref at5, .int z.2.2.2.2.2.2.1, .int z.2.2.2.2.2.2.2.1, .int z.2.2.2.2.2.2.2.2.1, .int z.2.2.2.2.2.2.2.2.2.1, .int z.2.2.2.2.2.2.2.2.2.2])), (at1, .inl (cy 0, 4, .inl z.2.1)), (at2, .inl (cy 0, 8, .inl z.2.2.1)), (at3, .inl (cy 0, 8, .inl z.2.2.2.1)), (at4, .inl (cy 0, 8, .inl z.2.2.2.2.1)), (at5, .inl (cy 0, 8, .inl z.2.2.2.2.2.1))] (va_A [(at0, .inr (4, [.ref at1, .ref at2, .ref at3, .ref at4, .ref at5, .int T_drowned, .int T_count, .int T_course, .int T_told, .int T_z])), (at1, .inl (cy 0, 4, .inl T_laws)), (at2, .inl (cy 0, 8, .inl T_kind)), (at3, .inl (cy 0, 8, .inl T_holds)), (at4, .inl (cy 0, 8, .inl T_gone)), (at5, .inl (cy 0, 8, .inl T_tells))] sz)) 0 0 (va_A [(at0, .inr (4, [.ref at1, .ref at2, .ref at3, .ref at4, .ref at5, .int T_drowned, .int T_count, .int T_course, .int T_told, .int T_z])), (at1, .inl (cy 0, 4, .inl T_laws)), (at2, .inl (cy 0, 8, .inl T_kind)), (at3, .inl (cy 0, 8, .inl T_holds)), (at4, .inl (cy 0, 8, .inl T_gone)), (at5, .inl (cy 0, 8, .inl T_tells))] sz) := by
  refine Met.ofW (cc := cX4_seat) (maxL := 4) (ret := (some .int)) (by decide) rfl ?_
  intro p e s m args below meth c s₁ Bd hml hv
  obtain ⟨rfl, hsz, hP, hD0, hBs, hG⟩ := hv
  have hx := Bd.exec
  have hb := Bd.bytes
  have hr := Bd.returns
  have hts := atoms_spec (ws := wsX4_seat) Bd.pre
  have hown : s.vm.findClass RX4 = some m.cls := findClass_of_methodNamed Bd.named
  have hlocks := Bd.notSynchronized
  have hK := hG.1
  subst hsz
  have hD := hD0.self (sz := s.heap.size)
  have hAB0 := zA hD0 hBs
  generalize hAe : va_A [(at0, .inr (4, [.ref at1, .ref at2, .ref at3, .ref at4, .ref at5, .int T_drowned, .int T_count, .int T_course, .int T_told, .int T_z])), (at1, .inl (cy 0, 4, .inl T_laws)), (at2, .inl (cy 0, 8, .inl T_kind)), (at3, .inl (cy 0, 8, .inl T_holds)), (at4, .inl (cy 0, 8, .inl T_gone)), (at5, .inl (cy 0, 8, .inl T_tells))] s.heap.size = A at hD hAB0 ⊢
  have hA : ∀ q : Nat, s.heap.size ≤ q → A q := fun q h => by rw [← hAe]; exact Or.inr h
  have hAB : ∀ q, A q → B ≤ q := hAB0
  have hS : va_S A s.heap s.heap [] := va_S.rf
  have hfin : ∀ (z0 : Int32) (T_laws : (Nat → Int32)) (T_kind : (Nat → Int32)) (T_holds : (Nat → Int32)) (T_gone : (Nat → Int32)) (T_tells : (Nat → Int32)) (T_drowned : Int32) (T_count : Int32) (T_course : Int32) (T_told : Int32) (T_z : Int32), some (z0, (T_laws, T_kind, T_holds, T_gone, T_tells, T_drowned, T_count, T_course, T_told, T_z)) = some z → ∀ (H : Heap) (t : State), t.heap = H → va_P D vwCl [(at0, .inr (4, [.ref at1, .ref at2, .ref at3, .ref at4, .ref at5, .int T_drowned, .int T_count, .int T_course, .int T_told, .int T_z])), (at1, .inl (cy 0, 4, .inl T_laws)), (at2, .inl (cy 0, 8, .inl T_kind)), (at3, .inl (cy 0, 8, .inl T_holds)), (at4, .inl (cy 0, 8, .inl T_gone)), (at5, .inl (cy 0, 8, .inl T_tells))] H → va_F A s t → Qw (some (.int z.1)) D [(at0, .inr (4, [.ref at1, .ref at2, .ref at3, .ref at4, .ref at5, .int z.2.2.2.2.2.2.1, .int z.2.2.2.2.2.2.2.1, .int z.2.2.2.2.2.2.2.2.1, .int z.2.2.2.2.2.2.2.2.2.1, .int z.2.2.2.2.2.2.2.2.2.2])), (at1, .inl (cy 0, 4, .inl z.2.1)), (at2, .inl (cy 0, 8, .inl z.2.2.1)), (at3, .inl (cy 0, 8, .inl z.2.2.2.1)), (at4, .inl (cy 0, 8, .inl z.2.2.2.2.1)), (at5, .inl (cy 0, 8, .inl z.2.2.2.2.2.1))] A ([.ref at0, .int x1, .int x2] : List Value).toArray s (.returned (some (.int z0))) t := by
    intro z0 T_laws T_kind T_holds T_gone T_tells T_drowned T_count T_course T_told T_z h9 H t ht hP hF
    cases h9
    exact ⟨rfl, by rw [ht]; exact hP, hF⟩
  have hin4 : ∀ w ∈ u_ws RX4 TX4 10, w ∈ wsX4_seat := by decide +kernel
  have fl15 := hts (.fieldLink RX4 15 "KinCutlery$Table" "kind" "[I") (by decide +kernel)
  have fl18 := hts (.fieldLink RX4 18 "KinCutlery$Table" "holds" "[I") (by decide +kernel)
  have fl21 := hts (.fieldLink RX4 21 "KinCutlery$Table" "gone" "[I") (by decide +kernel)
  have fl24 := hts (.fieldLink RX4 24 "KinCutlery$Table" "tells" "[I") (by decide +kernel)
  have fl46 := hts (.fieldLink RX4 46 "KinCutlery$Table" "count" "I") (by decide +kernel)
  have hl := lv_entry ([.ref at0, .int x1, .int x2]) (n := 4) (Nat.le_of_ble_eq_true rfl)
  rw [lg_entry_eq]
  generalize (lg_sl ([.ref at0, .int x1, .int x2]) ++ List.replicate (4 - (lg_sl ([.ref at0, .int x1, .int x2])).length) Slot.unset).toArray = ls at hl ⊢
  have hl : lv_has ls 4 [(0, .ref at0), (1, .int x1), (2, .int x2)] := hl
  have hf : (if T_count < 0 ∨ 8 ≤ T_count.toNatClampNeg then none else if T_count < 0 ∨ 8 ≤ T_count.toNatClampNeg then none else if T_count < 0 ∨ 8 ≤ T_count.toNatClampNeg then none else if T_count < 0 ∨ 8 ≤ T_count.toNatClampNeg then none else (fX4_drown n (T_laws, (upd T_kind T_count.toNatClampNeg x1), (upd T_holds T_count.toNatClampNeg x2), (upd T_gone T_count.toNatClampNeg (0 : Int32)), (upd T_tells T_count.toNatClampNeg (0 : Int32)), T_drowned, T_count, T_course, T_told, T_z) T_count (0 : Int32)).bind fun r36 => some (T_count, (r36.1, r36.2.1, r36.2.2.1, r36.2.2.2.1, r36.2.2.2.2.1, r36.2.2.2.2.2.1, (r36.2.2.2.2.2.2.1 + (1 : Int32)), r36.2.2.2.2.2.2.2.1, r36.2.2.2.2.2.2.2.2.1, r36.2.2.2.2.2.2.2.2.2))) = some z := hf
  refine lv_aload_n hx hb dX4_seat_0 rfl (lv_at hl 0 rfl) ?_
  refine va_get (D := D) (ci := 4) (v := .int T_count) (C := RX4) (T := TX4) (N := 10) hx hb hts hin4 hown hK hP 0 rfl rfl 6 (by decide) fl46 (fun _ h9 => h9) rfl dX4_seat_1 ?_
  refine lv_istore_n (lv' := [(3, .int T_count), (0, .ref at0), (1, .int x1), (2, .int x2)]) hx hb dX4_seat_4 rfl hl (by decide) rfl (fun ls hl => ?_)
  refine lv_aload_n hx hb dX4_seat_5 rfl (lv_at hl 1 rfl) ?_
  refine va_get (D := D) (ci := 4) (v := .ref at2) (C := RX4) (T := TX4) (N := 10) hx hb hts hin4 hown hK hP 0 rfl rfl 1 (by decide) fl15 (fun _ h9 => h9) rfl dX4_seat_6 ?_
  refine lv_iload_n hx hb dX4_seat_9 rfl (lv_at hl 0 rfl) ?_
  refine lv_iload_n hx hb dX4_seat_10 rfl (lv_at hl 2 rfl) ?_
  obtain ⟨h_11, hf⟩ := zg hf
  refine va_iast hx hb hK hP hD hS 2 0 rfl rfl h_11 dX4_seat_11 (fun H locs hP hD hS => ?_)
  have hP : va_P D vwCl [(at0, .inr (4, [.ref at1, .ref at2, .ref at3, .ref at4, .ref at5, .int T_drowned, .int T_count, .int T_course, .int T_told, .int T_z])), (at1, .inl (cy 0, 4, .inl T_laws)), (at2, .inl (cy 0, 8, .inl (upd T_kind T_count.toNatClampNeg x1))), (at3, .inl (cy 0, 8, .inl T_holds)), (at4, .inl (cy 0, 8, .inl T_gone)), (at5, .inl (cy 0, 8, .inl T_tells))] H := hP
  have hD : va_D A [(at0, .inr (4, [.ref at1, .ref at2, .ref at3, .ref at4, .ref at5, .int T_drowned, .int T_count, .int T_course, .int T_told, .int T_z])), (at1, .inl (cy 0, 4, .inl T_laws)), (at2, .inl (cy 0, 8, .inl (upd T_kind T_count.toNatClampNeg x1))), (at3, .inl (cy 0, 8, .inl T_holds)), (at4, .inl (cy 0, 8, .inl T_gone)), (at5, .inl (cy 0, 8, .inl T_tells))] := hD
  refine lv_aload_n hx hb dX4_seat_12 rfl (lv_at hl 1 rfl) ?_
  refine va_get (D := D) (ci := 4) (v := .ref at3) (C := RX4) (T := TX4) (N := 10) hx hb hts hin4 hown hK hP 0 rfl rfl 2 (by decide) fl18 (fun _ h9 => h9) rfl dX4_seat_13 ?_
  refine lv_iload_n hx hb dX4_seat_16 rfl (lv_at hl 0 rfl) ?_
  refine lv_iload_n hx hb dX4_seat_17 rfl (lv_at hl 3 rfl) ?_
  obtain ⟨h_18, hf⟩ := zg hf
  refine va_iast hx hb hK hP hD hS 3 0 rfl rfl h_18 dX4_seat_18 (fun H locs hP hD hS => ?_)
  have hP : va_P D vwCl [(at0, .inr (4, [.ref at1, .ref at2, .ref at3, .ref at4, .ref at5, .int T_drowned, .int T_count, .int T_course, .int T_told, .int T_z])), (at1, .inl (cy 0, 4, .inl T_laws)), (at2, .inl (cy 0, 8, .inl (upd T_kind T_count.toNatClampNeg x1))), (at3, .inl (cy 0, 8, .inl (upd T_holds T_count.toNatClampNeg x2))), (at4, .inl (cy 0, 8, .inl T_gone)), (at5, .inl (cy 0, 8, .inl T_tells))] H := hP
  have hD : va_D A [(at0, .inr (4, [.ref at1, .ref at2, .ref at3, .ref at4, .ref at5, .int T_drowned, .int T_count, .int T_course, .int T_told, .int T_z])), (at1, .inl (cy 0, 4, .inl T_laws)), (at2, .inl (cy 0, 8, .inl (upd T_kind T_count.toNatClampNeg x1))), (at3, .inl (cy 0, 8, .inl (upd T_holds T_count.toNatClampNeg x2))), (at4, .inl (cy 0, 8, .inl T_gone)), (at5, .inl (cy 0, 8, .inl T_tells))] := hD
  refine lv_aload_n hx hb dX4_seat_19 rfl (lv_at hl 1 rfl) ?_
  refine va_get (D := D) (ci := 4) (v := .ref at4) (C := RX4) (T := TX4) (N := 10) hx hb hts hin4 hown hK hP 0 rfl rfl 3 (by decide) fl21 (fun _ h9 => h9) rfl dX4_seat_20 ?_
  refine lv_iload_n hx hb dX4_seat_23 rfl (lv_at hl 0 rfl) ?_
  refine lv_iconst (v := (0 : Int32)) hx hb dX4_seat_24 (by decide) ?_
  obtain ⟨h_25, hf⟩ := zg hf
  refine va_iast hx hb hK hP hD hS 4 0 rfl rfl h_25 dX4_seat_25 (fun H locs hP hD hS => ?_)
  have hP : va_P D vwCl [(at0, .inr (4, [.ref at1, .ref at2, .ref at3, .ref at4, .ref at5, .int T_drowned, .int T_count, .int T_course, .int T_told, .int T_z])), (at1, .inl (cy 0, 4, .inl T_laws)), (at2, .inl (cy 0, 8, .inl (upd T_kind T_count.toNatClampNeg x1))), (at3, .inl (cy 0, 8, .inl (upd T_holds T_count.toNatClampNeg x2))), (at4, .inl (cy 0, 8, .inl (upd T_gone T_count.toNatClampNeg (0 : Int32)))), (at5, .inl (cy 0, 8, .inl T_tells))] H := hP
  have hD : va_D A [(at0, .inr (4, [.ref at1, .ref at2, .ref at3, .ref at4, .ref at5, .int T_drowned, .int T_count, .int T_course, .int T_told, .int T_z])), (at1, .inl (cy 0, 4, .inl T_laws)), (at2, .inl (cy 0, 8, .inl (upd T_kind T_count.toNatClampNeg x1))), (at3, .inl (cy 0, 8, .inl (upd T_holds T_count.toNatClampNeg x2))), (at4, .inl (cy 0, 8, .inl (upd T_gone T_count.toNatClampNeg (0 : Int32)))), (at5, .inl (cy 0, 8, .inl T_tells))] := hD
  refine lv_aload_n hx hb dX4_seat_26 rfl (lv_at hl 1 rfl) ?_
  refine va_get (D := D) (ci := 4) (v := .ref at5) (C := RX4) (T := TX4) (N := 10) hx hb hts hin4 hown hK hP 0 rfl rfl 4 (by decide) fl24 (fun _ h9 => h9) rfl dX4_seat_27 ?_
  refine lv_iload_n hx hb dX4_seat_30 rfl (lv_at hl 0 rfl) ?_
  refine lv_iconst (v := (0 : Int32)) hx hb dX4_seat_31 (by decide) ?_
  obtain ⟨h_32, hf⟩ := zg hf
  refine va_iast hx hb hK hP hD hS 5 0 rfl rfl h_32 dX4_seat_32 (fun H locs hP hD hS => ?_)
  have hP : va_P D vwCl [(at0, .inr (4, [.ref at1, .ref at2, .ref at3, .ref at4, .ref at5, .int T_drowned, .int T_count, .int T_course, .int T_told, .int T_z])), (at1, .inl (cy 0, 4, .inl T_laws)), (at2, .inl (cy 0, 8, .inl (upd T_kind T_count.toNatClampNeg x1))), (at3, .inl (cy 0, 8, .inl (upd T_holds T_count.toNatClampNeg x2))), (at4, .inl (cy 0, 8, .inl (upd T_gone T_count.toNatClampNeg (0 : Int32)))), (at5, .inl (cy 0, 8, .inl (upd T_tells T_count.toNatClampNeg (0 : Int32))))] H := hP
  have hD : va_D A [(at0, .inr (4, [.ref at1, .ref at2, .ref at3, .ref at4, .ref at5, .int T_drowned, .int T_count, .int T_course, .int T_told, .int T_z])), (at1, .inl (cy 0, 4, .inl T_laws)), (at2, .inl (cy 0, 8, .inl (upd T_kind T_count.toNatClampNeg x1))), (at3, .inl (cy 0, 8, .inl (upd T_holds T_count.toNatClampNeg x2))), (at4, .inl (cy 0, 8, .inl (upd T_gone T_count.toNatClampNeg (0 : Int32)))), (at5, .inl (cy 0, 8, .inl (upd T_tells T_count.toNatClampNeg (0 : Int32))))] := hD
  refine lv_aload_n hx hb dX4_seat_33 rfl (lv_at hl 1 rfl) ?_
  refine lv_iload_n hx hb dX4_seat_34 rfl (lv_at hl 0 rfl) ?_
  refine lv_iconst (v := (0 : Int32)) hx hb dX4_seat_35 (by decide) ?_
  obtain ⟨r36, hc36, hf⟩ := zb hf
  refine zvw (o := none) (As := [.int T_count, .int (0 : Int32)]) (rest := []) (stk := []) ⟨hx, hb, hml, hown, hts⟩ (mX4_drown l D cy st sk sv B at0 at1 at2 at3 at4 at5 _ n T_laws (upd T_kind T_count.toNatClampNeg x1) (upd T_holds T_count.toNatClampNeg x2) (upd T_gone T_count.toNatClampNeg (0 : Int32)) (upd T_tells T_count.toNatClampNeg (0 : Int32)) T_drowned T_count T_course T_told T_z T_count (0 : Int32) r36 hc36) (cwV 2 hts gX4_seat_X4_drown rfl rfl rfl (by decide +kernel) ⟨Nat.le_of_ble_eq_true rfl, Nat.le_of_ble_eq_true rfl⟩) hG hS hAB hA hP hD [0, 1, 2, 3, 4, 5] (by decide) rfl rfl rfl rfl 0 4 rfl rfl rfl rfl hl.1 rfl (Nat.le_of_ble_eq_true rfl) dX4_seat_36 rfl (fun H locs hP hD hS => ?_)
  have hP : va_P D vwCl [(at0, .inr (4, [.ref at1, .ref at2, .ref at3, .ref at4, .ref at5, .int r36.2.2.2.2.2.1, .int r36.2.2.2.2.2.2.1, .int r36.2.2.2.2.2.2.2.1, .int r36.2.2.2.2.2.2.2.2.1, .int r36.2.2.2.2.2.2.2.2.2])), (at1, .inl (cy 0, 4, .inl r36.1)), (at2, .inl (cy 0, 8, .inl r36.2.1)), (at3, .inl (cy 0, 8, .inl r36.2.2.1)), (at4, .inl (cy 0, 8, .inl r36.2.2.2.1)), (at5, .inl (cy 0, 8, .inl r36.2.2.2.2.1))] H := hP
  have hD : va_D A [(at0, .inr (4, [.ref at1, .ref at2, .ref at3, .ref at4, .ref at5, .int r36.2.2.2.2.2.1, .int r36.2.2.2.2.2.2.1, .int r36.2.2.2.2.2.2.2.1, .int r36.2.2.2.2.2.2.2.2.1, .int r36.2.2.2.2.2.2.2.2.2])), (at1, .inl (cy 0, 4, .inl r36.1)), (at2, .inl (cy 0, 8, .inl r36.2.1)), (at3, .inl (cy 0, 8, .inl r36.2.2.1)), (at4, .inl (cy 0, 8, .inl r36.2.2.2.1)), (at5, .inl (cy 0, 8, .inl r36.2.2.2.2.1))] := hD
  refine lv_aload_n hx hb dX4_seat_39 rfl (lv_at hl 1 rfl) ?_
  refine lv_dup hx hb dX4_seat_40 rfl ?_
  refine va_get (D := D) (ci := 4) (v := .int r36.2.2.2.2.2.2.1) (C := RX4) (T := TX4) (N := 10) hx hb hts hin4 hown hK hP 0 rfl rfl 6 (by decide) fl46 (fun _ h9 => h9) rfl dX4_seat_41 ?_
  refine lv_iconst (v := (1 : Int32)) hx hb dX4_seat_44 (by decide) ?_
  refine lv_iadd hx hb dX4_seat_45 ?_
  refine va_put (D := D) (ci := 4) (v := .int (r36.2.2.2.2.2.2.1 + (1 : Int32))) (ty := .int) (C := RX4) (T := TX4) (N := 10) hx hb hts hin4 tyX4 tyX4_ok nmX4 hown hK hP hD hS 0 rfl rfl 6 (by decide) fl46 (fun _ h9 => h9) rfl (by decide +kernel) rfl rfl (Nat.le_of_ble_eq_true rfl) dX4_seat_46 (fun H locs hP hD hS => ?_)
  have hP : va_P D vwCl [(at0, .inr (4, [.ref at1, .ref at2, .ref at3, .ref at4, .ref at5, .int r36.2.2.2.2.2.1, .int (r36.2.2.2.2.2.2.1 + (1 : Int32)), .int r36.2.2.2.2.2.2.2.1, .int r36.2.2.2.2.2.2.2.2.1, .int r36.2.2.2.2.2.2.2.2.2])), (at1, .inl (cy 0, 4, .inl r36.1)), (at2, .inl (cy 0, 8, .inl r36.2.1)), (at3, .inl (cy 0, 8, .inl r36.2.2.1)), (at4, .inl (cy 0, 8, .inl r36.2.2.2.1)), (at5, .inl (cy 0, 8, .inl r36.2.2.2.2.1))] H := hP
  have hD : va_D A [(at0, .inr (4, [.ref at1, .ref at2, .ref at3, .ref at4, .ref at5, .int r36.2.2.2.2.2.1, .int (r36.2.2.2.2.2.2.1 + (1 : Int32)), .int r36.2.2.2.2.2.2.2.1, .int r36.2.2.2.2.2.2.2.2.1, .int r36.2.2.2.2.2.2.2.2.2])), (at1, .inl (cy 0, 4, .inl r36.1)), (at2, .inl (cy 0, 8, .inl r36.2.1)), (at3, .inl (cy 0, 8, .inl r36.2.2.1)), (at4, .inl (cy 0, 8, .inl r36.2.2.2.1)), (at5, .inl (cy 0, 8, .inl r36.2.2.2.2.1))] := hD
  refine lv_iload_n hx hb dX4_seat_49 rfl (lv_at hl 0 rfl) ?_
  exact W.iret hx hb hr (fun t ht hW => hfin T_count r36.1 r36.2.1 r36.2.2.1 r36.2.2.2.1 r36.2.2.2.2.1 r36.2.2.2.2.2.1 (r36.2.2.2.2.2.2.1 + (1 : Int32)) r36.2.2.2.2.2.2.2.1 r36.2.2.2.2.2.2.2.2.1 r36.2.2.2.2.2.2.2.2.2 hf _ t ht hP (hS.F ht)) hS.2.2 dX4_seat_50
set_option maxRecDepth 100000 in
set_option maxHeartbeats 100000000 in
theorem mX4_next (l : Launch) (D : va_G) (cy : Nat → ClassId) (st sk sv : Nat → Nat) (B : Nat) (at0 : Nat) (at1 : Nat) (at2 : Nat) (at3 : Nat) (at4 : Nat) (at5 : Nat) (n : Nat) (T_laws : (Nat → Int32)) (T_kind : (Nat → Int32)) (T_holds : (Nat → Int32)) (T_gone : (Nat → Int32)) (T_tells : (Nat → Int32)) (T_drowned : Int32) (T_count : Int32) (T_course : Int32) (T_told : Int32) (T_z : Int32)  (z : Int32) (hf : fX4_next n (T_laws, T_kind, T_holds, T_gone, T_tells, T_drowned, T_count, T_course, T_told, T_z) = some z) : Met l yX4_next wsX4_next ({ frames := 0, cells := 0, slots := 0, locals := 0 }) (PcR [.ref at0] D cy st sk sv B [(at0, .inr (4, [.ref at1, .ref at2, .ref at3, .ref at4, .ref at5, .int T_drowned, .int T_count, .int T_course, .int T_told, .int T_z])), (at1, .inl (cy 0, 4, .inl T_laws)), (at2, .inl (cy 0, 8, .inl T_kind)), (at3, .inl (cy 0, 8, .inl T_holds)), (at4, .inl (cy 0, 8, .inl T_gone)), (at5, .inl (cy 0, 8, .inl T_tells))]) (Qr (some (.int z))) 0 0 (fun _ => False) := by
  refine Met.ofW (cc := cX4_next) (maxL := 1) (ret := (some .int)) (by decide) rfl ?_
  intro p e s m args below meth c s₁ Bd hml hv
  obtain ⟨rfl, hP, hG⟩ := hv
  have hx := Bd.exec
  have hb := Bd.bytes
  have hr := Bd.returns
  have hts := atoms_spec (ws := wsX4_next) Bd.pre
  have hown : s.vm.findClass RX4 = some m.cls := findClass_of_methodNamed Bd.named
  have hlocks := Bd.notSynchronized
  have hK := hG.1
  have hS : va_S (fun q => B ≤ q) s.heap s.heap [] := va_S.rf
  have hAB : ∀ q, (fun q => B ≤ q) q → B ≤ q := fun _ h => h
  have hin4 : ∀ w ∈ u_ws RX4 TX4 10, w ∈ wsX4_next := by decide +kernel
  have fl52 := hts (.fieldLink RX4 52 "KinCutlery$Table" "told" "I") (by decide +kernel)
  have hl := lv_entry ([.ref at0]) (n := 1) (Nat.le_of_ble_eq_true rfl)
  rw [lg_entry_eq]
  generalize (lg_sl ([.ref at0]) ++ List.replicate (1 - (lg_sl ([.ref at0])).length) Slot.unset).toArray = ls at hl ⊢
  have hl : lv_has ls 1 [(0, .ref at0)] := hl
  have hf : (some (T_told - T_told / (8 : Int32) * (8 : Int32))) = some z := hf
  refine lv_aload_n hx hb dX4_next_0 rfl (lv_at hl 0 rfl) ?_
  refine va_get (D := D) (ci := 4) (v := .int T_told) (C := RX4) (T := TX4) (N := 10) hx hb hts hin4 hown hK hP 0 rfl rfl 8 (by decide) fl52 (fun _ h9 => h9) rfl dX4_next_1 ?_
  refine lv_bipush (v := (8 : Int32)) hx hb dX4_next_4 (by decide) ?_
  refine lv_irem hx hb dX4_next_6 (by decide) ?_
  cases hf
  exact W.iret hx hb hr (fun t ht hW => ⟨rfl, ht⟩) (fun q h => absurd h List.not_mem_nil) dX4_next_7
set_option maxRecDepth 100000 in
set_option maxHeartbeats 100000000 in
theorem mX4_takes (l : Launch) (D : va_G) (cy : Nat → ClassId) (st sk sv : Nat → Nat) (B : Nat) (at0 : Nat) (at1 : Nat) (at2 : Nat) (at3 : Nat) (at4 : Nat) (at5 : Nat) (n : Nat) (T_laws : (Nat → Int32)) (T_kind : (Nat → Int32)) (T_holds : (Nat → Int32)) (T_gone : (Nat → Int32)) (T_tells : (Nat → Int32)) (T_drowned : Int32) (T_count : Int32) (T_course : Int32) (T_told : Int32) (T_z : Int32) (x1 : Int32) (z : Int32) (hf : fX4_takes n (T_laws, T_kind, T_holds, T_gone, T_tells, T_drowned, T_count, T_course, T_told, T_z) x1 = some z) : Met l yX4_takes wsX4_takes ({ frames := 1, cells := 0, slots := 0, locals := 20 }) (PcR [.ref at0, .int x1] D cy st sk sv B [(at0, .inr (4, [.ref at1, .ref at2, .ref at3, .ref at4, .ref at5, .int T_drowned, .int T_count, .int T_course, .int T_told, .int T_z])), (at1, .inl (cy 0, 4, .inl T_laws)), (at2, .inl (cy 0, 8, .inl T_kind)), (at3, .inl (cy 0, 8, .inl T_holds)), (at4, .inl (cy 0, 8, .inl T_gone)), (at5, .inl (cy 0, 8, .inl T_tells))]) (Qr (some (.int z))) 0 0 (fun _ => False) := by
  refine Met.ofW (cc := cX4_takes) (maxL := 2) (ret := (some .int)) (by decide) rfl ?_
  intro p e s m args below meth c s₁ Bd hml hv
  obtain ⟨rfl, hP, hG⟩ := hv
  have hx := Bd.exec
  have hb := Bd.bytes
  have hr := Bd.returns
  have hts := atoms_spec (ws := wsX4_takes) Bd.pre
  have hown : s.vm.findClass RX4 = some m.cls := findClass_of_methodNamed Bd.named
  have hlocks := Bd.notSynchronized
  have hK := hG.1
  have hS : va_S (fun q => B ≤ q) s.heap s.heap [] := va_S.rf
  have hAB : ∀ q, (fun q => B ≤ q) q → B ≤ q := fun _ h => h
  have hin4 : ∀ w ∈ u_ws RX4 TX4 10, w ∈ wsX4_takes := by decide +kernel
  have fl9 := hts (.fieldLink RX4 9 "KinCutlery$Table" "laws" "[I") (by decide +kernel)
  have fl15 := hts (.fieldLink RX4 15 "KinCutlery$Table" "kind" "[I") (by decide +kernel)
  have fl18 := hts (.fieldLink RX4 18 "KinCutlery$Table" "holds" "[I") (by decide +kernel)
  have hl := lv_entry ([.ref at0, .int x1]) (n := 2) (Nat.le_of_ble_eq_true rfl)
  rw [lg_entry_eq]
  generalize (lg_sl ([.ref at0, .int x1]) ++ List.replicate (2 - (lg_sl ([.ref at0, .int x1])).length) Slot.unset).toArray = ls at hl ⊢
  have hl : lv_has ls 2 [(0, .ref at0), (1, .int x1)] := hl
  have hf : (if x1 < 0 ∨ 8 ≤ x1.toNatClampNeg then none else if (T_kind x1.toNatClampNeg) = (1 : Int32) then (some ((4 : Int32) + (T_laws (1 : Int32).toNatClampNeg))) else if (T_kind x1.toNatClampNeg) = (2 : Int32) then (some (2 : Int32)) else if (T_kind x1.toNatClampNeg) = (3 : Int32) then (some (((4 : Int32) + (T_laws (1 : Int32).toNatClampNeg)) * (2 : Int32))) else if (T_kind x1.toNatClampNeg) = (4 : Int32) then (some ((2 : Int32) - (T_laws (1 : Int32).toNatClampNeg))) else if (T_kind x1.toNatClampNeg) = (5 : Int32) then (if x1 < 0 ∨ 8 ≤ x1.toNatClampNeg then none else (fX4_next n (T_laws, T_kind, T_holds, T_gone, T_tells, T_drowned, T_count, T_course, T_told, T_z)).bind fun r78 => if (T_holds x1.toNatClampNeg) = r78 then (some (9 : Int32)) else (some (4 : Int32))) else  (some (4 : Int32))) = some z := hf
  refine lv_aload_n hx hb dX4_takes_0 rfl (lv_at hl 0 rfl) ?_
  refine va_get (D := D) (ci := 4) (v := .ref at2) (C := RX4) (T := TX4) (N := 10) hx hb hts hin4 hown hK hP 0 rfl rfl 1 (by decide) fl15 (fun _ h9 => h9) rfl dX4_takes_1 ?_
  refine lv_iload_n hx hb dX4_takes_4 rfl (lv_at hl 1 rfl) ?_
  obtain ⟨h_5, hf⟩ := zg hf
  refine va_iald hx hb hK hP 2 0 rfl rfl h_5 dX4_takes_5 ?_
  by_cases c_6_1 : (T_kind x1.toNatClampNeg) = (1 : Int32)
  · have hf := zp hf c_6_1
    refine lv_tableIn (tgt := 40) hx hb dX4_takes_6 (by rw [c_6_1]; decide) (by rw [c_6_1]; decide) (by rw [c_6_1]; rfl) (by decide) ?_
    refine lv_iconst (v := (4 : Int32)) hx hb dX4_takes_40 (by decide) ?_
    refine lv_aload_n hx hb dX4_takes_41 rfl (lv_at hl 0 rfl) ?_
    refine va_get (D := D) (ci := 4) (v := .ref at1) (C := RX4) (T := TX4) (N := 10) hx hb hts hin4 hown hK hP 0 rfl rfl 0 (by decide) fl9 (fun _ h9 => h9) rfl dX4_takes_42 ?_
    refine lv_iconst (v := (1 : Int32)) hx hb dX4_takes_45 (by decide) ?_
    refine va_iald hx hb hK hP 1 0 rfl rfl vi_1_4 dX4_takes_46 ?_
    refine lv_iadd hx hb dX4_takes_47 ?_
    cases hf
    exact W.iret hx hb hr (fun t ht hW => ⟨rfl, ht⟩) (fun q h => absurd h List.not_mem_nil) dX4_takes_48
  have hf := zn hf c_6_1
  by_cases c_6_2 : (T_kind x1.toNatClampNeg) = (2 : Int32)
  · have hf := zp hf c_6_2
    refine lv_tableIn (tgt := 60) hx hb dX4_takes_6 (by rw [c_6_2]; decide) (by rw [c_6_2]; decide) (by rw [c_6_2]; rfl) (by decide) ?_
    refine lv_iconst (v := (2 : Int32)) hx hb dX4_takes_60 (by decide) ?_
    cases hf
    exact W.iret hx hb hr (fun t ht hW => ⟨rfl, ht⟩) (fun q h => absurd h List.not_mem_nil) dX4_takes_61
  have hf := zn hf c_6_2
  by_cases c_6_3 : (T_kind x1.toNatClampNeg) = (3 : Int32)
  · have hf := zp hf c_6_3
    refine lv_tableIn (tgt := 49) hx hb dX4_takes_6 (by rw [c_6_3]; decide) (by rw [c_6_3]; decide) (by rw [c_6_3]; rfl) (by decide) ?_
    refine lv_iconst (v := (4 : Int32)) hx hb dX4_takes_49 (by decide) ?_
    refine lv_aload_n hx hb dX4_takes_50 rfl (lv_at hl 0 rfl) ?_
    refine va_get (D := D) (ci := 4) (v := .ref at1) (C := RX4) (T := TX4) (N := 10) hx hb hts hin4 hown hK hP 0 rfl rfl 0 (by decide) fl9 (fun _ h9 => h9) rfl dX4_takes_51 ?_
    refine lv_iconst (v := (1 : Int32)) hx hb dX4_takes_54 (by decide) ?_
    refine va_iald hx hb hK hP 1 0 rfl rfl vi_1_4 dX4_takes_55 ?_
    refine lv_iadd hx hb dX4_takes_56 ?_
    refine lv_iconst (v := (2 : Int32)) hx hb dX4_takes_57 (by decide) ?_
    refine lv_imul hx hb dX4_takes_58 ?_
    cases hf
    exact W.iret hx hb hr (fun t ht hW => ⟨rfl, ht⟩) (fun q h => absurd h List.not_mem_nil) dX4_takes_59
  have hf := zn hf c_6_3
  by_cases c_6_4 : (T_kind x1.toNatClampNeg) = (4 : Int32)
  · have hf := zp hf c_6_4
    refine lv_tableIn (tgt := 62) hx hb dX4_takes_6 (by rw [c_6_4]; decide) (by rw [c_6_4]; decide) (by rw [c_6_4]; rfl) (by decide) ?_
    refine lv_iconst (v := (2 : Int32)) hx hb dX4_takes_62 (by decide) ?_
    refine lv_aload_n hx hb dX4_takes_63 rfl (lv_at hl 0 rfl) ?_
    refine va_get (D := D) (ci := 4) (v := .ref at1) (C := RX4) (T := TX4) (N := 10) hx hb hts hin4 hown hK hP 0 rfl rfl 0 (by decide) fl9 (fun _ h9 => h9) rfl dX4_takes_64 ?_
    refine lv_iconst (v := (1 : Int32)) hx hb dX4_takes_67 (by decide) ?_
    refine va_iald hx hb hK hP 1 0 rfl rfl vi_1_4 dX4_takes_68 ?_
    refine lv_isub hx hb dX4_takes_69 ?_
    cases hf
    exact W.iret hx hb hr (fun t ht hW => ⟨rfl, ht⟩) (fun q h => absurd h List.not_mem_nil) dX4_takes_70
  have hf := zn hf c_6_4
  by_cases c_6_5 : (T_kind x1.toNatClampNeg) = (5 : Int32)
  · have hf := zp hf c_6_5
    refine lv_tableIn (tgt := 71) hx hb dX4_takes_6 (by rw [c_6_5]; decide) (by rw [c_6_5]; decide) (by rw [c_6_5]; rfl) (by decide) ?_
    refine lv_aload_n hx hb dX4_takes_71 rfl (lv_at hl 0 rfl) ?_
    refine va_get (D := D) (ci := 4) (v := .ref at3) (C := RX4) (T := TX4) (N := 10) hx hb hts hin4 hown hK hP 0 rfl rfl 2 (by decide) fl18 (fun _ h9 => h9) rfl dX4_takes_72 ?_
    refine lv_iload_n hx hb dX4_takes_75 rfl (lv_at hl 1 rfl) ?_
    obtain ⟨h_76, hf⟩ := zg hf
    refine va_iald hx hb hK hP 3 0 rfl rfl h_76 dX4_takes_76 ?_
    refine lv_aload_n hx hb dX4_takes_77 rfl (lv_at hl 0 rfl) ?_
    obtain ⟨r78, hc78, hf⟩ := zb hf
    refine zvr (o := some (.int r78)) (As := []) (rest := [.int (T_holds x1.toNatClampNeg)]) (stk := [.int r78, .int (T_holds x1.toNatClampNeg)]) ⟨hx, hb, hml, hown, hts⟩ (mX4_next l D cy st sk sv B at0 at1 at2 at3 at4 at5 n T_laws T_kind T_holds T_gone T_tells T_drowned T_count T_course T_told T_z r78 hc78) (cwV 0 hts gX4_takes_X4_next rfl rfl rfl (by decide +kernel) ⟨Nat.le_of_ble_eq_true rfl, Nat.le_of_ble_eq_true rfl⟩) hG hS hAB hP [0, 1, 2, 3, 4, 5] rfl 0 4 rfl rfl rfl rfl hl.1 rfl (Nat.le_of_ble_eq_true rfl) dX4_takes_78 rfl ?_
    refine lv_icmp_ne (tgt := 89) hx hb dX4_takes_81 (by decide) (fun c_81 => ?_) (fun c_81 => ?_)
    · have hf := zn hf c_81
      refine lv_iconst (v := (4 : Int32)) hx hb dX4_takes_89 (by decide) ?_
      cases hf
      exact W.iret hx hb hr (fun t ht hW => ⟨rfl, ht⟩) (fun q h => absurd h List.not_mem_nil) dX4_takes_90
    · have hf := zp hf c_81
      refine lv_bipush (v := (9 : Int32)) hx hb dX4_takes_84 (by decide) ?_
      refine lv_goto (tgt := 90) hx hb dX4_takes_86 (by decide) ?_
      cases hf
      exact W.iret hx hb hr (fun t ht hW => ⟨rfl, ht⟩) (fun q h => absurd h List.not_mem_nil) dX4_takes_90
  have hf := zn hf c_6_5
  have e_6_1 : ¬ (T_kind x1.toNatClampNeg).toInt = 1 := fun h => c_6_1 (Int32.toInt_inj.mp (h.trans (by decide)))
  have e_6_2 : ¬ (T_kind x1.toNatClampNeg).toInt = 2 := fun h => c_6_2 (Int32.toInt_inj.mp (h.trans (by decide)))
  have e_6_3 : ¬ (T_kind x1.toNatClampNeg).toInt = 3 := fun h => c_6_3 (Int32.toInt_inj.mp (h.trans (by decide)))
  have e_6_4 : ¬ (T_kind x1.toNatClampNeg).toInt = 4 := fun h => c_6_4 (Int32.toInt_inj.mp (h.trans (by decide)))
  have e_6_5 : ¬ (T_kind x1.toNatClampNeg).toInt = 5 := fun h => c_6_5 (Int32.toInt_inj.mp (h.trans (by decide)))
  refine lv_tableOut (tgt := 91) hx hb dX4_takes_6 (by omega) (by decide) ?_
  refine lv_iconst (v := (4 : Int32)) hx hb dX4_takes_91 (by decide) ?_
  cases hf
  exact W.iret hx hb hr (fun t ht hW => ⟨rfl, ht⟩) (fun q h => absurd h List.not_mem_nil) dX4_takes_92
set_option maxRecDepth 100000 in
set_option maxHeartbeats 100000000 in
theorem mX4_needs (l : Launch) (D : va_G) (cy : Nat → ClassId) (st sk sv : Nat → Nat) (B : Nat) (at0 : Nat) (at1 : Nat) (at2 : Nat) (at3 : Nat) (at4 : Nat) (at5 : Nat) (n : Nat) (T_laws : (Nat → Int32)) (T_kind : (Nat → Int32)) (T_holds : (Nat → Int32)) (T_gone : (Nat → Int32)) (T_tells : (Nat → Int32)) (T_drowned : Int32) (T_count : Int32) (T_course : Int32) (T_told : Int32) (T_z : Int32) (x1 : Int32) (z : Int32) (hf : fX4_needs n (T_laws, T_kind, T_holds, T_gone, T_tells, T_drowned, T_count, T_course, T_told, T_z) x1 = some z) : Met l yX4_needs wsX4_needs ({ frames := 0, cells := 0, slots := 0, locals := 0 }) (PcR [.ref at0, .int x1] D cy st sk sv B [(at0, .inr (4, [.ref at1, .ref at2, .ref at3, .ref at4, .ref at5, .int T_drowned, .int T_count, .int T_course, .int T_told, .int T_z])), (at1, .inl (cy 0, 4, .inl T_laws)), (at2, .inl (cy 0, 8, .inl T_kind)), (at3, .inl (cy 0, 8, .inl T_holds)), (at4, .inl (cy 0, 8, .inl T_gone)), (at5, .inl (cy 0, 8, .inl T_tells))]) (Qr (some (.int z))) 0 0 (fun _ => False) := by
  refine Met.ofW (cc := cX4_needs) (maxL := 2) (ret := (some .int)) (by decide) rfl ?_
  intro p e s m args below meth c s₁ Bd hml hv
  obtain ⟨rfl, hP, hG⟩ := hv
  have hx := Bd.exec
  have hb := Bd.bytes
  have hr := Bd.returns
  have hts := atoms_spec (ws := wsX4_needs) Bd.pre
  have hown : s.vm.findClass RX4 = some m.cls := findClass_of_methodNamed Bd.named
  have hlocks := Bd.notSynchronized
  have hK := hG.1
  have hS : va_S (fun q => B ≤ q) s.heap s.heap [] := va_S.rf
  have hAB : ∀ q, (fun q => B ≤ q) q → B ≤ q := fun _ h => h
  have hin4 : ∀ w ∈ u_ws RX4 TX4 10, w ∈ wsX4_needs := by decide +kernel
  have fl9 := hts (.fieldLink RX4 9 "KinCutlery$Table" "laws" "[I") (by decide +kernel)
  have fl15 := hts (.fieldLink RX4 15 "KinCutlery$Table" "kind" "[I") (by decide +kernel)
  have fl21 := hts (.fieldLink RX4 21 "KinCutlery$Table" "gone" "[I") (by decide +kernel)
  have hl := lv_entry ([.ref at0, .int x1]) (n := 2) (Nat.le_of_ble_eq_true rfl)
  rw [lg_entry_eq]
  generalize (lg_sl ([.ref at0, .int x1]) ++ List.replicate (2 - (lg_sl ([.ref at0, .int x1])).length) Slot.unset).toArray = ls at hl ⊢
  have hl : lv_has ls 2 [(0, .ref at0), (1, .int x1)] := hl
  have hf : (if x1 < 0 ∨ 8 ≤ x1.toNatClampNeg then none else if (T_kind x1.toNatClampNeg) = (1 : Int32) then (some (15 : Int32)) else if (T_kind x1.toNatClampNeg) = (2 : Int32) then (some (30 : Int32)) else if (T_kind x1.toNatClampNeg) = (3 : Int32) then (some ((15 : Int32) - (T_laws (1 : Int32).toNatClampNeg))) else if (T_kind x1.toNatClampNeg) = (4 : Int32) then (if x1 < 0 ∨ 8 ≤ x1.toNatClampNeg then none else some ((30 : Int32) - ((T_gone x1.toNatClampNeg) / (10 : Int32)))) else if (T_kind x1.toNatClampNeg) = (5 : Int32) then (some (10 : Int32)) else  (some (20 : Int32))) = some z := hf
  refine lv_aload_n hx hb dX4_needs_0 rfl (lv_at hl 0 rfl) ?_
  refine va_get (D := D) (ci := 4) (v := .ref at2) (C := RX4) (T := TX4) (N := 10) hx hb hts hin4 hown hK hP 0 rfl rfl 1 (by decide) fl15 (fun _ h9 => h9) rfl dX4_needs_1 ?_
  refine lv_iload_n hx hb dX4_needs_4 rfl (lv_at hl 1 rfl) ?_
  obtain ⟨h_5, hf⟩ := zg hf
  refine va_iald hx hb hK hP 2 0 rfl rfl h_5 dX4_needs_5 ?_
  by_cases c_6_1 : (T_kind x1.toNatClampNeg) = (1 : Int32)
  · have hf := zp hf c_6_1
    refine lv_tableIn (tgt := 40) hx hb dX4_needs_6 (by rw [c_6_1]; decide) (by rw [c_6_1]; decide) (by rw [c_6_1]; rfl) (by decide) ?_
    refine lv_bipush (v := (15 : Int32)) hx hb dX4_needs_40 (by decide) ?_
    cases hf
    exact W.iret hx hb hr (fun t ht hW => ⟨rfl, ht⟩) (fun q h => absurd h List.not_mem_nil) dX4_needs_42
  have hf := zn hf c_6_1
  by_cases c_6_2 : (T_kind x1.toNatClampNeg) = (2 : Int32)
  · have hf := zp hf c_6_2
    refine lv_tableIn (tgt := 53) hx hb dX4_needs_6 (by rw [c_6_2]; decide) (by rw [c_6_2]; decide) (by rw [c_6_2]; rfl) (by decide) ?_
    refine lv_bipush (v := (30 : Int32)) hx hb dX4_needs_53 (by decide) ?_
    cases hf
    exact W.iret hx hb hr (fun t ht hW => ⟨rfl, ht⟩) (fun q h => absurd h List.not_mem_nil) dX4_needs_55
  have hf := zn hf c_6_2
  by_cases c_6_3 : (T_kind x1.toNatClampNeg) = (3 : Int32)
  · have hf := zp hf c_6_3
    refine lv_tableIn (tgt := 43) hx hb dX4_needs_6 (by rw [c_6_3]; decide) (by rw [c_6_3]; decide) (by rw [c_6_3]; rfl) (by decide) ?_
    refine lv_bipush (v := (15 : Int32)) hx hb dX4_needs_43 (by decide) ?_
    refine lv_aload_n hx hb dX4_needs_45 rfl (lv_at hl 0 rfl) ?_
    refine va_get (D := D) (ci := 4) (v := .ref at1) (C := RX4) (T := TX4) (N := 10) hx hb hts hin4 hown hK hP 0 rfl rfl 0 (by decide) fl9 (fun _ h9 => h9) rfl dX4_needs_46 ?_
    refine lv_iconst (v := (1 : Int32)) hx hb dX4_needs_49 (by decide) ?_
    refine va_iald hx hb hK hP 1 0 rfl rfl vi_1_4 dX4_needs_50 ?_
    refine lv_isub hx hb dX4_needs_51 ?_
    cases hf
    exact W.iret hx hb hr (fun t ht hW => ⟨rfl, ht⟩) (fun q h => absurd h List.not_mem_nil) dX4_needs_52
  have hf := zn hf c_6_3
  by_cases c_6_4 : (T_kind x1.toNatClampNeg) = (4 : Int32)
  · have hf := zp hf c_6_4
    refine lv_tableIn (tgt := 56) hx hb dX4_needs_6 (by rw [c_6_4]; decide) (by rw [c_6_4]; decide) (by rw [c_6_4]; rfl) (by decide) ?_
    refine lv_bipush (v := (30 : Int32)) hx hb dX4_needs_56 (by decide) ?_
    refine lv_aload_n hx hb dX4_needs_58 rfl (lv_at hl 0 rfl) ?_
    refine va_get (D := D) (ci := 4) (v := .ref at4) (C := RX4) (T := TX4) (N := 10) hx hb hts hin4 hown hK hP 0 rfl rfl 3 (by decide) fl21 (fun _ h9 => h9) rfl dX4_needs_59 ?_
    refine lv_iload_n hx hb dX4_needs_62 rfl (lv_at hl 1 rfl) ?_
    obtain ⟨h_63, hf⟩ := zg hf
    refine va_iald hx hb hK hP 4 0 rfl rfl h_63 dX4_needs_63 ?_
    refine lv_bipush (v := (10 : Int32)) hx hb dX4_needs_64 (by decide) ?_
    refine lv_idiv hx hb dX4_needs_66 (by decide) ?_
    refine lv_isub hx hb dX4_needs_67 ?_
    cases hf
    exact W.iret hx hb hr (fun t ht hW => ⟨rfl, ht⟩) (fun q h => absurd h List.not_mem_nil) dX4_needs_68
  have hf := zn hf c_6_4
  by_cases c_6_5 : (T_kind x1.toNatClampNeg) = (5 : Int32)
  · have hf := zp hf c_6_5
    refine lv_tableIn (tgt := 69) hx hb dX4_needs_6 (by rw [c_6_5]; decide) (by rw [c_6_5]; decide) (by rw [c_6_5]; rfl) (by decide) ?_
    refine lv_bipush (v := (10 : Int32)) hx hb dX4_needs_69 (by decide) ?_
    cases hf
    exact W.iret hx hb hr (fun t ht hW => ⟨rfl, ht⟩) (fun q h => absurd h List.not_mem_nil) dX4_needs_71
  have hf := zn hf c_6_5
  have e_6_1 : ¬ (T_kind x1.toNatClampNeg).toInt = 1 := fun h => c_6_1 (Int32.toInt_inj.mp (h.trans (by decide)))
  have e_6_2 : ¬ (T_kind x1.toNatClampNeg).toInt = 2 := fun h => c_6_2 (Int32.toInt_inj.mp (h.trans (by decide)))
  have e_6_3 : ¬ (T_kind x1.toNatClampNeg).toInt = 3 := fun h => c_6_3 (Int32.toInt_inj.mp (h.trans (by decide)))
  have e_6_4 : ¬ (T_kind x1.toNatClampNeg).toInt = 4 := fun h => c_6_4 (Int32.toInt_inj.mp (h.trans (by decide)))
  have e_6_5 : ¬ (T_kind x1.toNatClampNeg).toInt = 5 := fun h => c_6_5 (Int32.toInt_inj.mp (h.trans (by decide)))
  refine lv_tableOut (tgt := 72) hx hb dX4_needs_6 (by omega) (by decide) ?_
  refine lv_bipush (v := (20 : Int32)) hx hb dX4_needs_72 (by decide) ?_
  cases hf
  exact W.iret hx hb hr (fun t ht hW => ⟨rfl, ht⟩) (fun q h => absurd h List.not_mem_nil) dX4_needs_74
set_option maxRecDepth 100000 in
set_option maxHeartbeats 100000000 in
theorem mX4_costs (l : Launch) (D : va_G) (cy : Nat → ClassId) (st sk sv : Nat → Nat) (B : Nat) (at0 : Nat) (at1 : Nat) (at2 : Nat) (at3 : Nat) (at4 : Nat) (at5 : Nat) (n : Nat) (T_laws : (Nat → Int32)) (T_kind : (Nat → Int32)) (T_holds : (Nat → Int32)) (T_gone : (Nat → Int32)) (T_tells : (Nat → Int32)) (T_drowned : Int32) (T_count : Int32) (T_course : Int32) (T_told : Int32) (T_z : Int32) (x1 : Int32) (z : Int32) (hf : fX4_costs n (T_laws, T_kind, T_holds, T_gone, T_tells, T_drowned, T_count, T_course, T_told, T_z) x1 = some z) : Met l yX4_costs wsX4_costs ({ frames := 0, cells := 0, slots := 0, locals := 0 }) (PcR [.ref at0, .int x1] D cy st sk sv B [(at0, .inr (4, [.ref at1, .ref at2, .ref at3, .ref at4, .ref at5, .int T_drowned, .int T_count, .int T_course, .int T_told, .int T_z])), (at1, .inl (cy 0, 4, .inl T_laws)), (at2, .inl (cy 0, 8, .inl T_kind)), (at3, .inl (cy 0, 8, .inl T_holds)), (at4, .inl (cy 0, 8, .inl T_gone)), (at5, .inl (cy 0, 8, .inl T_tells))]) (Qr (some (.int z))) 0 0 (fun _ => False) := by
  refine Met.ofW (cc := cX4_costs) (maxL := 2) (ret := (some .int)) (by decide) rfl ?_
  intro p e s m args below meth c s₁ Bd hml hv
  obtain ⟨rfl, hP, hG⟩ := hv
  have hx := Bd.exec
  have hb := Bd.bytes
  have hr := Bd.returns
  have hts := atoms_spec (ws := wsX4_costs) Bd.pre
  have hown : s.vm.findClass RX4 = some m.cls := findClass_of_methodNamed Bd.named
  have hlocks := Bd.notSynchronized
  have hK := hG.1
  have hS : va_S (fun q => B ≤ q) s.heap s.heap [] := va_S.rf
  have hAB : ∀ q, (fun q => B ≤ q) q → B ≤ q := fun _ h => h
  have hin4 : ∀ w ∈ u_ws RX4 TX4 10, w ∈ wsX4_costs := by decide +kernel
  have fl9 := hts (.fieldLink RX4 9 "KinCutlery$Table" "laws" "[I") (by decide +kernel)
  have fl15 := hts (.fieldLink RX4 15 "KinCutlery$Table" "kind" "[I") (by decide +kernel)
  have hl := lv_entry ([.ref at0, .int x1]) (n := 2) (Nat.le_of_ble_eq_true rfl)
  rw [lg_entry_eq]
  generalize (lg_sl ([.ref at0, .int x1]) ++ List.replicate (2 - (lg_sl ([.ref at0, .int x1])).length) Slot.unset).toArray = ls at hl ⊢
  have hl : lv_has ls 2 [(0, .ref at0), (1, .int x1)] := hl
  have hf : (if x1 < 0 ∨ 8 ≤ x1.toNatClampNeg then none else if (T_kind x1.toNatClampNeg) = (2 : Int32) then (some (15 : Int32)) else if (T_kind x1.toNatClampNeg) = (3 : Int32) then (some (5 : Int32)) else if (T_kind x1.toNatClampNeg) = (4 : Int32) then (some ((15 : Int32) - (T_laws (1 : Int32).toNatClampNeg))) else if (T_kind x1.toNatClampNeg) = (5 : Int32) then (some (0 : Int32)) else  (some (10 : Int32))) = some z := hf
  refine lv_aload_n hx hb dX4_costs_0 rfl (lv_at hl 0 rfl) ?_
  refine va_get (D := D) (ci := 4) (v := .ref at2) (C := RX4) (T := TX4) (N := 10) hx hb hts hin4 hown hK hP 0 rfl rfl 1 (by decide) fl15 (fun _ h9 => h9) rfl dX4_costs_1 ?_
  refine lv_iload_n hx hb dX4_costs_4 rfl (lv_at hl 1 rfl) ?_
  obtain ⟨h_5, hf⟩ := zg hf
  refine va_iald hx hb hK hP 2 0 rfl rfl h_5 dX4_costs_5 ?_
  by_cases c_6_2 : (T_kind x1.toNatClampNeg) = (2 : Int32)
  · have hf := zp hf c_6_2
    refine lv_tableIn (tgt := 38) hx hb dX4_costs_6 (by rw [c_6_2]; decide) (by rw [c_6_2]; decide) (by rw [c_6_2]; rfl) (by decide) ?_
    refine lv_bipush (v := (15 : Int32)) hx hb dX4_costs_38 (by decide) ?_
    cases hf
    exact W.iret hx hb hr (fun t ht hW => ⟨rfl, ht⟩) (fun q h => absurd h List.not_mem_nil) dX4_costs_40
  have hf := zn hf c_6_2
  by_cases c_6_3 : (T_kind x1.toNatClampNeg) = (3 : Int32)
  · have hf := zp hf c_6_3
    refine lv_tableIn (tgt := 36) hx hb dX4_costs_6 (by rw [c_6_3]; decide) (by rw [c_6_3]; decide) (by rw [c_6_3]; rfl) (by decide) ?_
    refine lv_iconst (v := (5 : Int32)) hx hb dX4_costs_36 (by decide) ?_
    cases hf
    exact W.iret hx hb hr (fun t ht hW => ⟨rfl, ht⟩) (fun q h => absurd h List.not_mem_nil) dX4_costs_37
  have hf := zn hf c_6_3
  by_cases c_6_4 : (T_kind x1.toNatClampNeg) = (4 : Int32)
  · have hf := zp hf c_6_4
    refine lv_tableIn (tgt := 41) hx hb dX4_costs_6 (by rw [c_6_4]; decide) (by rw [c_6_4]; decide) (by rw [c_6_4]; rfl) (by decide) ?_
    refine lv_bipush (v := (15 : Int32)) hx hb dX4_costs_41 (by decide) ?_
    refine lv_aload_n hx hb dX4_costs_43 rfl (lv_at hl 0 rfl) ?_
    refine va_get (D := D) (ci := 4) (v := .ref at1) (C := RX4) (T := TX4) (N := 10) hx hb hts hin4 hown hK hP 0 rfl rfl 0 (by decide) fl9 (fun _ h9 => h9) rfl dX4_costs_44 ?_
    refine lv_iconst (v := (1 : Int32)) hx hb dX4_costs_47 (by decide) ?_
    refine va_iald hx hb hK hP 1 0 rfl rfl vi_1_4 dX4_costs_48 ?_
    refine lv_isub hx hb dX4_costs_49 ?_
    cases hf
    exact W.iret hx hb hr (fun t ht hW => ⟨rfl, ht⟩) (fun q h => absurd h List.not_mem_nil) dX4_costs_50
  have hf := zn hf c_6_4
  by_cases c_6_5 : (T_kind x1.toNatClampNeg) = (5 : Int32)
  · have hf := zp hf c_6_5
    refine lv_tableIn (tgt := 51) hx hb dX4_costs_6 (by rw [c_6_5]; decide) (by rw [c_6_5]; decide) (by rw [c_6_5]; rfl) (by decide) ?_
    refine lv_iconst (v := (0 : Int32)) hx hb dX4_costs_51 (by decide) ?_
    cases hf
    exact W.iret hx hb hr (fun t ht hW => ⟨rfl, ht⟩) (fun q h => absurd h List.not_mem_nil) dX4_costs_52
  have hf := zn hf c_6_5
  have e_6_2 : ¬ (T_kind x1.toNatClampNeg).toInt = 2 := fun h => c_6_2 (Int32.toInt_inj.mp (h.trans (by decide)))
  have e_6_3 : ¬ (T_kind x1.toNatClampNeg).toInt = 3 := fun h => c_6_3 (Int32.toInt_inj.mp (h.trans (by decide)))
  have e_6_4 : ¬ (T_kind x1.toNatClampNeg).toInt = 4 := fun h => c_6_4 (Int32.toInt_inj.mp (h.trans (by decide)))
  have e_6_5 : ¬ (T_kind x1.toNatClampNeg).toInt = 5 := fun h => c_6_5 (Int32.toInt_inj.mp (h.trans (by decide)))
  refine lv_tableOut (tgt := 53) hx hb dX4_costs_6 (by omega) (by decide) ?_
  refine lv_bipush (v := (10 : Int32)) hx hb dX4_costs_53 (by decide) ?_
  cases hf
  exact W.iret hx hb hr (fun t ht hW => ⟨rfl, ht⟩) (fun q h => absurd h List.not_mem_nil) dX4_costs_55
set_option maxRecDepth 100000 in
set_option maxHeartbeats 100000000 in
theorem mX6_held (l : Launch) (D : va_G) (cy : Nat → ClassId) (st sk sv : Nat → Nat) (B : Nat)  (n : Nat)  (x0 : Int32) (z : Int32) (hf : fX6_held n x0 = some z) : Met l yX6_held wsX6_held ({ frames := 1, cells := 0, slots := 0, locals := 30 }) (PcR [.int x0] D cy st sk sv B []) (Qr (some (.int z))) 0 0 (fun _ => False) := by
  refine Met.ofW (cc := cX6_held) (maxL := 1) (ret := (some .int)) (by decide) rfl ?_
  intro p e s m args below meth c s₁ Bd hml hv
  obtain ⟨rfl, hP, hG⟩ := hv
  have hx := Bd.exec
  have hb := Bd.bytes
  have hr := Bd.returns
  have hts := atoms_spec (ws := wsX6_held) Bd.pre
  have hown : s.vm.findClass RX6 = some m.cls := findClass_of_methodNamed Bd.named
  have hlocks := Bd.notSynchronized
  have hK := hG.1
  have hS : va_S (fun q => B ≤ q) s.heap s.heap [] := va_S.rf
  have hAB : ∀ q, (fun q => B ≤ q) q → B ≤ q := fun _ h => h
  have hl := lv_entry ([.int x0]) (n := 1) (Nat.le_of_ble_eq_true rfl)
  rw [lg_entry_eq]
  generalize (lg_sl ([.int x0]) ++ List.replicate (1 - (lg_sl ([.int x0])).length) Slot.unset).toArray = ls at hl ⊢
  have hl : lv_has ls 1 [(0, .int x0)] := hl
  have hf : (some (if (0 : Int32) < (if x0 < (99 : Int32) then x0 else (99 : Int32)) then (if x0 < (99 : Int32) then x0 else (99 : Int32)) else (0 : Int32))) = some z := hf
  refine lv_iconst (v := (0 : Int32)) hx hb dX6_held_0 (by decide) ?_
  refine lv_bipush (v := (99 : Int32)) hx hb dX6_held_1 (by decide) ?_
  refine lv_iload_n hx hb dX6_held_3 rfl (lv_at hl 0 rfl) ?_
  refine va_mmin hx hb (hml.trans hl.1.symm) hown (hts (.methodLink RX6 293 Lib.Math.min.name) (by decide +kernel)) (hts (.static Lib.Math.min.name) (by decide +kernel)) (hts (.initialized "java/lang/Math") (by decide +kernel)) (hts (.code Lib.Math.min.name Lib.Math.min.code 2 (some .int)) (by decide +kernel)) (Nat.le_of_ble_eq_true rfl) (Nat.le_of_ble_eq_true rfl) (Nat.zero_le _) (Nat.zero_le _) dX6_held_4 ?_
  refine va_mmax hx hb (hml.trans hl.1.symm) hown (hts (.methodLink RX6 177 Lib.Math.max.name) (by decide +kernel)) (hts (.static Lib.Math.max.name) (by decide +kernel)) (hts (.initialized "java/lang/Math") (by decide +kernel)) (hts (.code Lib.Math.max.name Lib.Math.max.code 2 (some .int)) (by decide +kernel)) (Nat.le_of_ble_eq_true rfl) (Nat.le_of_ble_eq_true rfl) (Nat.zero_le _) (Nat.zero_le _) dX6_held_7 ?_
  cases hf
  exact W.iret hx hb hr (fun t ht hW => ⟨rfl, ht⟩) (fun q h => absurd h List.not_mem_nil) dX6_held_10
