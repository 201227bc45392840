set_option maxRecDepth 100000 in
set_option maxHeartbeats 100000000 in
theorem mX3_ownD (l : Launch) (D : va_G) (cy : Nat → ClassId) (st sk sv : Nat → Nat) (B : Nat) (ag0 : Nat) (ag1 : Nat) (n d : Nat) (ih : ∀ (sz : Nat) (G_bodies : (Nat → Int32)) (G_traced : Int32) (G_kind : Int32) (G_n : Int32) (G_a : Int32) (G_broken : Int32) (x1 : Int32) (x2 : Int32) (x3 : Int32) (z : Int32 × SG), rX3 n d (G_bodies, G_traced, G_kind, G_n, G_a, G_broken) x1 x2 x3 = some z → Met l yX3_run wsX3_run ({ frames := 2 * d, cells := 0, slots := 0, locals := 64 * d }) (PcW [.ref ag0, .int x1, .int x2, .int x3] D cy st sk sv B sz [(ag0, .inr (3, [.ref ag1, .int G_traced, .int G_kind, .int G_n, .int G_a, .int G_broken])), (ag1, .inl (cy 0, 30, .inl G_bodies))]) (Qw (some (.int z.1)) D [(ag0, .inr (3, [.ref ag1, .int z.2.2.1, .int z.2.2.2.1, .int z.2.2.2.2.1, .int z.2.2.2.2.2.1, .int z.2.2.2.2.2.2])), (ag1, .inl (cy 0, 30, .inl z.2.1))] (va_A [(ag0, .inr (3, [.ref ag1, .int G_traced, .int G_kind, .int G_n, .int G_a, .int G_broken])), (ag1, .inl (cy 0, 30, .inl G_bodies))] sz)) 0 0 (va_A [(ag0, .inr (3, [.ref ag1, .int G_traced, .int G_kind, .int G_n, .int G_a, .int G_broken])), (ag1, .inl (cy 0, 30, .inl G_bodies))] sz)) (sz : Nat) (G_bodies : (Nat → Int32)) (G_traced : Int32) (G_kind : Int32) (G_n : Int32) (G_a : Int32) (G_broken : Int32) (x1 : Int32) (x2 : Int32) (x3 : Int32) (z : Int32 × SG) (hf : FX3_own n (rX3 n d) (G_bodies, G_traced, G_kind, G_n, G_a, G_broken) x1 x2 x3 = some z) : Met l yX3_own wsX3_own ({ frames := 2 * d + 1, cells := 0, slots := 0, locals := 64 * d + 32 }) (PcW [.ref ag0, .int x1, .int x2, .int x3] D cy st sk sv B sz [(ag0, .inr (3, [.ref ag1, .int G_traced, .int G_kind, .int G_n, .int G_a, .int G_broken])), (ag1, .inl (cy 0, 30, .inl G_bodies))]) (Qw (some (.int z.1)) D [(ag0, .inr (3, [.ref ag1, .int z.2.2.1, .int z.2.2.2.1, .int z.2.2.2.2.1, .int z.2.2.2.2.2.1, .int z.2.2.2.2.2.2])), (ag1, .inl (cy 0, 30, .inl z.2.1))] (va_A [(ag0, .inr (3, [.ref ag1, .int G_traced, .int G_kind, .int G_n, .int G_a, .int G_broken])), (ag1, .inl (cy 0, 30, .inl G_bodies))] sz)) 0 0 (va_A [(ag0, .inr (3, [.ref ag1, .int G_traced, .int G_kind, .int G_n, .int G_a, .int G_broken])), (ag1, .inl (cy 0, 30, .inl G_bodies))] sz) := by
  refine Met.ofW (cc := cX3_own) (maxL := 4) (ret := (some .int)) (by decide) rfl ?_
  intro p e s m args below meth c s₁ Bd hml hv
  obtain ⟨rfl, hsz, hP, hD0, hBs, hG⟩ := hv
  have hx := Bd.exec
  have hb := Bd.bytes
  have hr := Bd.returns
  have hts := atoms_spec (ws := wsX3_own) Bd.pre
  have hown : s.vm.findClass RX3 = some m.cls := findClass_of_methodNamed Bd.named
  have hlocks := Bd.notSynchronized
  have hK := hG.1
  subst hsz
  have hD := hD0.self (sz := s.heap.size)
  have hAB0 := zA hD0 hBs
  generalize hAe : va_A [(ag0, .inr (3, [.ref ag1, .int G_traced, .int G_kind, .int G_n, .int G_a, .int G_broken])), (ag1, .inl (cy 0, 30, .inl G_bodies))] s.heap.size = A at hD hAB0 ⊢
  have hA : ∀ q : Nat, s.heap.size ≤ q → A q := fun q h => by rw [← hAe]; exact Or.inr h
  have hAB : ∀ q, A q → B ≤ q := hAB0
  have hS : va_S A s.heap s.heap [] := va_S.rf
  have hfin : ∀ (z0 : Int32) (G_bodies : (Nat → Int32)) (G_traced : Int32) (G_kind : Int32) (G_n : Int32) (G_a : Int32) (G_broken : Int32), some (z0, (G_bodies, G_traced, G_kind, G_n, G_a, G_broken)) = some z → ∀ (H : Heap) (t : State), t.heap = H → va_P D vwCl [(ag0, .inr (3, [.ref ag1, .int G_traced, .int G_kind, .int G_n, .int G_a, .int G_broken])), (ag1, .inl (cy 0, 30, .inl G_bodies))] H → va_F A s t → Qw (some (.int z.1)) D [(ag0, .inr (3, [.ref ag1, .int z.2.2.1, .int z.2.2.2.1, .int z.2.2.2.2.1, .int z.2.2.2.2.2.1, .int z.2.2.2.2.2.2])), (ag1, .inl (cy 0, 30, .inl z.2.1))] A ([.ref ag0, .int x1, .int x2, .int x3] : List Value).toArray s (.returned (some (.int z0))) t := by
    intro z0 G_bodies G_traced G_kind G_n G_a G_broken h9 H t ht hP hF
    cases h9
    exact ⟨rfl, by rw [ht]; exact hP, hF⟩
  have hin3 : ∀ w ∈ u_ws RX3 TX3 6, w ∈ wsX3_own := by decide +kernel
  have fl23 := hts (.fieldLink RX3 23 "KinCutlery$Stage" "kind" "I") (by decide +kernel)
  have hl := lv_entry ([.ref ag0, .int x1, .int x2, .int x3]) (n := 4) (Nat.le_of_ble_eq_true rfl)
  rw [lg_entry_eq]
  generalize (lg_sl ([.ref ag0, .int x1, .int x2, .int x3]) ++ List.replicate (4 - (lg_sl ([.ref ag0, .int x1, .int x2, .int x3])).length) Slot.unset).toArray = ls at hl ⊢
  have hl : lv_has ls 4 [(0, .ref ag0), (1, .int x1), (2, .int x2), (3, .int x3)] := hl
  have hf : (if ((G_kind * (4 : Int32)) + x1) < 0 ∨ 24 ≤ ((G_kind * (4 : Int32)) + x1).toNatClampNeg then none else (rX3 n d (G_bodies, G_traced, G_kind, G_n, G_a, G_broken) (gsF 3 ((G_kind * (4 : Int32)) + x1).toNatClampNeg) x2 x3).bind fun r15 => some (r15.1, r15.2)) = some z := hf
  refine lv_aload_n hx hb dX3_own_0 rfl (lv_at hl 0 rfl) ?_
  refine va_getsN (C := RX6) (n := "BODY_OF") (d := "[I") (v := .ref (st 3)) hx hb (va_Z.narrow (hG.2.2.1 3 (by decide)).1 hAB) hS hown (va_Nw.use rfl hG.2.1.2.2.2.2.2) (fun _ h9 => h9) dX3_own_1 ?_
  refine lv_aload_n hx hb dX3_own_4 rfl (lv_at hl 0 rfl) ?_
  refine va_get (D := D) (ci := 3) (v := .int G_kind) (C := RX3) (T := TX3) (N := 6) hx hb hts hin3 hown hK hP 0 rfl rfl 2 (by decide) fl23 (fun _ h9 => h9) rfl dX3_own_5 ?_
  refine lv_iconst (v := (4 : Int32)) hx hb dX3_own_8 (by decide) ?_
  refine lv_imul hx hb dX3_own_9 ?_
  refine lv_iload_n hx hb dX3_own_10 rfl (lv_at hl 1 rfl) ?_
  refine lv_iadd hx hb dX3_own_11 ?_
  obtain ⟨h_12, hf⟩ := zg hf
  refine va_ti (v := .int (gsF 3 ((G_kind * (4 : Int32)) + x1).toNatClampNeg)) hx hb (va_T.narrow (hG.2.2.1 3 (by decide)).2 hAB) hS h_12 rfl dX3_own_12 ?_
  refine lv_iload_n hx hb dX3_own_13 rfl (lv_at hl 2 rfl) ?_
  refine lv_iload_n hx hb dX3_own_14 rfl (lv_at hl 3 rfl) ?_
  obtain ⟨r15, hc15, hf⟩ := zb hf
  refine zvw (o := some (.int r15.1)) (As := [.int (gsF 3 ((G_kind * (4 : Int32)) + x1).toNatClampNeg), .int x2, .int x3]) (rest := []) (stk := [.int r15.1]) ⟨hx, hb, hml, hown, hts⟩ (ih _ G_bodies G_traced G_kind G_n G_a G_broken (gsF 3 ((G_kind * (4 : Int32)) + x1).toNatClampNeg) x2 x3 r15 hc15) (cwV 3 hts gX3_own_X3_run rfl rfl rfl (by decide +kernel) ⟨show 2 * d + 1 ≤ 2 * d + 1 from by omega, show 8 + (5 + 11) + 64 * d ≤ 64 * d + 32 from by omega⟩) hG hS hAB hA hP hD [0, 1] (by decide) rfl rfl rfl rfl 0 3 rfl rfl rfl rfl hl.1 rfl (Nat.le_of_ble_eq_true rfl) dX3_own_15 rfl (fun H locs hP hD hS => ?_)
  have hP : va_P D vwCl [(ag0, .inr (3, [.ref ag1, .int r15.2.2.1, .int r15.2.2.2.1, .int r15.2.2.2.2.1, .int r15.2.2.2.2.2.1, .int r15.2.2.2.2.2.2])), (ag1, .inl (cy 0, 30, .inl r15.2.1))] H := hP
  have hD : va_D A [(ag0, .inr (3, [.ref ag1, .int r15.2.2.1, .int r15.2.2.2.1, .int r15.2.2.2.2.1, .int r15.2.2.2.2.2.1, .int r15.2.2.2.2.2.2])), (ag1, .inl (cy 0, 30, .inl r15.2.1))] := hD
  exact W.iret hx hb hr (fun t ht hW => hfin r15.1 r15.2.1 r15.2.2.1 r15.2.2.2.1 r15.2.2.2.2.1 r15.2.2.2.2.2.1 r15.2.2.2.2.2.2 hf _ t ht hP (hS.F ht)) hS.2.2 dX3_own_18
set_option maxRecDepth 100000 in
set_option maxHeartbeats 100000000 in
theorem mX3_runD (l : Launch) (D : va_G) (cy : Nat → ClassId) (st sk sv : Nat → Nat) (B : Nat) (ag0 : Nat) (ag1 : Nat) (n d : Nat) (ih : ∀ (sz : Nat) (G_bodies : (Nat → Int32)) (G_traced : Int32) (G_kind : Int32) (G_n : Int32) (G_a : Int32) (G_broken : Int32) (x1 : Int32) (x2 : Int32) (x3 : Int32) (z : Int32 × SG), rX3 n d (G_bodies, G_traced, G_kind, G_n, G_a, G_broken) x1 x2 x3 = some z → Met l yX3_run wsX3_run ({ frames := 2 * d, cells := 0, slots := 0, locals := 64 * d }) (PcW [.ref ag0, .int x1, .int x2, .int x3] D cy st sk sv B sz [(ag0, .inr (3, [.ref ag1, .int G_traced, .int G_kind, .int G_n, .int G_a, .int G_broken])), (ag1, .inl (cy 0, 30, .inl G_bodies))]) (Qw (some (.int z.1)) D [(ag0, .inr (3, [.ref ag1, .int z.2.2.1, .int z.2.2.2.1, .int z.2.2.2.2.1, .int z.2.2.2.2.2.1, .int z.2.2.2.2.2.2])), (ag1, .inl (cy 0, 30, .inl z.2.1))] (va_A [(ag0, .inr (3, [.ref ag1, .int G_traced, .int G_kind, .int G_n, .int G_a, .int G_broken])), (ag1, .inl (cy 0, 30, .inl G_bodies))] sz)) 0 0 (va_A [(ag0, .inr (3, [.ref ag1, .int G_traced, .int G_kind, .int G_n, .int G_a, .int G_broken])), (ag1, .inl (cy 0, 30, .inl G_bodies))] sz)) (sz : Nat) (G_bodies : (Nat → Int32)) (G_traced : Int32) (G_kind : Int32) (G_n : Int32) (G_a : Int32) (G_broken : Int32) (x1 : Int32) (x2 : Int32) (x3 : Int32) (z : Int32 × SG) (hf : FX3_run n (rX3 n d) (G_bodies, G_traced, G_kind, G_n, G_a, G_broken) x1 x2 x3 = some z) : Met l yX3_run wsX3_run ({ frames := 2 * (d + 1), cells := 0, slots := 0, locals := 64 * (d + 1) }) (PcW [.ref ag0, .int x1, .int x2, .int x3] D cy st sk sv B sz [(ag0, .inr (3, [.ref ag1, .int G_traced, .int G_kind, .int G_n, .int G_a, .int G_broken])), (ag1, .inl (cy 0, 30, .inl G_bodies))]) (Qw (some (.int z.1)) D [(ag0, .inr (3, [.ref ag1, .int z.2.2.1, .int z.2.2.2.1, .int z.2.2.2.2.1, .int z.2.2.2.2.2.1, .int z.2.2.2.2.2.2])), (ag1, .inl (cy 0, 30, .inl z.2.1))] (va_A [(ag0, .inr (3, [.ref ag1, .int G_traced, .int G_kind, .int G_n, .int G_a, .int G_broken])), (ag1, .inl (cy 0, 30, .inl G_bodies))] sz)) 0 0 (va_A [(ag0, .inr (3, [.ref ag1, .int G_traced, .int G_kind, .int G_n, .int G_a, .int G_broken])), (ag1, .inl (cy 0, 30, .inl G_bodies))] sz) := by
  refine Met.ofW (cc := cX3_run) (maxL := 5) (ret := (some .int)) (by decide) rfl ?_
  intro p e s m args below meth c s₁ Bd hml hv
  obtain ⟨rfl, hsz, hP, hD0, hBs, hG⟩ := hv
  have hx := Bd.exec
  have hb := Bd.bytes
  have hr := Bd.returns
  have hts := atoms_spec (ws := wsX3_run) Bd.pre
  have hown : s.vm.findClass RX3 = some m.cls := findClass_of_methodNamed Bd.named
  have hlocks := Bd.notSynchronized
  have hK := hG.1
  subst hsz
  have hD := hD0.self (sz := s.heap.size)
  have hAB0 := zA hD0 hBs
  generalize hAe : va_A [(ag0, .inr (3, [.ref ag1, .int G_traced, .int G_kind, .int G_n, .int G_a, .int G_broken])), (ag1, .inl (cy 0, 30, .inl G_bodies))] s.heap.size = A at hD hAB0 ⊢
  have hA : ∀ q : Nat, s.heap.size ≤ q → A q := fun q h => by rw [← hAe]; exact Or.inr h
  have hAB : ∀ q, A q → B ≤ q := hAB0
  have hS : va_S A s.heap s.heap [] := va_S.rf
  have hfin : ∀ (z0 : Int32) (G_bodies : (Nat → Int32)) (G_traced : Int32) (G_kind : Int32) (G_n : Int32) (G_a : Int32) (G_broken : Int32), some (z0, (G_bodies, G_traced, G_kind, G_n, G_a, G_broken)) = some z → ∀ (H : Heap) (t : State), t.heap = H → va_P D vwCl [(ag0, .inr (3, [.ref ag1, .int G_traced, .int G_kind, .int G_n, .int G_a, .int G_broken])), (ag1, .inl (cy 0, 30, .inl G_bodies))] H → va_F A s t → Qw (some (.int z.1)) D [(ag0, .inr (3, [.ref ag1, .int z.2.2.1, .int z.2.2.2.1, .int z.2.2.2.2.1, .int z.2.2.2.2.2.1, .int z.2.2.2.2.2.2])), (ag1, .inl (cy 0, 30, .inl z.2.1))] A ([.ref ag0, .int x1, .int x2, .int x3] : List Value).toArray s (.returned (some (.int z0))) t := by
    intro z0 G_bodies G_traced G_kind G_n G_a G_broken h9 H t ht hP hF
    cases h9
    exact ⟨rfl, by rw [ht]; exact hP, hF⟩
  have hin3 : ∀ w ∈ u_ws RX3 TX3 6, w ∈ wsX3_run := by decide +kernel
  have fl19 := hts (.fieldLink RX3 19 "KinCutlery$Stage" "broken" "Z") (by decide +kernel)
  have fl26 := hts (.fieldLink RX3 26 "KinCutlery$Stage" "n" "I") (by decide +kernel)
  have fl29 := hts (.fieldLink RX3 29 "KinCutlery$Stage" "a" "I") (by decide +kernel)
  have hl := lv_entry ([.ref ag0, .int x1, .int x2, .int x3]) (n := 5) (Nat.le_of_ble_eq_true rfl)
  rw [lg_entry_eq]
  generalize (lg_sl ([.ref ag0, .int x1, .int x2, .int x3]) ++ List.replicate (5 - (lg_sl ([.ref ag0, .int x1, .int x2, .int x3])).length) Slot.unset).toArray = ls at hl ⊢
  have hl : lv_has ls 5 [(0, .ref ag0), (1, .int x1), (2, .int x2), (3, .int x3)] := hl
  have hf : (if G_broken = 0 then (if x3 ≤ (20 : Int32) then ((fX3_begin n (G_bodies, G_traced, G_kind, G_n, G_a, G_broken) x1).bind fun r17 => if x1 = (10 : Int32) then (some (((x2 * (2 : Int32)) + r17.2.2.2.1), r17)) else if x1 = (11 : Int32) then ((FX3_own n (rX3 n d) r17 (0 : Int32) x2 (x3 + (1 : Int32))).bind fun r262 => some ((r262.1 - (r262.2.2.2.2.2.1 * (3 : Int32))), r262.2)) else if x1 = (12 : Int32) then ((fX3_parted n r17 x2).bind fun r275 => some (r275.1, r275.2)) else if x1 = (13 : Int32) then ((FX3_own n (rX3 n d) r17 (1 : Int32) x2 (x3 + (1 : Int32))).bind fun r284 => some ((r284.1 ^^^ (210 : Int32)), r284.2)) else if x1 = (14 : Int32) then (some ((0 : Int32), r17)) else if x1 = (15 : Int32) then (some ((0 : Int32), r17)) else if x1 = (16 : Int32) then (some ((0 : Int32), r17)) else if x1 = (17 : Int32) then (some ((0 : Int32), r17)) else if x1 = (18 : Int32) then (some ((0 : Int32), r17)) else if x1 = (19 : Int32) then (some ((0 : Int32), r17)) else if x1 = (20 : Int32) then ((rX3 n d r17 (11 : Int32) x2 (x3 + (1 : Int32))).bind fun r298 => some ((r298.1 + (7 : Int32)), r298.2)) else if x1 = (21 : Int32) then (some ((0 : Int32), r17)) else if x1 = (22 : Int32) then (some ((0 : Int32), r17)) else if x1 = (23 : Int32) then (some ((0 : Int32), r17)) else if x1 = (24 : Int32) then (some ((0 : Int32), r17)) else if x1 = (25 : Int32) then (some ((0 : Int32), r17)) else if x1 = (26 : Int32) then (some ((0 : Int32), r17)) else if x1 = (27 : Int32) then (some ((0 : Int32), r17)) else if x1 = (28 : Int32) then (some ((0 : Int32), r17)) else if x1 = (29 : Int32) then (some ((0 : Int32), r17)) else if x1 = (30 : Int32) then ((rX3 n d r17 (10 : Int32) x2 (x3 + (1 : Int32))).bind fun r311 => some ((r311.1 * (3 : Int32)), r311.2)) else if x1 = (31 : Int32) then ((rX3 n d r17 (13 : Int32) x2 (x3 + (1 : Int32))).bind fun r323 => (FX3_own n (rX3 n d) r323.2 (2 : Int32) r323.2.2.2.2.1 (x3 + (1 : Int32))).bind fun r334 => some ((r323.1 - r334.1), r334.2)) else if x1 = (32 : Int32) then (some ((0 : Int32), r17)) else if x1 = (33 : Int32) then (some ((0 : Int32), r17)) else if x1 = (34 : Int32) then (some ((0 : Int32), r17)) else if x1 = (35 : Int32) then (some ((0 : Int32), r17)) else if x1 = (36 : Int32) then (some ((0 : Int32), r17)) else if x1 = (37 : Int32) then (some ((0 : Int32), r17)) else if x1 = (38 : Int32) then (some ((0 : Int32), r17)) else if x1 = (39 : Int32) then (some ((0 : Int32), r17)) else if x1 = (40 : Int32) then ((rX3 n d r17 (30 : Int32) x2 (x3 + (1 : Int32))).bind fun r346 => some (((0 : Int32) - r346.1), r346.2)) else if x1 = (41 : Int32) then ((rX3 n d r17 (11 : Int32) x2 (x3 + (1 : Int32))).bind fun r357 => (FX3_own n (rX3 n d) r357.2 (0 : Int32) r357.2.2.2.2.2.1 (x3 + (1 : Int32))).bind fun r368 => some ((r357.1 + r368.1), r368.2)) else if x1 = (42 : Int32) then (some ((0 : Int32), r17)) else if x1 = (43 : Int32) then (some ((0 : Int32), r17)) else if x1 = (44 : Int32) then (some ((0 : Int32), r17)) else if x1 = (45 : Int32) then (some ((0 : Int32), r17)) else if x1 = (46 : Int32) then (some ((0 : Int32), r17)) else if x1 = (47 : Int32) then (some ((0 : Int32), r17)) else if x1 = (48 : Int32) then (some ((0 : Int32), r17)) else if x1 = (49 : Int32) then (some ((0 : Int32), r17)) else if x1 = (50 : Int32) then ((rX3 n d r17 (12 : Int32) (x2 * (2 : Int32)) (x3 + (1 : Int32))).bind fun r381 => some ((r381.1 ^^^ (3 : Int32)), r381.2)) else if x1 = (51 : Int32) then ((rX3 n d r17 (10 : Int32) x2 (x3 + (1 : Int32))).bind fun r393 => some ((r393.1 - r393.2.2.2.2.2.1), r393.2)) else if x1 = (52 : Int32) then (some ((0 : Int32), r17)) else if x1 = (53 : Int32) then (some ((0 : Int32), r17)) else if x1 = (54 : Int32) then (some ((0 : Int32), r17)) else if x1 = (55 : Int32) then (some ((0 : Int32), r17)) else if x1 = (56 : Int32) then (some ((0 : Int32), r17)) else if x1 = (57 : Int32) then (some ((0 : Int32), r17)) else if x1 = (58 : Int32) then (some ((0 : Int32), r17)) else if x1 = (59 : Int32) then (some ((0 : Int32), r17)) else if x1 = (60 : Int32) then ((rX3 n d r17 (13 : Int32) x2 (x3 + (1 : Int32))).bind fun r408 => some ((r408.1 * (4 : Int32)), r408.2)) else if x1 = (61 : Int32) then ((rX3 n d r17 (12 : Int32) x2 (x3 + (1 : Int32))).bind fun r420 => (FX3_own n (rX3 n d) r420.2 (0 : Int32) r420.2.2.2.2.1 (x3 + (1 : Int32))).bind fun r431 => some ((r420.1 + r431.1), r431.2)) else  (some ((0 : Int32), r17))) else (some ((0 : Int32), (G_bodies, G_traced, G_kind, G_n, G_a, G_broken)))) else (some ((0 : Int32), (G_bodies, G_traced, G_kind, G_n, G_a, G_broken)))) = some z := hf
  refine lv_aload_n hx hb dX3_run_0 rfl (lv_at hl 0 rfl) ?_
  refine va_get (D := D) (ci := 3) (v := .int G_broken) (C := RX3) (T := TX3) (N := 6) hx hb hts hin3 hown hK hP 0 rfl rfl 5 (by decide) fl19 (fun _ h9 => h9) rfl dX3_run_1 ?_
  refine lv_if_ne (tgt := 13) hx hb dX3_run_4 (by decide) (fun c_4 => ?_) (fun c_4 => ?_)
  · have hf := zn hf c_4
    refine lv_iconst (v := (0 : Int32)) hx hb dX3_run_13 (by decide) ?_
    exact W.iret hx hb hr (fun t ht hW => hfin (0 : Int32) G_bodies G_traced G_kind G_n G_a G_broken hf _ t ht hP (hS.F ht)) hS.2.2 dX3_run_14
  · have hf := zp hf c_4
    refine lv_iload_n hx hb dX3_run_7 rfl (lv_at hl 3 rfl) ?_
    refine lv_bipush (v := (20 : Int32)) hx hb dX3_run_8 (by decide) ?_
    refine lv_icmp_le (tgt := 15) hx hb dX3_run_10 (by decide) (fun c_10 => ?_) (fun c_10 => ?_)
    · have hf := zp hf c_10
      refine lv_aload_n hx hb dX3_run_15 rfl (lv_at hl 0 rfl) ?_
      refine lv_iload_n hx hb dX3_run_16 rfl (lv_at hl 1 rfl) ?_
      obtain ⟨r17, hc17, hf⟩ := zb hf
      refine zvw (o := none) (As := [.int x1]) (rest := []) (stk := []) ⟨hx, hb, hml, hown, hts⟩ (mX3_begin l D cy st sk sv B ag0 ag1 _ n G_bodies G_traced G_kind G_n G_a G_broken x1 r17 hc17) (cwV 1 hts gX3_run_X3_begin rfl rfl rfl (by decide +kernel) ⟨show 0 + 1 ≤ 2 * (d + 1) from by omega, show 8 + (2 + 11) + 0 ≤ 64 * (d + 1) from by omega⟩) hG hS hAB hA hP hD [0, 1] (by decide) rfl rfl rfl rfl 0 3 rfl rfl rfl rfl hl.1 rfl (Nat.le_of_ble_eq_true rfl) dX3_run_17 rfl (fun H locs hP hD hS => ?_)
      have hP : va_P D vwCl [(ag0, .inr (3, [.ref ag1, .int r17.2.1, .int r17.2.2.1, .int r17.2.2.2.1, .int r17.2.2.2.2.1, .int r17.2.2.2.2.2])), (ag1, .inl (cy 0, 30, .inl r17.1))] H := hP
      have hD : va_D A [(ag0, .inr (3, [.ref ag1, .int r17.2.1, .int r17.2.2.1, .int r17.2.2.2.1, .int r17.2.2.2.2.1, .int r17.2.2.2.2.2])), (ag1, .inl (cy 0, 30, .inl r17.1))] := hD
      refine lv_iload_n hx hb dX3_run_20 rfl (lv_at hl 3 rfl) ?_
      refine lv_iconst (v := (1 : Int32)) hx hb dX3_run_21 (by decide) ?_
      refine lv_iadd hx hb dX3_run_22 ?_
      refine lv_istore (lv' := [(4, .int (x3 + (1 : Int32))), (0, .ref ag0), (1, .int x1), (2, .int x2), (3, .int x3)]) hx hb dX3_run_23 hl (by decide) rfl (fun ls hl => ?_)
      refine lv_iload_n hx hb dX3_run_25 rfl (lv_at hl 2 rfl) ?_
      by_cases c_26_10 : x1 = (10 : Int32)
      · have hf := zp hf c_26_10
        refine lv_tableIn (tgt := 248) hx hb dX3_run_26 (by rw [c_26_10]; decide) (by rw [c_26_10]; decide) (by rw [c_26_10]; rfl) (by decide) ?_
        refine lv_iload_n hx hb dX3_run_248 rfl (lv_at hl 3 rfl) ?_
        refine lv_iconst (v := (2 : Int32)) hx hb dX3_run_249 (by decide) ?_
        refine lv_imul hx hb dX3_run_250 ?_
        refine lv_aload_n hx hb dX3_run_251 rfl (lv_at hl 1 rfl) ?_
        refine va_get (D := D) (ci := 3) (v := .int r17.2.2.2.1) (C := RX3) (T := TX3) (N := 6) hx hb hts hin3 hown hK hP 0 rfl rfl 3 (by decide) fl26 (fun _ h9 => h9) rfl dX3_run_252 ?_
        refine lv_iadd hx hb dX3_run_255 ?_
        exact W.iret hx hb hr (fun t ht hW => hfin ((x2 * (2 : Int32)) + r17.2.2.2.1) r17.1 r17.2.1 r17.2.2.1 r17.2.2.2.1 r17.2.2.2.2.1 r17.2.2.2.2.2 hf _ t ht hP (hS.F ht)) hS.2.2 dX3_run_256
      have hf := zn hf c_26_10
      by_cases c_26_11 : x1 = (11 : Int32)
      · have hf := zp hf c_26_11
        refine lv_tableIn (tgt := 257) hx hb dX3_run_26 (by rw [c_26_11]; decide) (by rw [c_26_11]; decide) (by rw [c_26_11]; rfl) (by decide) ?_
        refine lv_aload_n hx hb dX3_run_257 rfl (lv_at hl 1 rfl) ?_
        refine lv_iconst (v := (0 : Int32)) hx hb dX3_run_258 (by decide) ?_
        refine lv_iload_n hx hb dX3_run_259 rfl (lv_at hl 3 rfl) ?_
        refine lv_iload hx hb dX3_run_260 (lv_at hl 0 rfl) ?_
        obtain ⟨r262, hc262, hf⟩ := zb hf
        refine zvw (o := some (.int r262.1)) (As := [.int (0 : Int32), .int x2, .int (x3 + (1 : Int32))]) (rest := []) (stk := [.int r262.1]) ⟨hx, hb, hml, hown, hts⟩ (mX3_ownD l D cy st sk sv B ag0 ag1 n d ih _ r17.1 r17.2.1 r17.2.2.1 r17.2.2.2.1 r17.2.2.2.2.1 r17.2.2.2.2.2 (0 : Int32) x2 (x3 + (1 : Int32)) r262 hc262) (cwV 3 hts gX3_run_X3_own rfl rfl rfl (by decide +kernel) ⟨show 2 * d + 1 + 1 ≤ 2 * (d + 1) from by omega, show 8 + (4 + 11) + (64 * d + 32) ≤ 64 * (d + 1) from by omega⟩) hG hS hAB hA hP hD [0, 1] (by decide) rfl rfl rfl rfl 0 3 rfl rfl rfl rfl hl.1 rfl (Nat.le_of_ble_eq_true rfl) dX3_run_262 rfl (fun H locs hP hD hS => ?_)
        have hP : va_P D vwCl [(ag0, .inr (3, [.ref ag1, .int r262.2.2.1, .int r262.2.2.2.1, .int r262.2.2.2.2.1, .int r262.2.2.2.2.2.1, .int r262.2.2.2.2.2.2])), (ag1, .inl (cy 0, 30, .inl r262.2.1))] H := hP
        have hD : va_D A [(ag0, .inr (3, [.ref ag1, .int r262.2.2.1, .int r262.2.2.2.1, .int r262.2.2.2.2.1, .int r262.2.2.2.2.2.1, .int r262.2.2.2.2.2.2])), (ag1, .inl (cy 0, 30, .inl r262.2.1))] := hD
        refine lv_aload_n hx hb dX3_run_265 rfl (lv_at hl 1 rfl) ?_
        refine va_get (D := D) (ci := 3) (v := .int r262.2.2.2.2.2.1) (C := RX3) (T := TX3) (N := 6) hx hb hts hin3 hown hK hP 0 rfl rfl 4 (by decide) fl29 (fun _ h9 => h9) rfl dX3_run_266 ?_
        refine lv_iconst (v := (3 : Int32)) hx hb dX3_run_269 (by decide) ?_
        refine lv_imul hx hb dX3_run_270 ?_
        refine lv_isub hx hb dX3_run_271 ?_
        exact W.iret hx hb hr (fun t ht hW => hfin (r262.1 - (r262.2.2.2.2.2.1 * (3 : Int32))) r262.2.1 r262.2.2.1 r262.2.2.2.1 r262.2.2.2.2.1 r262.2.2.2.2.2.1 r262.2.2.2.2.2.2 hf _ t ht hP (hS.F ht)) hS.2.2 dX3_run_272
      have hf := zn hf c_26_11
      by_cases c_26_12 : x1 = (12 : Int32)
      · have hf := zp hf c_26_12
        refine lv_tableIn (tgt := 273) hx hb dX3_run_26 (by rw [c_26_12]; decide) (by rw [c_26_12]; decide) (by rw [c_26_12]; rfl) (by decide) ?_
        refine lv_aload_n hx hb dX3_run_273 rfl (lv_at hl 1 rfl) ?_
        refine lv_iload_n hx hb dX3_run_274 rfl (lv_at hl 3 rfl) ?_
        obtain ⟨r275, hc275, hf⟩ := zb hf
        refine zvw (o := some (.int r275.1)) (As := [.int x2]) (rest := []) (stk := [.int r275.1]) ⟨hx, hb, hml, hown, hts⟩ (mX3_parted l D cy st sk sv B ag0 ag1 _ n r17.1 r17.2.1 r17.2.2.1 r17.2.2.2.1 r17.2.2.2.2.1 r17.2.2.2.2.2 x2 r275 hc275) (cwV 1 hts gX3_run_X3_parted rfl rfl rfl (by decide +kernel) ⟨show 0 + 1 ≤ 2 * (d + 1) from by omega, show 8 + (2 + 11) + 0 ≤ 64 * (d + 1) from by omega⟩) hG hS hAB hA hP hD [0, 1] (by decide) rfl rfl rfl rfl 0 3 rfl rfl rfl rfl hl.1 rfl (Nat.le_of_ble_eq_true rfl) dX3_run_275 rfl (fun H locs hP hD hS => ?_)
        have hP : va_P D vwCl [(ag0, .inr (3, [.ref ag1, .int r275.2.2.1, .int r275.2.2.2.1, .int r275.2.2.2.2.1, .int r275.2.2.2.2.2.1, .int r275.2.2.2.2.2.2])), (ag1, .inl (cy 0, 30, .inl r275.2.1))] H := hP
        have hD : va_D A [(ag0, .inr (3, [.ref ag1, .int r275.2.2.1, .int r275.2.2.2.1, .int r275.2.2.2.2.1, .int r275.2.2.2.2.2.1, .int r275.2.2.2.2.2.2])), (ag1, .inl (cy 0, 30, .inl r275.2.1))] := hD
        exact W.iret hx hb hr (fun t ht hW => hfin r275.1 r275.2.1 r275.2.2.1 r275.2.2.2.1 r275.2.2.2.2.1 r275.2.2.2.2.2.1 r275.2.2.2.2.2.2 hf _ t ht hP (hS.F ht)) hS.2.2 dX3_run_278
      have hf := zn hf c_26_12
      by_cases c_26_13 : x1 = (13 : Int32)
      · have hf := zp hf c_26_13
        refine lv_tableIn (tgt := 279) hx hb dX3_run_26 (by rw [c_26_13]; decide) (by rw [c_26_13]; decide) (by rw [c_26_13]; rfl) (by decide) ?_
        refine lv_aload_n hx hb dX3_run_279 rfl (lv_at hl 1 rfl) ?_
        refine lv_iconst (v := (1 : Int32)) hx hb dX3_run_280 (by decide) ?_
        refine lv_iload_n hx hb dX3_run_281 rfl (lv_at hl 3 rfl) ?_
        refine lv_iload hx hb dX3_run_282 (lv_at hl 0 rfl) ?_
        obtain ⟨r284, hc284, hf⟩ := zb hf
        refine zvw (o := some (.int r284.1)) (As := [.int (1 : Int32), .int x2, .int (x3 + (1 : Int32))]) (rest := []) (stk := [.int r284.1]) ⟨hx, hb, hml, hown, hts⟩ (mX3_ownD l D cy st sk sv B ag0 ag1 n d ih _ r17.1 r17.2.1 r17.2.2.1 r17.2.2.2.1 r17.2.2.2.2.1 r17.2.2.2.2.2 (1 : Int32) x2 (x3 + (1 : Int32)) r284 hc284) (cwV 3 hts gX3_run_X3_own rfl rfl rfl (by decide +kernel) ⟨show 2 * d + 1 + 1 ≤ 2 * (d + 1) from by omega, show 8 + (4 + 11) + (64 * d + 32) ≤ 64 * (d + 1) from by omega⟩) hG hS hAB hA hP hD [0, 1] (by decide) rfl rfl rfl rfl 0 3 rfl rfl rfl rfl hl.1 rfl (Nat.le_of_ble_eq_true rfl) dX3_run_284 rfl (fun H locs hP hD hS => ?_)
        have hP : va_P D vwCl [(ag0, .inr (3, [.ref ag1, .int r284.2.2.1, .int r284.2.2.2.1, .int r284.2.2.2.2.1, .int r284.2.2.2.2.2.1, .int r284.2.2.2.2.2.2])), (ag1, .inl (cy 0, 30, .inl r284.2.1))] H := hP
        have hD : va_D A [(ag0, .inr (3, [.ref ag1, .int r284.2.2.1, .int r284.2.2.2.1, .int r284.2.2.2.2.1, .int r284.2.2.2.2.2.1, .int r284.2.2.2.2.2.2])), (ag1, .inl (cy 0, 30, .inl r284.2.1))] := hD
        refine lv_sipush (v := (210 : Int32)) hx hb dX3_run_287 (by decide) ?_
        refine lv_ixor hx hb dX3_run_290 ?_
        exact W.iret hx hb hr (fun t ht hW => hfin (r284.1 ^^^ (210 : Int32)) r284.2.1 r284.2.2.1 r284.2.2.2.1 r284.2.2.2.2.1 r284.2.2.2.2.2.1 r284.2.2.2.2.2.2 hf _ t ht hP (hS.F ht)) hS.2.2 dX3_run_291
      have hf := zn hf c_26_13
      by_cases c_26_14 : x1 = (14 : Int32)
      · have hf := zp hf c_26_14
        refine lv_tableIn (tgt := 436) hx hb dX3_run_26 (by rw [c_26_14]; decide) (by rw [c_26_14]; decide) (by rw [c_26_14]; rfl) (by decide) ?_
        refine lv_iconst (v := (0 : Int32)) hx hb dX3_run_436 (by decide) ?_
        exact W.iret hx hb hr (fun t ht hW => hfin (0 : Int32) r17.1 r17.2.1 r17.2.2.1 r17.2.2.2.1 r17.2.2.2.2.1 r17.2.2.2.2.2 hf _ t ht hP (hS.F ht)) hS.2.2 dX3_run_437
      have hf := zn hf c_26_14
      by_cases c_26_15 : x1 = (15 : Int32)
      · have hf := zp hf c_26_15
        refine lv_tableIn (tgt := 436) hx hb dX3_run_26 (by rw [c_26_15]; decide) (by rw [c_26_15]; decide) (by rw [c_26_15]; rfl) (by decide) ?_
        refine lv_iconst (v := (0 : Int32)) hx hb dX3_run_436 (by decide) ?_
        exact W.iret hx hb hr (fun t ht hW => hfin (0 : Int32) r17.1 r17.2.1 r17.2.2.1 r17.2.2.2.1 r17.2.2.2.2.1 r17.2.2.2.2.2 hf _ t ht hP (hS.F ht)) hS.2.2 dX3_run_437
      have hf := zn hf c_26_15
      by_cases c_26_16 : x1 = (16 : Int32)
      · have hf := zp hf c_26_16
        refine lv_tableIn (tgt := 436) hx hb dX3_run_26 (by rw [c_26_16]; decide) (by rw [c_26_16]; decide) (by rw [c_26_16]; rfl) (by decide) ?_
        refine lv_iconst (v := (0 : Int32)) hx hb dX3_run_436 (by decide) ?_
        exact W.iret hx hb hr (fun t ht hW => hfin (0 : Int32) r17.1 r17.2.1 r17.2.2.1 r17.2.2.2.1 r17.2.2.2.2.1 r17.2.2.2.2.2 hf _ t ht hP (hS.F ht)) hS.2.2 dX3_run_437
      have hf := zn hf c_26_16
      by_cases c_26_17 : x1 = (17 : Int32)
      · have hf := zp hf c_26_17
        refine lv_tableIn (tgt := 436) hx hb dX3_run_26 (by rw [c_26_17]; decide) (by rw [c_26_17]; decide) (by rw [c_26_17]; rfl) (by decide) ?_
        refine lv_iconst (v := (0 : Int32)) hx hb dX3_run_436 (by decide) ?_
        exact W.iret hx hb hr (fun t ht hW => hfin (0 : Int32) r17.1 r17.2.1 r17.2.2.1 r17.2.2.2.1 r17.2.2.2.2.1 r17.2.2.2.2.2 hf _ t ht hP (hS.F ht)) hS.2.2 dX3_run_437
      have hf := zn hf c_26_17
      by_cases c_26_18 : x1 = (18 : Int32)
      · have hf := zp hf c_26_18
        refine lv_tableIn (tgt := 436) hx hb dX3_run_26 (by rw [c_26_18]; decide) (by rw [c_26_18]; decide) (by rw [c_26_18]; rfl) (by decide) ?_
        refine lv_iconst (v := (0 : Int32)) hx hb dX3_run_436 (by decide) ?_
        exact W.iret hx hb hr (fun t ht hW => hfin (0 : Int32) r17.1 r17.2.1 r17.2.2.1 r17.2.2.2.1 r17.2.2.2.2.1 r17.2.2.2.2.2 hf _ t ht hP (hS.F ht)) hS.2.2 dX3_run_437
      have hf := zn hf c_26_18
      by_cases c_26_19 : x1 = (19 : Int32)
      · have hf := zp hf c_26_19
        refine lv_tableIn (tgt := 436) hx hb dX3_run_26 (by rw [c_26_19]; decide) (by rw [c_26_19]; decide) (by rw [c_26_19]; rfl) (by decide) ?_
        refine lv_iconst (v := (0 : Int32)) hx hb dX3_run_436 (by decide) ?_
        exact W.iret hx hb hr (fun t ht hW => hfin (0 : Int32) r17.1 r17.2.1 r17.2.2.1 r17.2.2.2.1 r17.2.2.2.2.1 r17.2.2.2.2.2 hf _ t ht hP (hS.F ht)) hS.2.2 dX3_run_437
      have hf := zn hf c_26_19
      by_cases c_26_20 : x1 = (20 : Int32)
      · have hf := zp hf c_26_20
        refine lv_tableIn (tgt := 292) hx hb dX3_run_26 (by rw [c_26_20]; decide) (by rw [c_26_20]; decide) (by rw [c_26_20]; rfl) (by decide) ?_
        refine lv_aload_n hx hb dX3_run_292 rfl (lv_at hl 1 rfl) ?_
        refine lv_bipush (v := (11 : Int32)) hx hb dX3_run_293 (by decide) ?_
        refine lv_iload_n hx hb dX3_run_295 rfl (lv_at hl 3 rfl) ?_
        refine lv_iload hx hb dX3_run_296 (lv_at hl 0 rfl) ?_
        obtain ⟨r298, hc298, hf⟩ := zb hf
        refine zvw (o := some (.int r298.1)) (As := [.int (11 : Int32), .int x2, .int (x3 + (1 : Int32))]) (rest := []) (stk := [.int r298.1]) ⟨hx, hb, hml, hown, hts⟩ (ih _ r17.1 r17.2.1 r17.2.2.1 r17.2.2.2.1 r17.2.2.2.2.1 r17.2.2.2.2.2 (11 : Int32) x2 (x3 + (1 : Int32)) r298 hc298) (cwV 3 hts gX3_run_X3_run rfl rfl rfl (by decide +kernel) ⟨show 2 * d + 1 ≤ 2 * (d + 1) from by omega, show 8 + (5 + 11) + 64 * d ≤ 64 * (d + 1) from by omega⟩) hG hS hAB hA hP hD [0, 1] (by decide) rfl rfl rfl rfl 0 3 rfl rfl rfl rfl hl.1 rfl (Nat.le_of_ble_eq_true rfl) dX3_run_298 rfl (fun H locs hP hD hS => ?_)
        have hP : va_P D vwCl [(ag0, .inr (3, [.ref ag1, .int r298.2.2.1, .int r298.2.2.2.1, .int r298.2.2.2.2.1, .int r298.2.2.2.2.2.1, .int r298.2.2.2.2.2.2])), (ag1, .inl (cy 0, 30, .inl r298.2.1))] H := hP
        have hD : va_D A [(ag0, .inr (3, [.ref ag1, .int r298.2.2.1, .int r298.2.2.2.1, .int r298.2.2.2.2.1, .int r298.2.2.2.2.2.1, .int r298.2.2.2.2.2.2])), (ag1, .inl (cy 0, 30, .inl r298.2.1))] := hD
        refine lv_bipush (v := (7 : Int32)) hx hb dX3_run_301 (by decide) ?_
        refine lv_iadd hx hb dX3_run_303 ?_
        exact W.iret hx hb hr (fun t ht hW => hfin (r298.1 + (7 : Int32)) r298.2.1 r298.2.2.1 r298.2.2.2.1 r298.2.2.2.2.1 r298.2.2.2.2.2.1 r298.2.2.2.2.2.2 hf _ t ht hP (hS.F ht)) hS.2.2 dX3_run_304
      have hf := zn hf c_26_20
      by_cases c_26_21 : x1 = (21 : Int32)
      · have hf := zp hf c_26_21
        refine lv_tableIn (tgt := 436) hx hb dX3_run_26 (by rw [c_26_21]; decide) (by rw [c_26_21]; decide) (by rw [c_26_21]; rfl) (by decide) ?_
        refine lv_iconst (v := (0 : Int32)) hx hb dX3_run_436 (by decide) ?_
        exact W.iret hx hb hr (fun t ht hW => hfin (0 : Int32) r17.1 r17.2.1 r17.2.2.1 r17.2.2.2.1 r17.2.2.2.2.1 r17.2.2.2.2.2 hf _ t ht hP (hS.F ht)) hS.2.2 dX3_run_437
      have hf := zn hf c_26_21
      by_cases c_26_22 : x1 = (22 : Int32)
      · have hf := zp hf c_26_22
        refine lv_tableIn (tgt := 436) hx hb dX3_run_26 (by rw [c_26_22]; decide) (by rw [c_26_22]; decide) (by rw [c_26_22]; rfl) (by decide) ?_
        refine lv_iconst (v := (0 : Int32)) hx hb dX3_run_436 (by decide) ?_
        exact W.iret hx hb hr (fun t ht hW => hfin (0 : Int32) r17.1 r17.2.1 r17.2.2.1 r17.2.2.2.1 r17.2.2.2.2.1 r17.2.2.2.2.2 hf _ t ht hP (hS.F ht)) hS.2.2 dX3_run_437
      have hf := zn hf c_26_22
      by_cases c_26_23 : x1 = (23 : Int32)
      · have hf := zp hf c_26_23
        refine lv_tableIn (tgt := 436) hx hb dX3_run_26 (by rw [c_26_23]; decide) (by rw [c_26_23]; decide) (by rw [c_26_23]; rfl) (by decide) ?_
        refine lv_iconst (v := (0 : Int32)) hx hb dX3_run_436 (by decide) ?_
        exact W.iret hx hb hr (fun t ht hW => hfin (0 : Int32) r17.1 r17.2.1 r17.2.2.1 r17.2.2.2.1 r17.2.2.2.2.1 r17.2.2.2.2.2 hf _ t ht hP (hS.F ht)) hS.2.2 dX3_run_437
      have hf := zn hf c_26_23
      by_cases c_26_24 : x1 = (24 : Int32)
      · have hf := zp hf c_26_24
        refine lv_tableIn (tgt := 436) hx hb dX3_run_26 (by rw [c_26_24]; decide) (by rw [c_26_24]; decide) (by rw [c_26_24]; rfl) (by decide) ?_
        refine lv_iconst (v := (0 : Int32)) hx hb dX3_run_436 (by decide) ?_
        exact W.iret hx hb hr (fun t ht hW => hfin (0 : Int32) r17.1 r17.2.1 r17.2.2.1 r17.2.2.2.1 r17.2.2.2.2.1 r17.2.2.2.2.2 hf _ t ht hP (hS.F ht)) hS.2.2 dX3_run_437
      have hf := zn hf c_26_24
      by_cases c_26_25 : x1 = (25 : Int32)
      · have hf := zp hf c_26_25
        refine lv_tableIn (tgt := 436) hx hb dX3_run_26 (by rw [c_26_25]; decide) (by rw [c_26_25]; decide) (by rw [c_26_25]; rfl) (by decide) ?_
        refine lv_iconst (v := (0 : Int32)) hx hb dX3_run_436 (by decide) ?_
        exact W.iret hx hb hr (fun t ht hW => hfin (0 : Int32) r17.1 r17.2.1 r17.2.2.1 r17.2.2.2.1 r17.2.2.2.2.1 r17.2.2.2.2.2 hf _ t ht hP (hS.F ht)) hS.2.2 dX3_run_437
      have hf := zn hf c_26_25
      by_cases c_26_26 : x1 = (26 : Int32)
      · have hf := zp hf c_26_26
        refine lv_tableIn (tgt := 436) hx hb dX3_run_26 (by rw [c_26_26]; decide) (by rw [c_26_26]; decide) (by rw [c_26_26]; rfl) (by decide) ?_
        refine lv_iconst (v := (0 : Int32)) hx hb dX3_run_436 (by decide) ?_
        exact W.iret hx hb hr (fun t ht hW => hfin (0 : Int32) r17.1 r17.2.1 r17.2.2.1 r17.2.2.2.1 r17.2.2.2.2.1 r17.2.2.2.2.2 hf _ t ht hP (hS.F ht)) hS.2.2 dX3_run_437
      have hf := zn hf c_26_26
      by_cases c_26_27 : x1 = (27 : Int32)
      · have hf := zp hf c_26_27
        refine lv_tableIn (tgt := 436) hx hb dX3_run_26 (by rw [c_26_27]; decide) (by rw [c_26_27]; decide) (by rw [c_26_27]; rfl) (by decide) ?_
        refine lv_iconst (v := (0 : Int32)) hx hb dX3_run_436 (by decide) ?_
        exact W.iret hx hb hr (fun t ht hW => hfin (0 : Int32) r17.1 r17.2.1 r17.2.2.1 r17.2.2.2.1 r17.2.2.2.2.1 r17.2.2.2.2.2 hf _ t ht hP (hS.F ht)) hS.2.2 dX3_run_437
      have hf := zn hf c_26_27
      by_cases c_26_28 : x1 = (28 : Int32)
      · have hf := zp hf c_26_28
        refine lv_tableIn (tgt := 436) hx hb dX3_run_26 (by rw [c_26_28]; decide) (by rw [c_26_28]; decide) (by rw [c_26_28]; rfl) (by decide) ?_
        refine lv_iconst (v := (0 : Int32)) hx hb dX3_run_436 (by decide) ?_
        exact W.iret hx hb hr (fun t ht hW => hfin (0 : Int32) r17.1 r17.2.1 r17.2.2.1 r17.2.2.2.1 r17.2.2.2.2.1 r17.2.2.2.2.2 hf _ t ht hP (hS.F ht)) hS.2.2 dX3_run_437
      have hf := zn hf c_26_28
      by_cases c_26_29 : x1 = (29 : Int32)
      · have hf := zp hf c_26_29
        refine lv_tableIn (tgt := 436) hx hb dX3_run_26 (by rw [c_26_29]; decide) (by rw [c_26_29]; decide) (by rw [c_26_29]; rfl) (by decide) ?_
        refine lv_iconst (v := (0 : Int32)) hx hb dX3_run_436 (by decide) ?_
        exact W.iret hx hb hr (fun t ht hW => hfin (0 : Int32) r17.1 r17.2.1 r17.2.2.1 r17.2.2.2.1 r17.2.2.2.2.1 r17.2.2.2.2.2 hf _ t ht hP (hS.F ht)) hS.2.2 dX3_run_437
      have hf := zn hf c_26_29
      by_cases c_26_30 : x1 = (30 : Int32)
      · have hf := zp hf c_26_30
        refine lv_tableIn (tgt := 305) hx hb dX3_run_26 (by rw [c_26_30]; decide) (by rw [c_26_30]; decide) (by rw [c_26_30]; rfl) (by decide) ?_
        refine lv_aload_n hx hb dX3_run_305 rfl (lv_at hl 1 rfl) ?_
        refine lv_bipush (v := (10 : Int32)) hx hb dX3_run_306 (by decide) ?_
        refine lv_iload_n hx hb dX3_run_308 rfl (lv_at hl 3 rfl) ?_
        refine lv_iload hx hb dX3_run_309 (lv_at hl 0 rfl) ?_
        obtain ⟨r311, hc311, hf⟩ := zb hf
        refine zvw (o := some (.int r311.1)) (As := [.int (10 : Int32), .int x2, .int (x3 + (1 : Int32))]) (rest := []) (stk := [.int r311.1]) ⟨hx, hb, hml, hown, hts⟩ (ih _ r17.1 r17.2.1 r17.2.2.1 r17.2.2.2.1 r17.2.2.2.2.1 r17.2.2.2.2.2 (10 : Int32) x2 (x3 + (1 : Int32)) r311 hc311) (cwV 3 hts gX3_run_X3_run rfl rfl rfl (by decide +kernel) ⟨show 2 * d + 1 ≤ 2 * (d + 1) from by omega, show 8 + (5 + 11) + 64 * d ≤ 64 * (d + 1) from by omega⟩) hG hS hAB hA hP hD [0, 1] (by decide) rfl rfl rfl rfl 0 3 rfl rfl rfl rfl hl.1 rfl (Nat.le_of_ble_eq_true rfl) dX3_run_311 rfl (fun H locs hP hD hS => ?_)
        have hP : va_P D vwCl [(ag0, .inr (3, [.ref ag1, .int r311.2.2.1, .int r311.2.2.2.1, .int r311.2.2.2.2.1, .int r311.2.2.2.2.2.1, .int r311.2.2.2.2.2.2])), (ag1, .inl (cy 0, 30, .inl r311.2.1))] H := hP
        have hD : va_D A [(ag0, .inr (3, [.ref ag1, .int r311.2.2.1, .int r311.2.2.2.1, .int r311.2.2.2.2.1, .int r311.2.2.2.2.2.1, .int r311.2.2.2.2.2.2])), (ag1, .inl (cy 0, 30, .inl r311.2.1))] := hD
        refine lv_iconst (v := (3 : Int32)) hx hb dX3_run_314 (by decide) ?_
        refine lv_imul hx hb dX3_run_315 ?_
        exact W.iret hx hb hr (fun t ht hW => hfin (r311.1 * (3 : Int32)) r311.2.1 r311.2.2.1 r311.2.2.2.1 r311.2.2.2.2.1 r311.2.2.2.2.2.1 r311.2.2.2.2.2.2 hf _ t ht hP (hS.F ht)) hS.2.2 dX3_run_316
      have hf := zn hf c_26_30
      by_cases c_26_31 : x1 = (31 : Int32)
      · have hf := zp hf c_26_31
        refine lv_tableIn (tgt := 317) hx hb dX3_run_26 (by rw [c_26_31]; decide) (by rw [c_26_31]; decide) (by rw [c_26_31]; rfl) (by decide) ?_
        refine lv_aload_n hx hb dX3_run_317 rfl (lv_at hl 1 rfl) ?_
        refine lv_bipush (v := (13 : Int32)) hx hb dX3_run_318 (by decide) ?_
        refine lv_iload_n hx hb dX3_run_320 rfl (lv_at hl 3 rfl) ?_
        refine lv_iload hx hb dX3_run_321 (lv_at hl 0 rfl) ?_
        obtain ⟨r323, hc323, hf⟩ := zb hf
        refine zvw (o := some (.int r323.1)) (As := [.int (13 : Int32), .int x2, .int (x3 + (1 : Int32))]) (rest := []) (stk := [.int r323.1]) ⟨hx, hb, hml, hown, hts⟩ (ih _ r17.1 r17.2.1 r17.2.2.1 r17.2.2.2.1 r17.2.2.2.2.1 r17.2.2.2.2.2 (13 : Int32) x2 (x3 + (1 : Int32)) r323 hc323) (cwV 3 hts gX3_run_X3_run rfl rfl rfl (by decide +kernel) ⟨show 2 * d + 1 ≤ 2 * (d + 1) from by omega, show 8 + (5 + 11) + 64 * d ≤ 64 * (d + 1) from by omega⟩) hG hS hAB hA hP hD [0, 1] (by decide) rfl rfl rfl rfl 0 3 rfl rfl rfl rfl hl.1 rfl (Nat.le_of_ble_eq_true rfl) dX3_run_323 rfl (fun H locs hP hD hS => ?_)
        have hP : va_P D vwCl [(ag0, .inr (3, [.ref ag1, .int r323.2.2.1, .int r323.2.2.2.1, .int r323.2.2.2.2.1, .int r323.2.2.2.2.2.1, .int r323.2.2.2.2.2.2])), (ag1, .inl (cy 0, 30, .inl r323.2.1))] H := hP
        have hD : va_D A [(ag0, .inr (3, [.ref ag1, .int r323.2.2.1, .int r323.2.2.2.1, .int r323.2.2.2.2.1, .int r323.2.2.2.2.2.1, .int r323.2.2.2.2.2.2])), (ag1, .inl (cy 0, 30, .inl r323.2.1))] := hD
        refine lv_aload_n hx hb dX3_run_326 rfl (lv_at hl 1 rfl) ?_
        refine lv_iconst (v := (2 : Int32)) hx hb dX3_run_327 (by decide) ?_
        refine lv_aload_n hx hb dX3_run_328 rfl (lv_at hl 1 rfl) ?_
        refine va_get (D := D) (ci := 3) (v := .int r323.2.2.2.2.1) (C := RX3) (T := TX3) (N := 6) hx hb hts hin3 hown hK hP 0 rfl rfl 3 (by decide) fl26 (fun _ h9 => h9) rfl dX3_run_329 ?_
        refine lv_iload hx hb dX3_run_332 (lv_at hl 0 rfl) ?_
        obtain ⟨r334, hc334, hf⟩ := zb hf
        refine zvw (o := some (.int r334.1)) (As := [.int (2 : Int32), .int r323.2.2.2.2.1, .int (x3 + (1 : Int32))]) (rest := [.int r323.1]) (stk := [.int r334.1, .int r323.1]) ⟨hx, hb, hml, hown, hts⟩ (mX3_ownD l D cy st sk sv B ag0 ag1 n d ih _ r323.2.1 r323.2.2.1 r323.2.2.2.1 r323.2.2.2.2.1 r323.2.2.2.2.2.1 r323.2.2.2.2.2.2 (2 : Int32) r323.2.2.2.2.1 (x3 + (1 : Int32)) r334 hc334) (cwV 3 hts gX3_run_X3_own rfl rfl rfl (by decide +kernel) ⟨show 2 * d + 1 + 1 ≤ 2 * (d + 1) from by omega, show 8 + (4 + 11) + (64 * d + 32) ≤ 64 * (d + 1) from by omega⟩) hG hS hAB hA hP hD [0, 1] (by decide) rfl rfl rfl rfl 0 3 rfl rfl rfl rfl hl.1 rfl (Nat.le_of_ble_eq_true rfl) dX3_run_334 rfl (fun H locs hP hD hS => ?_)
        have hP : va_P D vwCl [(ag0, .inr (3, [.ref ag1, .int r334.2.2.1, .int r334.2.2.2.1, .int r334.2.2.2.2.1, .int r334.2.2.2.2.2.1, .int r334.2.2.2.2.2.2])), (ag1, .inl (cy 0, 30, .inl r334.2.1))] H := hP
        have hD : va_D A [(ag0, .inr (3, [.ref ag1, .int r334.2.2.1, .int r334.2.2.2.1, .int r334.2.2.2.2.1, .int r334.2.2.2.2.2.1, .int r334.2.2.2.2.2.2])), (ag1, .inl (cy 0, 30, .inl r334.2.1))] := hD
        refine lv_isub hx hb dX3_run_337 ?_
        exact W.iret hx hb hr (fun t ht hW => hfin (r323.1 - r334.1) r334.2.1 r334.2.2.1 r334.2.2.2.1 r334.2.2.2.2.1 r334.2.2.2.2.2.1 r334.2.2.2.2.2.2 hf _ t ht hP (hS.F ht)) hS.2.2 dX3_run_338
      have hf := zn hf c_26_31
      by_cases c_26_32 : x1 = (32 : Int32)
      · have hf := zp hf c_26_32
        refine lv_tableIn (tgt := 436) hx hb dX3_run_26 (by rw [c_26_32]; decide) (by rw [c_26_32]; decide) (by rw [c_26_32]; rfl) (by decide) ?_
        refine lv_iconst (v := (0 : Int32)) hx hb dX3_run_436 (by decide) ?_
        exact W.iret hx hb hr (fun t ht hW => hfin (0 : Int32) r17.1 r17.2.1 r17.2.2.1 r17.2.2.2.1 r17.2.2.2.2.1 r17.2.2.2.2.2 hf _ t ht hP (hS.F ht)) hS.2.2 dX3_run_437
      have hf := zn hf c_26_32
      by_cases c_26_33 : x1 = (33 : Int32)
      · have hf := zp hf c_26_33
        refine lv_tableIn (tgt := 436) hx hb dX3_run_26 (by rw [c_26_33]; decide) (by rw [c_26_33]; decide) (by rw [c_26_33]; rfl) (by decide) ?_
        refine lv_iconst (v := (0 : Int32)) hx hb dX3_run_436 (by decide) ?_
        exact W.iret hx hb hr (fun t ht hW => hfin (0 : Int32) r17.1 r17.2.1 r17.2.2.1 r17.2.2.2.1 r17.2.2.2.2.1 r17.2.2.2.2.2 hf _ t ht hP (hS.F ht)) hS.2.2 dX3_run_437
      have hf := zn hf c_26_33
      by_cases c_26_34 : x1 = (34 : Int32)
      · have hf := zp hf c_26_34
        refine lv_tableIn (tgt := 436) hx hb dX3_run_26 (by rw [c_26_34]; decide) (by rw [c_26_34]; decide) (by rw [c_26_34]; rfl) (by decide) ?_
        refine lv_iconst (v := (0 : Int32)) hx hb dX3_run_436 (by decide) ?_
        exact W.iret hx hb hr (fun t ht hW => hfin (0 : Int32) r17.1 r17.2.1 r17.2.2.1 r17.2.2.2.1 r17.2.2.2.2.1 r17.2.2.2.2.2 hf _ t ht hP (hS.F ht)) hS.2.2 dX3_run_437
      have hf := zn hf c_26_34
      by_cases c_26_35 : x1 = (35 : Int32)
      · have hf := zp hf c_26_35
        refine lv_tableIn (tgt := 436) hx hb dX3_run_26 (by rw [c_26_35]; decide) (by rw [c_26_35]; decide) (by rw [c_26_35]; rfl) (by decide) ?_
        refine lv_iconst (v := (0 : Int32)) hx hb dX3_run_436 (by decide) ?_
        exact W.iret hx hb hr (fun t ht hW => hfin (0 : Int32) r17.1 r17.2.1 r17.2.2.1 r17.2.2.2.1 r17.2.2.2.2.1 r17.2.2.2.2.2 hf _ t ht hP (hS.F ht)) hS.2.2 dX3_run_437
      have hf := zn hf c_26_35
      by_cases c_26_36 : x1 = (36 : Int32)
      · have hf := zp hf c_26_36
        refine lv_tableIn (tgt := 436) hx hb dX3_run_26 (by rw [c_26_36]; decide) (by rw [c_26_36]; decide) (by rw [c_26_36]; rfl) (by decide) ?_
        refine lv_iconst (v := (0 : Int32)) hx hb dX3_run_436 (by decide) ?_
        exact W.iret hx hb hr (fun t ht hW => hfin (0 : Int32) r17.1 r17.2.1 r17.2.2.1 r17.2.2.2.1 r17.2.2.2.2.1 r17.2.2.2.2.2 hf _ t ht hP (hS.F ht)) hS.2.2 dX3_run_437
      have hf := zn hf c_26_36
      by_cases c_26_37 : x1 = (37 : Int32)
      · have hf := zp hf c_26_37
        refine lv_tableIn (tgt := 436) hx hb dX3_run_26 (by rw [c_26_37]; decide) (by rw [c_26_37]; decide) (by rw [c_26_37]; rfl) (by decide) ?_
        refine lv_iconst (v := (0 : Int32)) hx hb dX3_run_436 (by decide) ?_
        exact W.iret hx hb hr (fun t ht hW => hfin (0 : Int32) r17.1 r17.2.1 r17.2.2.1 r17.2.2.2.1 r17.2.2.2.2.1 r17.2.2.2.2.2 hf _ t ht hP (hS.F ht)) hS.2.2 dX3_run_437
      have hf := zn hf c_26_37
      by_cases c_26_38 : x1 = (38 : Int32)
      · have hf := zp hf c_26_38
        refine lv_tableIn (tgt := 436) hx hb dX3_run_26 (by rw [c_26_38]; decide) (by rw [c_26_38]; decide) (by rw [c_26_38]; rfl) (by decide) ?_
        refine lv_iconst (v := (0 : Int32)) hx hb dX3_run_436 (by decide) ?_
        exact W.iret hx hb hr (fun t ht hW => hfin (0 : Int32) r17.1 r17.2.1 r17.2.2.1 r17.2.2.2.1 r17.2.2.2.2.1 r17.2.2.2.2.2 hf _ t ht hP (hS.F ht)) hS.2.2 dX3_run_437
      have hf := zn hf c_26_38
      by_cases c_26_39 : x1 = (39 : Int32)
      · have hf := zp hf c_26_39
        refine lv_tableIn (tgt := 436) hx hb dX3_run_26 (by rw [c_26_39]; decide) (by rw [c_26_39]; decide) (by rw [c_26_39]; rfl) (by decide) ?_
        refine lv_iconst (v := (0 : Int32)) hx hb dX3_run_436 (by decide) ?_
        exact W.iret hx hb hr (fun t ht hW => hfin (0 : Int32) r17.1 r17.2.1 r17.2.2.1 r17.2.2.2.1 r17.2.2.2.2.1 r17.2.2.2.2.2 hf _ t ht hP (hS.F ht)) hS.2.2 dX3_run_437
      have hf := zn hf c_26_39
      by_cases c_26_40 : x1 = (40 : Int32)
      · have hf := zp hf c_26_40
        refine lv_tableIn (tgt := 339) hx hb dX3_run_26 (by rw [c_26_40]; decide) (by rw [c_26_40]; decide) (by rw [c_26_40]; rfl) (by decide) ?_
        refine lv_iconst (v := (0 : Int32)) hx hb dX3_run_339 (by decide) ?_
        refine lv_aload_n hx hb dX3_run_340 rfl (lv_at hl 1 rfl) ?_
        refine lv_bipush (v := (30 : Int32)) hx hb dX3_run_341 (by decide) ?_
        refine lv_iload_n hx hb dX3_run_343 rfl (lv_at hl 3 rfl) ?_
        refine lv_iload hx hb dX3_run_344 (lv_at hl 0 rfl) ?_
        obtain ⟨r346, hc346, hf⟩ := zb hf
        refine zvw (o := some (.int r346.1)) (As := [.int (30 : Int32), .int x2, .int (x3 + (1 : Int32))]) (rest := [.int (0 : Int32)]) (stk := [.int r346.1, .int (0 : Int32)]) ⟨hx, hb, hml, hown, hts⟩ (ih _ r17.1 r17.2.1 r17.2.2.1 r17.2.2.2.1 r17.2.2.2.2.1 r17.2.2.2.2.2 (30 : Int32) x2 (x3 + (1 : Int32)) r346 hc346) (cwV 3 hts gX3_run_X3_run rfl rfl rfl (by decide +kernel) ⟨show 2 * d + 1 ≤ 2 * (d + 1) from by omega, show 8 + (5 + 11) + 64 * d ≤ 64 * (d + 1) from by omega⟩) hG hS hAB hA hP hD [0, 1] (by decide) rfl rfl rfl rfl 0 3 rfl rfl rfl rfl hl.1 rfl (Nat.le_of_ble_eq_true rfl) dX3_run_346 rfl (fun H locs hP hD hS => ?_)
        have hP : va_P D vwCl [(ag0, .inr (3, [.ref ag1, .int r346.2.2.1, .int r346.2.2.2.1, .int r346.2.2.2.2.1, .int r346.2.2.2.2.2.1, .int r346.2.2.2.2.2.2])), (ag1, .inl (cy 0, 30, .inl r346.2.1))] H := hP
        have hD : va_D A [(ag0, .inr (3, [.ref ag1, .int r346.2.2.1, .int r346.2.2.2.1, .int r346.2.2.2.2.1, .int r346.2.2.2.2.2.1, .int r346.2.2.2.2.2.2])), (ag1, .inl (cy 0, 30, .inl r346.2.1))] := hD
        refine lv_isub hx hb dX3_run_349 ?_
        exact W.iret hx hb hr (fun t ht hW => hfin ((0 : Int32) - r346.1) r346.2.1 r346.2.2.1 r346.2.2.2.1 r346.2.2.2.2.1 r346.2.2.2.2.2.1 r346.2.2.2.2.2.2 hf _ t ht hP (hS.F ht)) hS.2.2 dX3_run_350
      have hf := zn hf c_26_40
      by_cases c_26_41 : x1 = (41 : Int32)
      · have hf := zp hf c_26_41
        refine lv_tableIn (tgt := 351) hx hb dX3_run_26 (by rw [c_26_41]; decide) (by rw [c_26_41]; decide) (by rw [c_26_41]; rfl) (by decide) ?_
        refine lv_aload_n hx hb dX3_run_351 rfl (lv_at hl 1 rfl) ?_
        refine lv_bipush (v := (11 : Int32)) hx hb dX3_run_352 (by decide) ?_
        refine lv_iload_n hx hb dX3_run_354 rfl (lv_at hl 3 rfl) ?_
        refine lv_iload hx hb dX3_run_355 (lv_at hl 0 rfl) ?_
        obtain ⟨r357, hc357, hf⟩ := zb hf
        refine zvw (o := some (.int r357.1)) (As := [.int (11 : Int32), .int x2, .int (x3 + (1 : Int32))]) (rest := []) (stk := [.int r357.1]) ⟨hx, hb, hml, hown, hts⟩ (ih _ r17.1 r17.2.1 r17.2.2.1 r17.2.2.2.1 r17.2.2.2.2.1 r17.2.2.2.2.2 (11 : Int32) x2 (x3 + (1 : Int32)) r357 hc357) (cwV 3 hts gX3_run_X3_run rfl rfl rfl (by decide +kernel) ⟨show 2 * d + 1 ≤ 2 * (d + 1) from by omega, show 8 + (5 + 11) + 64 * d ≤ 64 * (d + 1) from by omega⟩) hG hS hAB hA hP hD [0, 1] (by decide) rfl rfl rfl rfl 0 3 rfl rfl rfl rfl hl.1 rfl (Nat.le_of_ble_eq_true rfl) dX3_run_357 rfl (fun H locs hP hD hS => ?_)
        have hP : va_P D vwCl [(ag0, .inr (3, [.ref ag1, .int r357.2.2.1, .int r357.2.2.2.1, .int r357.2.2.2.2.1, .int r357.2.2.2.2.2.1, .int r357.2.2.2.2.2.2])), (ag1, .inl (cy 0, 30, .inl r357.2.1))] H := hP
        have hD : va_D A [(ag0, .inr (3, [.ref ag1, .int r357.2.2.1, .int r357.2.2.2.1, .int r357.2.2.2.2.1, .int r357.2.2.2.2.2.1, .int r357.2.2.2.2.2.2])), (ag1, .inl (cy 0, 30, .inl r357.2.1))] := hD
        refine lv_aload_n hx hb dX3_run_360 rfl (lv_at hl 1 rfl) ?_
        refine lv_iconst (v := (0 : Int32)) hx hb dX3_run_361 (by decide) ?_
        refine lv_aload_n hx hb dX3_run_362 rfl (lv_at hl 1 rfl) ?_
        refine va_get (D := D) (ci := 3) (v := .int r357.2.2.2.2.2.1) (C := RX3) (T := TX3) (N := 6) hx hb hts hin3 hown hK hP 0 rfl rfl 4 (by decide) fl29 (fun _ h9 => h9) rfl dX3_run_363 ?_
        refine lv_iload hx hb dX3_run_366 (lv_at hl 0 rfl) ?_
        obtain ⟨r368, hc368, hf⟩ := zb hf
        refine zvw (o := some (.int r368.1)) (As := [.int (0 : Int32), .int r357.2.2.2.2.2.1, .int (x3 + (1 : Int32))]) (rest := [.int r357.1]) (stk := [.int r368.1, .int r357.1]) ⟨hx, hb, hml, hown, hts⟩ (mX3_ownD l D cy st sk sv B ag0 ag1 n d ih _ r357.2.1 r357.2.2.1 r357.2.2.2.1 r357.2.2.2.2.1 r357.2.2.2.2.2.1 r357.2.2.2.2.2.2 (0 : Int32) r357.2.2.2.2.2.1 (x3 + (1 : Int32)) r368 hc368) (cwV 3 hts gX3_run_X3_own rfl rfl rfl (by decide +kernel) ⟨show 2 * d + 1 + 1 ≤ 2 * (d + 1) from by omega, show 8 + (4 + 11) + (64 * d + 32) ≤ 64 * (d + 1) from by omega⟩) hG hS hAB hA hP hD [0, 1] (by decide) rfl rfl rfl rfl 0 3 rfl rfl rfl rfl hl.1 rfl (Nat.le_of_ble_eq_true rfl) dX3_run_368 rfl (fun H locs hP hD hS => ?_)
        have hP : va_P D vwCl [(ag0, .inr (3, [.ref ag1, .int r368.2.2.1, .int r368.2.2.2.1, .int r368.2.2.2.2.1, .int r368.2.2.2.2.2.1, .int r368.2.2.2.2.2.2])), (ag1, .inl (cy 0, 30, .inl r368.2.1))] H := hP
        have hD : va_D A [(ag0, .inr (3, [.ref ag1, .int r368.2.2.1, .int r368.2.2.2.1, .int r368.2.2.2.2.1, .int r368.2.2.2.2.2.1, .int r368.2.2.2.2.2.2])), (ag1, .inl (cy 0, 30, .inl r368.2.1))] := hD
        refine lv_iadd hx hb dX3_run_371 ?_
        exact W.iret hx hb hr (fun t ht hW => hfin (r357.1 + r368.1) r368.2.1 r368.2.2.1 r368.2.2.2.1 r368.2.2.2.2.1 r368.2.2.2.2.2.1 r368.2.2.2.2.2.2 hf _ t ht hP (hS.F ht)) hS.2.2 dX3_run_372
      have hf := zn hf c_26_41
      by_cases c_26_42 : x1 = (42 : Int32)
      · have hf := zp hf c_26_42
        refine lv_tableIn (tgt := 436) hx hb dX3_run_26 (by rw [c_26_42]; decide) (by rw [c_26_42]; decide) (by rw [c_26_42]; rfl) (by decide) ?_
        refine lv_iconst (v := (0 : Int32)) hx hb dX3_run_436 (by decide) ?_
        exact W.iret hx hb hr (fun t ht hW => hfin (0 : Int32) r17.1 r17.2.1 r17.2.2.1 r17.2.2.2.1 r17.2.2.2.2.1 r17.2.2.2.2.2 hf _ t ht hP (hS.F ht)) hS.2.2 dX3_run_437
      have hf := zn hf c_26_42
      by_cases c_26_43 : x1 = (43 : Int32)
      · have hf := zp hf c_26_43
        refine lv_tableIn (tgt := 436) hx hb dX3_run_26 (by rw [c_26_43]; decide) (by rw [c_26_43]; decide) (by rw [c_26_43]; rfl) (by decide) ?_
        refine lv_iconst (v := (0 : Int32)) hx hb dX3_run_436 (by decide) ?_
        exact W.iret hx hb hr (fun t ht hW => hfin (0 : Int32) r17.1 r17.2.1 r17.2.2.1 r17.2.2.2.1 r17.2.2.2.2.1 r17.2.2.2.2.2 hf _ t ht hP (hS.F ht)) hS.2.2 dX3_run_437
      have hf := zn hf c_26_43
      by_cases c_26_44 : x1 = (44 : Int32)
      · have hf := zp hf c_26_44
        refine lv_tableIn (tgt := 436) hx hb dX3_run_26 (by rw [c_26_44]; decide) (by rw [c_26_44]; decide) (by rw [c_26_44]; rfl) (by decide) ?_
        refine lv_iconst (v := (0 : Int32)) hx hb dX3_run_436 (by decide) ?_
        exact W.iret hx hb hr (fun t ht hW => hfin (0 : Int32) r17.1 r17.2.1 r17.2.2.1 r17.2.2.2.1 r17.2.2.2.2.1 r17.2.2.2.2.2 hf _ t ht hP (hS.F ht)) hS.2.2 dX3_run_437
      have hf := zn hf c_26_44
      by_cases c_26_45 : x1 = (45 : Int32)
      · have hf := zp hf c_26_45
        refine lv_tableIn (tgt := 436) hx hb dX3_run_26 (by rw [c_26_45]; decide) (by rw [c_26_45]; decide) (by rw [c_26_45]; rfl) (by decide) ?_
        refine lv_iconst (v := (0 : Int32)) hx hb dX3_run_436 (by decide) ?_
        exact W.iret hx hb hr (fun t ht hW => hfin (0 : Int32) r17.1 r17.2.1 r17.2.2.1 r17.2.2.2.1 r17.2.2.2.2.1 r17.2.2.2.2.2 hf _ t ht hP (hS.F ht)) hS.2.2 dX3_run_437
      have hf := zn hf c_26_45
      by_cases c_26_46 : x1 = (46 : Int32)
      · have hf := zp hf c_26_46
        refine lv_tableIn (tgt := 436) hx hb dX3_run_26 (by rw [c_26_46]; decide) (by rw [c_26_46]; decide) (by rw [c_26_46]; rfl) (by decide) ?_
        refine lv_iconst (v := (0 : Int32)) hx hb dX3_run_436 (by decide) ?_
        exact W.iret hx hb hr (fun t ht hW => hfin (0 : Int32) r17.1 r17.2.1 r17.2.2.1 r17.2.2.2.1 r17.2.2.2.2.1 r17.2.2.2.2.2 hf _ t ht hP (hS.F ht)) hS.2.2 dX3_run_437
      have hf := zn hf c_26_46
      by_cases c_26_47 : x1 = (47 : Int32)
      · have hf := zp hf c_26_47
        refine lv_tableIn (tgt := 436) hx hb dX3_run_26 (by rw [c_26_47]; decide) (by rw [c_26_47]; decide) (by rw [c_26_47]; rfl) (by decide) ?_
        refine lv_iconst (v := (0 : Int32)) hx hb dX3_run_436 (by decide) ?_
        exact W.iret hx hb hr (fun t ht hW => hfin (0 : Int32) r17.1 r17.2.1 r17.2.2.1 r17.2.2.2.1 r17.2.2.2.2.1 r17.2.2.2.2.2 hf _ t ht hP (hS.F ht)) hS.2.2 dX3_run_437
      have hf := zn hf c_26_47
      by_cases c_26_48 : x1 = (48 : Int32)
      · have hf := zp hf c_26_48
        refine lv_tableIn (tgt := 436) hx hb dX3_run_26 (by rw [c_26_48]; decide) (by rw [c_26_48]; decide) (by rw [c_26_48]; rfl) (by decide) ?_
        refine lv_iconst (v := (0 : Int32)) hx hb dX3_run_436 (by decide) ?_
        exact W.iret hx hb hr (fun t ht hW => hfin (0 : Int32) r17.1 r17.2.1 r17.2.2.1 r17.2.2.2.1 r17.2.2.2.2.1 r17.2.2.2.2.2 hf _ t ht hP (hS.F ht)) hS.2.2 dX3_run_437
      have hf := zn hf c_26_48
      by_cases c_26_49 : x1 = (49 : Int32)
      · have hf := zp hf c_26_49
        refine lv_tableIn (tgt := 436) hx hb dX3_run_26 (by rw [c_26_49]; decide) (by rw [c_26_49]; decide) (by rw [c_26_49]; rfl) (by decide) ?_
        refine lv_iconst (v := (0 : Int32)) hx hb dX3_run_436 (by decide) ?_
        exact W.iret hx hb hr (fun t ht hW => hfin (0 : Int32) r17.1 r17.2.1 r17.2.2.1 r17.2.2.2.1 r17.2.2.2.2.1 r17.2.2.2.2.2 hf _ t ht hP (hS.F ht)) hS.2.2 dX3_run_437
      have hf := zn hf c_26_49
      by_cases c_26_50 : x1 = (50 : Int32)
      · have hf := zp hf c_26_50
        refine lv_tableIn (tgt := 373) hx hb dX3_run_26 (by rw [c_26_50]; decide) (by rw [c_26_50]; decide) (by rw [c_26_50]; rfl) (by decide) ?_
        refine lv_aload_n hx hb dX3_run_373 rfl (lv_at hl 1 rfl) ?_
        refine lv_bipush (v := (12 : Int32)) hx hb dX3_run_374 (by decide) ?_
        refine lv_iload_n hx hb dX3_run_376 rfl (lv_at hl 3 rfl) ?_
        refine lv_iconst (v := (2 : Int32)) hx hb dX3_run_377 (by decide) ?_
        refine lv_imul hx hb dX3_run_378 ?_
        refine lv_iload hx hb dX3_run_379 (lv_at hl 0 rfl) ?_
        obtain ⟨r381, hc381, hf⟩ := zb hf
        refine zvw (o := some (.int r381.1)) (As := [.int (12 : Int32), .int (x2 * (2 : Int32)), .int (x3 + (1 : Int32))]) (rest := []) (stk := [.int r381.1]) ⟨hx, hb, hml, hown, hts⟩ (ih _ r17.1 r17.2.1 r17.2.2.1 r17.2.2.2.1 r17.2.2.2.2.1 r17.2.2.2.2.2 (12 : Int32) (x2 * (2 : Int32)) (x3 + (1 : Int32)) r381 hc381) (cwV 3 hts gX3_run_X3_run rfl rfl rfl (by decide +kernel) ⟨show 2 * d + 1 ≤ 2 * (d + 1) from by omega, show 8 + (5 + 11) + 64 * d ≤ 64 * (d + 1) from by omega⟩) hG hS hAB hA hP hD [0, 1] (by decide) rfl rfl rfl rfl 0 3 rfl rfl rfl rfl hl.1 rfl (Nat.le_of_ble_eq_true rfl) dX3_run_381 rfl (fun H locs hP hD hS => ?_)
        have hP : va_P D vwCl [(ag0, .inr (3, [.ref ag1, .int r381.2.2.1, .int r381.2.2.2.1, .int r381.2.2.2.2.1, .int r381.2.2.2.2.2.1, .int r381.2.2.2.2.2.2])), (ag1, .inl (cy 0, 30, .inl r381.2.1))] H := hP
        have hD : va_D A [(ag0, .inr (3, [.ref ag1, .int r381.2.2.1, .int r381.2.2.2.1, .int r381.2.2.2.2.1, .int r381.2.2.2.2.2.1, .int r381.2.2.2.2.2.2])), (ag1, .inl (cy 0, 30, .inl r381.2.1))] := hD
        refine lv_iconst (v := (3 : Int32)) hx hb dX3_run_384 (by decide) ?_
        refine lv_ixor hx hb dX3_run_385 ?_
        exact W.iret hx hb hr (fun t ht hW => hfin (r381.1 ^^^ (3 : Int32)) r381.2.1 r381.2.2.1 r381.2.2.2.1 r381.2.2.2.2.1 r381.2.2.2.2.2.1 r381.2.2.2.2.2.2 hf _ t ht hP (hS.F ht)) hS.2.2 dX3_run_386
      have hf := zn hf c_26_50
      by_cases c_26_51 : x1 = (51 : Int32)
      · have hf := zp hf c_26_51
        refine lv_tableIn (tgt := 387) hx hb dX3_run_26 (by rw [c_26_51]; decide) (by rw [c_26_51]; decide) (by rw [c_26_51]; rfl) (by decide) ?_
        refine lv_aload_n hx hb dX3_run_387 rfl (lv_at hl 1 rfl) ?_
        refine lv_bipush (v := (10 : Int32)) hx hb dX3_run_388 (by decide) ?_
        refine lv_iload_n hx hb dX3_run_390 rfl (lv_at hl 3 rfl) ?_
        refine lv_iload hx hb dX3_run_391 (lv_at hl 0 rfl) ?_
        obtain ⟨r393, hc393, hf⟩ := zb hf
        refine zvw (o := some (.int r393.1)) (As := [.int (10 : Int32), .int x2, .int (x3 + (1 : Int32))]) (rest := []) (stk := [.int r393.1]) ⟨hx, hb, hml, hown, hts⟩ (ih _ r17.1 r17.2.1 r17.2.2.1 r17.2.2.2.1 r17.2.2.2.2.1 r17.2.2.2.2.2 (10 : Int32) x2 (x3 + (1 : Int32)) r393 hc393) (cwV 3 hts gX3_run_X3_run rfl rfl rfl (by decide +kernel) ⟨show 2 * d + 1 ≤ 2 * (d + 1) from by omega, show 8 + (5 + 11) + 64 * d ≤ 64 * (d + 1) from by omega⟩) hG hS hAB hA hP hD [0, 1] (by decide) rfl rfl rfl rfl 0 3 rfl rfl rfl rfl hl.1 rfl (Nat.le_of_ble_eq_true rfl) dX3_run_393 rfl (fun H locs hP hD hS => ?_)
        have hP : va_P D vwCl [(ag0, .inr (3, [.ref ag1, .int r393.2.2.1, .int r393.2.2.2.1, .int r393.2.2.2.2.1, .int r393.2.2.2.2.2.1, .int r393.2.2.2.2.2.2])), (ag1, .inl (cy 0, 30, .inl r393.2.1))] H := hP
        have hD : va_D A [(ag0, .inr (3, [.ref ag1, .int r393.2.2.1, .int r393.2.2.2.1, .int r393.2.2.2.2.1, .int r393.2.2.2.2.2.1, .int r393.2.2.2.2.2.2])), (ag1, .inl (cy 0, 30, .inl r393.2.1))] := hD
        refine lv_aload_n hx hb dX3_run_396 rfl (lv_at hl 1 rfl) ?_
        refine va_get (D := D) (ci := 3) (v := .int r393.2.2.2.2.2.1) (C := RX3) (T := TX3) (N := 6) hx hb hts hin3 hown hK hP 0 rfl rfl 4 (by decide) fl29 (fun _ h9 => h9) rfl dX3_run_397 ?_
        refine lv_isub hx hb dX3_run_400 ?_
        exact W.iret hx hb hr (fun t ht hW => hfin (r393.1 - r393.2.2.2.2.2.1) r393.2.1 r393.2.2.1 r393.2.2.2.1 r393.2.2.2.2.1 r393.2.2.2.2.2.1 r393.2.2.2.2.2.2 hf _ t ht hP (hS.F ht)) hS.2.2 dX3_run_401
      have hf := zn hf c_26_51
      by_cases c_26_52 : x1 = (52 : Int32)
      · have hf := zp hf c_26_52
        refine lv_tableIn (tgt := 436) hx hb dX3_run_26 (by rw [c_26_52]; decide) (by rw [c_26_52]; decide) (by rw [c_26_52]; rfl) (by decide) ?_
        refine lv_iconst (v := (0 : Int32)) hx hb dX3_run_436 (by decide) ?_
        exact W.iret hx hb hr (fun t ht hW => hfin (0 : Int32) r17.1 r17.2.1 r17.2.2.1 r17.2.2.2.1 r17.2.2.2.2.1 r17.2.2.2.2.2 hf _ t ht hP (hS.F ht)) hS.2.2 dX3_run_437
      have hf := zn hf c_26_52
      by_cases c_26_53 : x1 = (53 : Int32)
      · have hf := zp hf c_26_53
        refine lv_tableIn (tgt := 436) hx hb dX3_run_26 (by rw [c_26_53]; decide) (by rw [c_26_53]; decide) (by rw [c_26_53]; rfl) (by decide) ?_
        refine lv_iconst (v := (0 : Int32)) hx hb dX3_run_436 (by decide) ?_
        exact W.iret hx hb hr (fun t ht hW => hfin (0 : Int32) r17.1 r17.2.1 r17.2.2.1 r17.2.2.2.1 r17.2.2.2.2.1 r17.2.2.2.2.2 hf _ t ht hP (hS.F ht)) hS.2.2 dX3_run_437
      have hf := zn hf c_26_53
      by_cases c_26_54 : x1 = (54 : Int32)
      · have hf := zp hf c_26_54
        refine lv_tableIn (tgt := 436) hx hb dX3_run_26 (by rw [c_26_54]; decide) (by rw [c_26_54]; decide) (by rw [c_26_54]; rfl) (by decide) ?_
        refine lv_iconst (v := (0 : Int32)) hx hb dX3_run_436 (by decide) ?_
        exact W.iret hx hb hr (fun t ht hW => hfin (0 : Int32) r17.1 r17.2.1 r17.2.2.1 r17.2.2.2.1 r17.2.2.2.2.1 r17.2.2.2.2.2 hf _ t ht hP (hS.F ht)) hS.2.2 dX3_run_437
      have hf := zn hf c_26_54
      by_cases c_26_55 : x1 = (55 : Int32)
      · have hf := zp hf c_26_55
        refine lv_tableIn (tgt := 436) hx hb dX3_run_26 (by rw [c_26_55]; decide) (by rw [c_26_55]; decide) (by rw [c_26_55]; rfl) (by decide) ?_
        refine lv_iconst (v := (0 : Int32)) hx hb dX3_run_436 (by decide) ?_
        exact W.iret hx hb hr (fun t ht hW => hfin (0 : Int32) r17.1 r17.2.1 r17.2.2.1 r17.2.2.2.1 r17.2.2.2.2.1 r17.2.2.2.2.2 hf _ t ht hP (hS.F ht)) hS.2.2 dX3_run_437
      have hf := zn hf c_26_55
      by_cases c_26_56 : x1 = (56 : Int32)
      · have hf := zp hf c_26_56
        refine lv_tableIn (tgt := 436) hx hb dX3_run_26 (by rw [c_26_56]; decide) (by rw [c_26_56]; decide) (by rw [c_26_56]; rfl) (by decide) ?_
        refine lv_iconst (v := (0 : Int32)) hx hb dX3_run_436 (by decide) ?_
        exact W.iret hx hb hr (fun t ht hW => hfin (0 : Int32) r17.1 r17.2.1 r17.2.2.1 r17.2.2.2.1 r17.2.2.2.2.1 r17.2.2.2.2.2 hf _ t ht hP (hS.F ht)) hS.2.2 dX3_run_437
      have hf := zn hf c_26_56
      by_cases c_26_57 : x1 = (57 : Int32)
      · have hf := zp hf c_26_57
        refine lv_tableIn (tgt := 436) hx hb dX3_run_26 (by rw [c_26_57]; decide) (by rw [c_26_57]; decide) (by rw [c_26_57]; rfl) (by decide) ?_
        refine lv_iconst (v := (0 : Int32)) hx hb dX3_run_436 (by decide) ?_
        exact W.iret hx hb hr (fun t ht hW => hfin (0 : Int32) r17.1 r17.2.1 r17.2.2.1 r17.2.2.2.1 r17.2.2.2.2.1 r17.2.2.2.2.2 hf _ t ht hP (hS.F ht)) hS.2.2 dX3_run_437
      have hf := zn hf c_26_57
      by_cases c_26_58 : x1 = (58 : Int32)
      · have hf := zp hf c_26_58
        refine lv_tableIn (tgt := 436) hx hb dX3_run_26 (by rw [c_26_58]; decide) (by rw [c_26_58]; decide) (by rw [c_26_58]; rfl) (by decide) ?_
        refine lv_iconst (v := (0 : Int32)) hx hb dX3_run_436 (by decide) ?_
        exact W.iret hx hb hr (fun t ht hW => hfin (0 : Int32) r17.1 r17.2.1 r17.2.2.1 r17.2.2.2.1 r17.2.2.2.2.1 r17.2.2.2.2.2 hf _ t ht hP (hS.F ht)) hS.2.2 dX3_run_437
      have hf := zn hf c_26_58
      by_cases c_26_59 : x1 = (59 : Int32)
      · have hf := zp hf c_26_59
        refine lv_tableIn (tgt := 436) hx hb dX3_run_26 (by rw [c_26_59]; decide) (by rw [c_26_59]; decide) (by rw [c_26_59]; rfl) (by decide) ?_
        refine lv_iconst (v := (0 : Int32)) hx hb dX3_run_436 (by decide) ?_
        exact W.iret hx hb hr (fun t ht hW => hfin (0 : Int32) r17.1 r17.2.1 r17.2.2.1 r17.2.2.2.1 r17.2.2.2.2.1 r17.2.2.2.2.2 hf _ t ht hP (hS.F ht)) hS.2.2 dX3_run_437
      have hf := zn hf c_26_59
      by_cases c_26_60 : x1 = (60 : Int32)
      · have hf := zp hf c_26_60
        refine lv_tableIn (tgt := 402) hx hb dX3_run_26 (by rw [c_26_60]; decide) (by rw [c_26_60]; decide) (by rw [c_26_60]; rfl) (by decide) ?_
        refine lv_aload_n hx hb dX3_run_402 rfl (lv_at hl 1 rfl) ?_
        refine lv_bipush (v := (13 : Int32)) hx hb dX3_run_403 (by decide) ?_
        refine lv_iload_n hx hb dX3_run_405 rfl (lv_at hl 3 rfl) ?_
        refine lv_iload hx hb dX3_run_406 (lv_at hl 0 rfl) ?_
        obtain ⟨r408, hc408, hf⟩ := zb hf
        refine zvw (o := some (.int r408.1)) (As := [.int (13 : Int32), .int x2, .int (x3 + (1 : Int32))]) (rest := []) (stk := [.int r408.1]) ⟨hx, hb, hml, hown, hts⟩ (ih _ r17.1 r17.2.1 r17.2.2.1 r17.2.2.2.1 r17.2.2.2.2.1 r17.2.2.2.2.2 (13 : Int32) x2 (x3 + (1 : Int32)) r408 hc408) (cwV 3 hts gX3_run_X3_run rfl rfl rfl (by decide +kernel) ⟨show 2 * d + 1 ≤ 2 * (d + 1) from by omega, show 8 + (5 + 11) + 64 * d ≤ 64 * (d + 1) from by omega⟩) hG hS hAB hA hP hD [0, 1] (by decide) rfl rfl rfl rfl 0 3 rfl rfl rfl rfl hl.1 rfl (Nat.le_of_ble_eq_true rfl) dX3_run_408 rfl (fun H locs hP hD hS => ?_)
        have hP : va_P D vwCl [(ag0, .inr (3, [.ref ag1, .int r408.2.2.1, .int r408.2.2.2.1, .int r408.2.2.2.2.1, .int r408.2.2.2.2.2.1, .int r408.2.2.2.2.2.2])), (ag1, .inl (cy 0, 30, .inl r408.2.1))] H := hP
        have hD : va_D A [(ag0, .inr (3, [.ref ag1, .int r408.2.2.1, .int r408.2.2.2.1, .int r408.2.2.2.2.1, .int r408.2.2.2.2.2.1, .int r408.2.2.2.2.2.2])), (ag1, .inl (cy 0, 30, .inl r408.2.1))] := hD
        refine lv_iconst (v := (4 : Int32)) hx hb dX3_run_411 (by decide) ?_
        refine lv_imul hx hb dX3_run_412 ?_
        exact W.iret hx hb hr (fun t ht hW => hfin (r408.1 * (4 : Int32)) r408.2.1 r408.2.2.1 r408.2.2.2.1 r408.2.2.2.2.1 r408.2.2.2.2.2.1 r408.2.2.2.2.2.2 hf _ t ht hP (hS.F ht)) hS.2.2 dX3_run_413
      have hf := zn hf c_26_60
      by_cases c_26_61 : x1 = (61 : Int32)
      · have hf := zp hf c_26_61
        refine lv_tableIn (tgt := 414) hx hb dX3_run_26 (by rw [c_26_61]; decide) (by rw [c_26_61]; decide) (by rw [c_26_61]; rfl) (by decide) ?_
        refine lv_aload_n hx hb dX3_run_414 rfl (lv_at hl 1 rfl) ?_
        refine lv_bipush (v := (12 : Int32)) hx hb dX3_run_415 (by decide) ?_
        refine lv_iload_n hx hb dX3_run_417 rfl (lv_at hl 3 rfl) ?_
        refine lv_iload hx hb dX3_run_418 (lv_at hl 0 rfl) ?_
        obtain ⟨r420, hc420, hf⟩ := zb hf
        refine zvw (o := some (.int r420.1)) (As := [.int (12 : Int32), .int x2, .int (x3 + (1 : Int32))]) (rest := []) (stk := [.int r420.1]) ⟨hx, hb, hml, hown, hts⟩ (ih _ r17.1 r17.2.1 r17.2.2.1 r17.2.2.2.1 r17.2.2.2.2.1 r17.2.2.2.2.2 (12 : Int32) x2 (x3 + (1 : Int32)) r420 hc420) (cwV 3 hts gX3_run_X3_run rfl rfl rfl (by decide +kernel) ⟨show 2 * d + 1 ≤ 2 * (d + 1) from by omega, show 8 + (5 + 11) + 64 * d ≤ 64 * (d + 1) from by omega⟩) hG hS hAB hA hP hD [0, 1] (by decide) rfl rfl rfl rfl 0 3 rfl rfl rfl rfl hl.1 rfl (Nat.le_of_ble_eq_true rfl) dX3_run_420 rfl (fun H locs hP hD hS => ?_)
        have hP : va_P D vwCl [(ag0, .inr (3, [.ref ag1, .int r420.2.2.1, .int r420.2.2.2.1, .int r420.2.2.2.2.1, .int r420.2.2.2.2.2.1, .int r420.2.2.2.2.2.2])), (ag1, .inl (cy 0, 30, .inl r420.2.1))] H := hP
        have hD : va_D A [(ag0, .inr (3, [.ref ag1, .int r420.2.2.1, .int r420.2.2.2.1, .int r420.2.2.2.2.1, .int r420.2.2.2.2.2.1, .int r420.2.2.2.2.2.2])), (ag1, .inl (cy 0, 30, .inl r420.2.1))] := hD
        refine lv_aload_n hx hb dX3_run_423 rfl (lv_at hl 1 rfl) ?_
        refine lv_iconst (v := (0 : Int32)) hx hb dX3_run_424 (by decide) ?_
        refine lv_aload_n hx hb dX3_run_425 rfl (lv_at hl 1 rfl) ?_
        refine va_get (D := D) (ci := 3) (v := .int r420.2.2.2.2.1) (C := RX3) (T := TX3) (N := 6) hx hb hts hin3 hown hK hP 0 rfl rfl 3 (by decide) fl26 (fun _ h9 => h9) rfl dX3_run_426 ?_
        refine lv_iload hx hb dX3_run_429 (lv_at hl 0 rfl) ?_
        obtain ⟨r431, hc431, hf⟩ := zb hf
        refine zvw (o := some (.int r431.1)) (As := [.int (0 : Int32), .int r420.2.2.2.2.1, .int (x3 + (1 : Int32))]) (rest := [.int r420.1]) (stk := [.int r431.1, .int r420.1]) ⟨hx, hb, hml, hown, hts⟩ (mX3_ownD l D cy st sk sv B ag0 ag1 n d ih _ r420.2.1 r420.2.2.1 r420.2.2.2.1 r420.2.2.2.2.1 r420.2.2.2.2.2.1 r420.2.2.2.2.2.2 (0 : Int32) r420.2.2.2.2.1 (x3 + (1 : Int32)) r431 hc431) (cwV 3 hts gX3_run_X3_own rfl rfl rfl (by decide +kernel) ⟨show 2 * d + 1 + 1 ≤ 2 * (d + 1) from by omega, show 8 + (4 + 11) + (64 * d + 32) ≤ 64 * (d + 1) from by omega⟩) hG hS hAB hA hP hD [0, 1] (by decide) rfl rfl rfl rfl 0 3 rfl rfl rfl rfl hl.1 rfl (Nat.le_of_ble_eq_true rfl) dX3_run_431 rfl (fun H locs hP hD hS => ?_)
        have hP : va_P D vwCl [(ag0, .inr (3, [.ref ag1, .int r431.2.2.1, .int r431.2.2.2.1, .int r431.2.2.2.2.1, .int r431.2.2.2.2.2.1, .int r431.2.2.2.2.2.2])), (ag1, .inl (cy 0, 30, .inl r431.2.1))] H := hP
        have hD : va_D A [(ag0, .inr (3, [.ref ag1, .int r431.2.2.1, .int r431.2.2.2.1, .int r431.2.2.2.2.1, .int r431.2.2.2.2.2.1, .int r431.2.2.2.2.2.2])), (ag1, .inl (cy 0, 30, .inl r431.2.1))] := hD
        refine lv_iadd hx hb dX3_run_434 ?_
        exact W.iret hx hb hr (fun t ht hW => hfin (r420.1 + r431.1) r431.2.1 r431.2.2.1 r431.2.2.2.1 r431.2.2.2.2.1 r431.2.2.2.2.2.1 r431.2.2.2.2.2.2 hf _ t ht hP (hS.F ht)) hS.2.2 dX3_run_435
      have hf := zn hf c_26_61
      have e_26_10 : ¬ x1.toInt = 10 := fun h => c_26_10 (Int32.toInt_inj.mp (h.trans (by decide)))
      have e_26_11 : ¬ x1.toInt = 11 := fun h => c_26_11 (Int32.toInt_inj.mp (h.trans (by decide)))
      have e_26_12 : ¬ x1.toInt = 12 := fun h => c_26_12 (Int32.toInt_inj.mp (h.trans (by decide)))
      have e_26_13 : ¬ x1.toInt = 13 := fun h => c_26_13 (Int32.toInt_inj.mp (h.trans (by decide)))
      have e_26_14 : ¬ x1.toInt = 14 := fun h => c_26_14 (Int32.toInt_inj.mp (h.trans (by decide)))
      have e_26_15 : ¬ x1.toInt = 15 := fun h => c_26_15 (Int32.toInt_inj.mp (h.trans (by decide)))
      have e_26_16 : ¬ x1.toInt = 16 := fun h => c_26_16 (Int32.toInt_inj.mp (h.trans (by decide)))
      have e_26_17 : ¬ x1.toInt = 17 := fun h => c_26_17 (Int32.toInt_inj.mp (h.trans (by decide)))
      have e_26_18 : ¬ x1.toInt = 18 := fun h => c_26_18 (Int32.toInt_inj.mp (h.trans (by decide)))
      have e_26_19 : ¬ x1.toInt = 19 := fun h => c_26_19 (Int32.toInt_inj.mp (h.trans (by decide)))
      have e_26_20 : ¬ x1.toInt = 20 := fun h => c_26_20 (Int32.toInt_inj.mp (h.trans (by decide)))
      have e_26_21 : ¬ x1.toInt = 21 := fun h => c_26_21 (Int32.toInt_inj.mp (h.trans (by decide)))
      have e_26_22 : ¬ x1.toInt = 22 := fun h => c_26_22 (Int32.toInt_inj.mp (h.trans (by decide)))
      have e_26_23 : ¬ x1.toInt = 23 := fun h => c_26_23 (Int32.toInt_inj.mp (h.trans (by decide)))
      have e_26_24 : ¬ x1.toInt = 24 := fun h => c_26_24 (Int32.toInt_inj.mp (h.trans (by decide)))
      have e_26_25 : ¬ x1.toInt = 25 := fun h => c_26_25 (Int32.toInt_inj.mp (h.trans (by decide)))
      have e_26_26 : ¬ x1.toInt = 26 := fun h => c_26_26 (Int32.toInt_inj.mp (h.trans (by decide)))
      have e_26_27 : ¬ x1.toInt = 27 := fun h => c_26_27 (Int32.toInt_inj.mp (h.trans (by decide)))
      have e_26_28 : ¬ x1.toInt = 28 := fun h => c_26_28 (Int32.toInt_inj.mp (h.trans (by decide)))
      have e_26_29 : ¬ x1.toInt = 29 := fun h => c_26_29 (Int32.toInt_inj.mp (h.trans (by decide)))
      have e_26_30 : ¬ x1.toInt = 30 := fun h => c_26_30 (Int32.toInt_inj.mp (h.trans (by decide)))
      have e_26_31 : ¬ x1.toInt = 31 := fun h => c_26_31 (Int32.toInt_inj.mp (h.trans (by decide)))
      have e_26_32 : ¬ x1.toInt = 32 := fun h => c_26_32 (Int32.toInt_inj.mp (h.trans (by decide)))
      have e_26_33 : ¬ x1.toInt = 33 := fun h => c_26_33 (Int32.toInt_inj.mp (h.trans (by decide)))
      have e_26_34 : ¬ x1.toInt = 34 := fun h => c_26_34 (Int32.toInt_inj.mp (h.trans (by decide)))
      have e_26_35 : ¬ x1.toInt = 35 := fun h => c_26_35 (Int32.toInt_inj.mp (h.trans (by decide)))
      have e_26_36 : ¬ x1.toInt = 36 := fun h => c_26_36 (Int32.toInt_inj.mp (h.trans (by decide)))
      have e_26_37 : ¬ x1.toInt = 37 := fun h => c_26_37 (Int32.toInt_inj.mp (h.trans (by decide)))
      have e_26_38 : ¬ x1.toInt = 38 := fun h => c_26_38 (Int32.toInt_inj.mp (h.trans (by decide)))
      have e_26_39 : ¬ x1.toInt = 39 := fun h => c_26_39 (Int32.toInt_inj.mp (h.trans (by decide)))
      have e_26_40 : ¬ x1.toInt = 40 := fun h => c_26_40 (Int32.toInt_inj.mp (h.trans (by decide)))
      have e_26_41 : ¬ x1.toInt = 41 := fun h => c_26_41 (Int32.toInt_inj.mp (h.trans (by decide)))
      have e_26_42 : ¬ x1.toInt = 42 := fun h => c_26_42 (Int32.toInt_inj.mp (h.trans (by decide)))
      have e_26_43 : ¬ x1.toInt = 43 := fun h => c_26_43 (Int32.toInt_inj.mp (h.trans (by decide)))
      have e_26_44 : ¬ x1.toInt = 44 := fun h => c_26_44 (Int32.toInt_inj.mp (h.trans (by decide)))
      have e_26_45 : ¬ x1.toInt = 45 := fun h => c_26_45 (Int32.toInt_inj.mp (h.trans (by decide)))
      have e_26_46 : ¬ x1.toInt = 46 := fun h => c_26_46 (Int32.toInt_inj.mp (h.trans (by decide)))
      have e_26_47 : ¬ x1.toInt = 47 := fun h => c_26_47 (Int32.toInt_inj.mp (h.trans (by decide)))
      have e_26_48 : ¬ x1.toInt = 48 := fun h => c_26_48 (Int32.toInt_inj.mp (h.trans (by decide)))
      have e_26_49 : ¬ x1.toInt = 49 := fun h => c_26_49 (Int32.toInt_inj.mp (h.trans (by decide)))
      have e_26_50 : ¬ x1.toInt = 50 := fun h => c_26_50 (Int32.toInt_inj.mp (h.trans (by decide)))
      have e_26_51 : ¬ x1.toInt = 51 := fun h => c_26_51 (Int32.toInt_inj.mp (h.trans (by decide)))
      have e_26_52 : ¬ x1.toInt = 52 := fun h => c_26_52 (Int32.toInt_inj.mp (h.trans (by decide)))
      have e_26_53 : ¬ x1.toInt = 53 := fun h => c_26_53 (Int32.toInt_inj.mp (h.trans (by decide)))
      have e_26_54 : ¬ x1.toInt = 54 := fun h => c_26_54 (Int32.toInt_inj.mp (h.trans (by decide)))
      have e_26_55 : ¬ x1.toInt = 55 := fun h => c_26_55 (Int32.toInt_inj.mp (h.trans (by decide)))
      have e_26_56 : ¬ x1.toInt = 56 := fun h => c_26_56 (Int32.toInt_inj.mp (h.trans (by decide)))
      have e_26_57 : ¬ x1.toInt = 57 := fun h => c_26_57 (Int32.toInt_inj.mp (h.trans (by decide)))
      have e_26_58 : ¬ x1.toInt = 58 := fun h => c_26_58 (Int32.toInt_inj.mp (h.trans (by decide)))
      have e_26_59 : ¬ x1.toInt = 59 := fun h => c_26_59 (Int32.toInt_inj.mp (h.trans (by decide)))
      have e_26_60 : ¬ x1.toInt = 60 := fun h => c_26_60 (Int32.toInt_inj.mp (h.trans (by decide)))
      have e_26_61 : ¬ x1.toInt = 61 := fun h => c_26_61 (Int32.toInt_inj.mp (h.trans (by decide)))
      refine lv_tableOut (tgt := 436) hx hb dX3_run_26 (by omega) (by decide) ?_
      refine lv_iconst (v := (0 : Int32)) hx hb dX3_run_436 (by decide) ?_
      exact W.iret hx hb hr (fun t ht hW => hfin (0 : Int32) r17.1 r17.2.1 r17.2.2.1 r17.2.2.2.1 r17.2.2.2.2.1 r17.2.2.2.2.2 hf _ t ht hP (hS.F ht)) hS.2.2 dX3_run_437
    · have hf := zn hf c_10
      refine lv_iconst (v := (0 : Int32)) hx hb dX3_run_13 (by decide) ?_
      exact W.iret hx hb hr (fun t ht hW => hfin (0 : Int32) G_bodies G_traced G_kind G_n G_a G_broken hf _ t ht hP (hS.F ht)) hS.2.2 dX3_run_14
theorem mX3_runA (l : Launch) (D : va_G) (cy : Nat → ClassId) (st sk sv : Nat → Nat) (B : Nat) (ag0 : Nat) (ag1 : Nat) (n : Nat) : ∀ d : Nat, ∀ (sz : Nat) (G_bodies : (Nat → Int32)) (G_traced : Int32) (G_kind : Int32) (G_n : Int32) (G_a : Int32) (G_broken : Int32) (x1 : Int32) (x2 : Int32) (x3 : Int32) (z : Int32 × SG), rX3 n d (G_bodies, G_traced, G_kind, G_n, G_a, G_broken) x1 x2 x3 = some z → Met l yX3_run wsX3_run ({ frames := 2 * d, cells := 0, slots := 0, locals := 64 * d }) (PcW [.ref ag0, .int x1, .int x2, .int x3] D cy st sk sv B sz [(ag0, .inr (3, [.ref ag1, .int G_traced, .int G_kind, .int G_n, .int G_a, .int G_broken])), (ag1, .inl (cy 0, 30, .inl G_bodies))]) (Qw (some (.int z.1)) D [(ag0, .inr (3, [.ref ag1, .int z.2.2.1, .int z.2.2.2.1, .int z.2.2.2.2.1, .int z.2.2.2.2.2.1, .int z.2.2.2.2.2.2])), (ag1, .inl (cy 0, 30, .inl z.2.1))] (va_A [(ag0, .inr (3, [.ref ag1, .int G_traced, .int G_kind, .int G_n, .int G_a, .int G_broken])), (ag1, .inl (cy 0, 30, .inl G_bodies))] sz)) 0 0 (va_A [(ag0, .inr (3, [.ref ag1, .int G_traced, .int G_kind, .int G_n, .int G_a, .int G_broken])), (ag1, .inl (cy 0, 30, .inl G_bodies))] sz) := by
  intro d
  induction d with
  | zero => intro sz G_bodies G_traced G_kind G_n G_a G_broken x1 x2 x3 z h; cases h
  | succ d ih => intro sz G_bodies G_traced G_kind G_n G_a G_broken x1 x2 x3 z h; exact mX3_runD l D cy st sk sv B ag0 ag1 n d ih sz G_bodies G_traced G_kind G_n G_a G_broken x1 x2 x3 z h
theorem mX3_own (l : Launch) (D : va_G) (cy : Nat → ClassId) (st sk sv : Nat → Nat) (B : Nat) (ag0 : Nat) (ag1 : Nat) (sz : Nat) (n : Nat) (G_bodies : (Nat → Int32)) (G_traced : Int32) (G_kind : Int32) (G_n : Int32) (G_a : Int32) (G_broken : Int32) (x1 : Int32) (x2 : Int32) (x3 : Int32) (z : Int32 × SG) (hf : fX3_own n (G_bodies, G_traced, G_kind, G_n, G_a, G_broken) x1 x2 x3 = some z) : Met l yX3_own wsX3_own ({ frames := 49, cells := 0, slots := 0, locals := 1568 }) (PcW [.ref ag0, .int x1, .int x2, .int x3] D cy st sk sv B sz [(ag0, .inr (3, [.ref ag1, .int G_traced, .int G_kind, .int G_n, .int G_a, .int G_broken])), (ag1, .inl (cy 0, 30, .inl G_bodies))]) (Qw (some (.int z.1)) D [(ag0, .inr (3, [.ref ag1, .int z.2.2.1, .int z.2.2.2.1, .int z.2.2.2.2.1, .int z.2.2.2.2.2.1, .int z.2.2.2.2.2.2])), (ag1, .inl (cy 0, 30, .inl z.2.1))] (va_A [(ag0, .inr (3, [.ref ag1, .int G_traced, .int G_kind, .int G_n, .int G_a, .int G_broken])), (ag1, .inl (cy 0, 30, .inl G_bodies))] sz)) 0 0 (va_A [(ag0, .inr (3, [.ref ag1, .int G_traced, .int G_kind, .int G_n, .int G_a, .int G_broken])), (ag1, .inl (cy 0, 30, .inl G_bodies))] sz) :=
  mX3_ownD l D cy st sk sv B ag0 ag1 n 24 (mX3_runA l D cy st sk sv B ag0 ag1 n 24) sz G_bodies G_traced G_kind G_n G_a G_broken x1 x2 x3 z hf
set_option maxRecDepth 100000 in
set_option maxHeartbeats 100000000 in
theorem mX3_perform (l : Launch) (D : va_G) (cy : Nat → ClassId) (st sk sv : Nat → Nat) (B : Nat) (ag0 : Nat) (ag1 : Nat) (sz : Nat) (n : Nat) (G_bodies : (Nat → Int32)) (G_traced : Int32) (G_kind : Int32) (G_n : Int32) (G_a : Int32) (G_broken : Int32) (x1 : Int32) (x2 : Int32) (x3 : Int32) (x4 : Int32) (x5 : Int32) (z : Int32 × SG) (hf : fX3_perform n (G_bodies, G_traced, G_kind, G_n, G_a, G_broken) x1 x2 x3 x4 x5 = some z) : Met l yX3_perform wsX3_perform ({ frames := 50, cells := 0, slots := 0, locals := 1591 }) (PcW [.ref ag0, .int x1, .int x2, .int x3, .int x4, .int x5] D cy st sk sv B sz [(ag0, .inr (3, [.ref ag1, .int G_traced, .int G_kind, .int G_n, .int G_a, .int G_broken])), (ag1, .inl (cy 0, 30, .inl G_bodies))]) (Qw (some (.int z.1)) D [(ag0, .inr (3, [.ref ag1, .int z.2.2.1, .int z.2.2.2.1, .int z.2.2.2.2.1, .int z.2.2.2.2.2.1, .int z.2.2.2.2.2.2])), (ag1, .inl (cy 0, 30, .inl z.2.1))] (va_A [(ag0, .inr (3, [.ref ag1, .int G_traced, .int G_kind, .int G_n, .int G_a, .int G_broken])), (ag1, .inl (cy 0, 30, .inl G_bodies))] sz)) 0 0 (va_A [(ag0, .inr (3, [.ref ag1, .int G_traced, .int G_kind, .int G_n, .int G_a, .int G_broken])), (ag1, .inl (cy 0, 30, .inl G_bodies))] sz) := by
  refine Met.ofW (cc := cX3_perform) (maxL := 7) (ret := (some .int)) (by decide) rfl ?_
  intro p e s m args below meth c s₁ Bd hml hv
  obtain ⟨rfl, hsz, hP, hD0, hBs, hG⟩ := hv
  have hx := Bd.exec
  have hb := Bd.bytes
  have hr := Bd.returns
  have hts := atoms_spec (ws := wsX3_perform) Bd.pre
  have hown : s.vm.findClass RX3 = some m.cls := findClass_of_methodNamed Bd.named
  have hlocks := Bd.notSynchronized
  have hK := hG.1
  subst hsz
  have hD := hD0.self (sz := s.heap.size)
  have hAB0 := zA hD0 hBs
  generalize hAe : va_A [(ag0, .inr (3, [.ref ag1, .int G_traced, .int G_kind, .int G_n, .int G_a, .int G_broken])), (ag1, .inl (cy 0, 30, .inl G_bodies))] s.heap.size = A at hD hAB0 ⊢
  have hA : ∀ q : Nat, s.heap.size ≤ q → A q := fun q h => by rw [← hAe]; exact Or.inr h
  have hAB : ∀ q, A q → B ≤ q := hAB0
  have hS : va_S A s.heap s.heap [] := va_S.rf
  have hfin : ∀ (z0 : Int32) (G_bodies : (Nat → Int32)) (G_traced : Int32) (G_kind : Int32) (G_n : Int32) (G_a : Int32) (G_broken : Int32), some (z0, (G_bodies, G_traced, G_kind, G_n, G_a, G_broken)) = some z → ∀ (H : Heap) (t : State), t.heap = H → va_P D vwCl [(ag0, .inr (3, [.ref ag1, .int G_traced, .int G_kind, .int G_n, .int G_a, .int G_broken])), (ag1, .inl (cy 0, 30, .inl G_bodies))] H → va_F A s t → Qw (some (.int z.1)) D [(ag0, .inr (3, [.ref ag1, .int z.2.2.1, .int z.2.2.2.1, .int z.2.2.2.2.1, .int z.2.2.2.2.2.1, .int z.2.2.2.2.2.2])), (ag1, .inl (cy 0, 30, .inl z.2.1))] A ([.ref ag0, .int x1, .int x2, .int x3, .int x4, .int x5] : List Value).toArray s (.returned (some (.int z0))) t := by
    intro z0 G_bodies G_traced G_kind G_n G_a G_broken h9 H t ht hP hF
    cases h9
    exact ⟨rfl, by rw [ht]; exact hP, hF⟩
  have hin3 : ∀ w ∈ u_ws RX3 TX3 6, w ∈ wsX3_perform := by decide +kernel
  have fl15 := hts (.fieldLink RX3 15 "KinCutlery$Stage" "traced" "I") (by decide +kernel)
  have fl19 := hts (.fieldLink RX3 19 "KinCutlery$Stage" "broken" "Z") (by decide +kernel)
  have fl23 := hts (.fieldLink RX3 23 "KinCutlery$Stage" "kind" "I") (by decide +kernel)
  have fl26 := hts (.fieldLink RX3 26 "KinCutlery$Stage" "n" "I") (by decide +kernel)
  have fl29 := hts (.fieldLink RX3 29 "KinCutlery$Stage" "a" "I") (by decide +kernel)
  have hl := lv_entry ([.ref ag0, .int x1, .int x2, .int x3, .int x4, .int x5]) (n := 7) (Nat.le_of_ble_eq_true rfl)
  rw [lg_entry_eq]
  generalize (lg_sl ([.ref ag0, .int x1, .int x2, .int x3, .int x4, .int x5]) ++ List.replicate (7 - (lg_sl ([.ref ag0, .int x1, .int x2, .int x3, .int x4, .int x5])).length) Slot.unset).toArray = ls at hl ⊢
  have hl : lv_has ls 7 [(0, .ref ag0), (1, .int x1), (2, .int x2), (3, .int x3), (4, .int x4), (5, .int x5)] := hl
  have hf : ((fX3_own n (G_bodies, (0 : Int32), x1, x2, x3, (0 : Int32)) x4 x5 (0 : Int32)).bind fun r31 => if r31.2.2.2.2.2.2 = 0 then (some (r31.1, r31.2)) else (some ((-15 : Int32), r31.2))) = some z := hf
  refine lv_aload_n hx hb dX3_perform_0 rfl (lv_at hl 0 rfl) ?_
  refine lv_iconst (v := (0 : Int32)) hx hb dX3_perform_1 (by decide) ?_
  refine va_put (D := D) (ci := 3) (v := .int (0 : Int32)) (ty := .int) (C := RX3) (T := TX3) (N := 6) hx hb hts hin3 tyX3 tyX3_ok nmX3 hown hK hP hD hS 0 rfl rfl 1 (by decide) fl15 (fun _ h9 => h9) rfl (by decide +kernel) rfl rfl (Nat.le_of_ble_eq_true rfl) dX3_perform_2 (fun H locs hP hD hS => ?_)
  have hP : va_P D vwCl [(ag0, .inr (3, [.ref ag1, .int (0 : Int32), .int G_kind, .int G_n, .int G_a, .int G_broken])), (ag1, .inl (cy 0, 30, .inl G_bodies))] H := hP
  have hD : va_D A [(ag0, .inr (3, [.ref ag1, .int (0 : Int32), .int G_kind, .int G_n, .int G_a, .int G_broken])), (ag1, .inl (cy 0, 30, .inl G_bodies))] := hD
  refine lv_aload_n hx hb dX3_perform_5 rfl (lv_at hl 0 rfl) ?_
  refine lv_iconst (v := (0 : Int32)) hx hb dX3_perform_6 (by decide) ?_
  refine va_put (D := D) (ci := 3) (v := .int (0 : Int32)) (ty := .boolean) (C := RX3) (T := TX3) (N := 6) hx hb hts hin3 tyX3 tyX3_ok nmX3 hown hK hP hD hS 0 rfl rfl 5 (by decide) fl19 (fun _ h9 => h9) rfl (by decide +kernel) rfl rfl (Nat.le_of_ble_eq_true rfl) dX3_perform_7 (fun H locs hP hD hS => ?_)
  have hP : va_P D vwCl [(ag0, .inr (3, [.ref ag1, .int (0 : Int32), .int G_kind, .int G_n, .int G_a, .int (0 : Int32)])), (ag1, .inl (cy 0, 30, .inl G_bodies))] H := hP
  have hD : va_D A [(ag0, .inr (3, [.ref ag1, .int (0 : Int32), .int G_kind, .int G_n, .int G_a, .int (0 : Int32)])), (ag1, .inl (cy 0, 30, .inl G_bodies))] := hD
  refine lv_aload_n hx hb dX3_perform_10 rfl (lv_at hl 0 rfl) ?_
  refine lv_iload_n hx hb dX3_perform_11 rfl (lv_at hl 1 rfl) ?_
  refine va_put (D := D) (ci := 3) (v := .int x1) (ty := .int) (C := RX3) (T := TX3) (N := 6) hx hb hts hin3 tyX3 tyX3_ok nmX3 hown hK hP hD hS 0 rfl rfl 2 (by decide) fl23 (fun _ h9 => h9) rfl (by decide +kernel) rfl rfl (Nat.le_of_ble_eq_true rfl) dX3_perform_12 (fun H locs hP hD hS => ?_)
  have hP : va_P D vwCl [(ag0, .inr (3, [.ref ag1, .int (0 : Int32), .int x1, .int G_n, .int G_a, .int (0 : Int32)])), (ag1, .inl (cy 0, 30, .inl G_bodies))] H := hP
  have hD : va_D A [(ag0, .inr (3, [.ref ag1, .int (0 : Int32), .int x1, .int G_n, .int G_a, .int (0 : Int32)])), (ag1, .inl (cy 0, 30, .inl G_bodies))] := hD
  refine lv_aload_n hx hb dX3_perform_15 rfl (lv_at hl 0 rfl) ?_
  refine lv_iload_n hx hb dX3_perform_16 rfl (lv_at hl 2 rfl) ?_
  refine va_put (D := D) (ci := 3) (v := .int x2) (ty := .int) (C := RX3) (T := TX3) (N := 6) hx hb hts hin3 tyX3 tyX3_ok nmX3 hown hK hP hD hS 0 rfl rfl 3 (by decide) fl26 (fun _ h9 => h9) rfl (by decide +kernel) rfl rfl (Nat.le_of_ble_eq_true rfl) dX3_perform_17 (fun H locs hP hD hS => ?_)
  have hP : va_P D vwCl [(ag0, .inr (3, [.ref ag1, .int (0 : Int32), .int x1, .int x2, .int G_a, .int (0 : Int32)])), (ag1, .inl (cy 0, 30, .inl G_bodies))] H := hP
  have hD : va_D A [(ag0, .inr (3, [.ref ag1, .int (0 : Int32), .int x1, .int x2, .int G_a, .int (0 : Int32)])), (ag1, .inl (cy 0, 30, .inl G_bodies))] := hD
  refine lv_aload_n hx hb dX3_perform_20 rfl (lv_at hl 0 rfl) ?_
  refine lv_iload_n hx hb dX3_perform_21 rfl (lv_at hl 3 rfl) ?_
  refine va_put (D := D) (ci := 3) (v := .int x3) (ty := .int) (C := RX3) (T := TX3) (N := 6) hx hb hts hin3 tyX3 tyX3_ok nmX3 hown hK hP hD hS 0 rfl rfl 4 (by decide) fl29 (fun _ h9 => h9) rfl (by decide +kernel) rfl rfl (Nat.le_of_ble_eq_true rfl) dX3_perform_22 (fun H locs hP hD hS => ?_)
  have hP : va_P D vwCl [(ag0, .inr (3, [.ref ag1, .int (0 : Int32), .int x1, .int x2, .int x3, .int (0 : Int32)])), (ag1, .inl (cy 0, 30, .inl G_bodies))] H := hP
  have hD : va_D A [(ag0, .inr (3, [.ref ag1, .int (0 : Int32), .int x1, .int x2, .int x3, .int (0 : Int32)])), (ag1, .inl (cy 0, 30, .inl G_bodies))] := hD
  refine lv_aload_n hx hb dX3_perform_25 rfl (lv_at hl 0 rfl) ?_
  refine lv_iload hx hb dX3_perform_26 (lv_at hl 4 rfl) ?_
  refine lv_iload hx hb dX3_perform_28 (lv_at hl 5 rfl) ?_
  refine lv_iconst (v := (0 : Int32)) hx hb dX3_perform_30 (by decide) ?_
  obtain ⟨r31, hc31, hf⟩ := zb hf
  refine zvw (o := some (.int r31.1)) (As := [.int x4, .int x5, .int (0 : Int32)]) (rest := []) (stk := [.int r31.1]) ⟨hx, hb, hml, hown, hts⟩ (mX3_own l D cy st sk sv B ag0 ag1 _ n G_bodies (0 : Int32) x1 x2 x3 (0 : Int32) x4 x5 (0 : Int32) r31 hc31) (cwV 3 hts gX3_perform_X3_own rfl rfl rfl (by decide +kernel) ⟨Nat.le_of_ble_eq_true rfl, Nat.le_of_ble_eq_true rfl⟩) hG hS hAB hA hP hD [0, 1] (by decide) rfl rfl rfl rfl 0 3 rfl rfl rfl rfl hl.1 rfl (Nat.le_of_ble_eq_true rfl) dX3_perform_31 rfl (fun H locs hP hD hS => ?_)
  have hP : va_P D vwCl [(ag0, .inr (3, [.ref ag1, .int r31.2.2.1, .int r31.2.2.2.1, .int r31.2.2.2.2.1, .int r31.2.2.2.2.2.1, .int r31.2.2.2.2.2.2])), (ag1, .inl (cy 0, 30, .inl r31.2.1))] H := hP
  have hD : va_D A [(ag0, .inr (3, [.ref ag1, .int r31.2.2.1, .int r31.2.2.2.1, .int r31.2.2.2.2.1, .int r31.2.2.2.2.2.1, .int r31.2.2.2.2.2.2])), (ag1, .inl (cy 0, 30, .inl r31.2.1))] := hD
  refine lv_istore (lv' := [(6, .int r31.1), (0, .ref ag0), (1, .int x1), (2, .int x2), (3, .int x3), (4, .int x4), (5, .int x5)]) hx hb dX3_perform_34 hl (by decide) rfl (fun ls hl => ?_)
  refine lv_aload_n hx hb dX3_perform_36 rfl (lv_at hl 1 rfl) ?_
  refine va_get (D := D) (ci := 3) (v := .int r31.2.2.2.2.2.2) (C := RX3) (T := TX3) (N := 6) hx hb hts hin3 hown hK hP 0 rfl rfl 5 (by decide) fl19 (fun _ h9 => h9) rfl dX3_perform_37 ?_
  refine lv_if_eq (tgt := 48) hx hb dX3_perform_40 (by decide) (fun c_40 => ?_) (fun c_40 => ?_)
  · have hf := zp hf c_40
    refine lv_iload hx hb dX3_perform_48 (lv_at hl 0 rfl) ?_
    exact W.iret hx hb hr (fun t ht hW => hfin r31.1 r31.2.1 r31.2.2.1 r31.2.2.2.1 r31.2.2.2.2.1 r31.2.2.2.2.2.1 r31.2.2.2.2.2.2 hf _ t ht hP (hS.F ht)) hS.2.2 dX3_perform_50
  · have hf := zn hf c_40
    refine lv_bipush (v := (-15 : Int32)) hx hb dX3_perform_43 (by decide) ?_
    refine lv_goto (tgt := 50) hx hb dX3_perform_45 (by decide) ?_
    exact W.iret hx hb hr (fun t ht hW => hfin (-15 : Int32) r31.2.1 r31.2.2.1 r31.2.2.2.1 r31.2.2.2.2.1 r31.2.2.2.2.2.1 r31.2.2.2.2.2.2 hf _ t ht hP (hS.F ht)) hS.2.2 dX3_perform_50
set_option maxRecDepth 100000 in
set_option maxHeartbeats 100000000 in
theorem mX6_act (l : Launch) (D : va_G) (cy : Nat → ClassId) (st sk sv : Nat → Nat) (B : Nat) (ak : Nat) (an0 : Nat) (ay0 : Nat) (ae0 : Nat) (aa0 : Nat) (aw0 : Nat) (as0 : Nat) (af0 : Nat) (ag0 : Nat) (an1 : Nat) (an2 : Nat) (an3 : Nat) (an4 : Nat) (an5 : Nat) (aF : Nat → Nat) (ag1 : Nat) (sz : Nat) (n : Nat) (uK : Int32) (N_laws : (Nat → Int32)) (N_kind : (Nat → Int32)) (N_holds : (Nat → Int32)) (N_gone : (Nat → Int32)) (N_tells : (Nat → Int32)) (N_drowned : Int32) (N_count : Int32) (N_course : Int32) (N_told : Int32) (N_z : Int32) (F_what : (Nat → Int32)) (F_number : (Nat → Int32)) (F_sort : (Nat → Int32)) (F_length : (Nat → Int32)) (G_bodies : (Nat → Int32)) (G_traced : Int32) (G_kind : Int32) (G_n : Int32) (G_a : Int32) (G_broken : Int32) (x1 : Int32) (x2 : Int32) (x3 : Int32) (z : Int32 × SG) (hf : fX6_act n uK (N_laws, N_kind, N_holds, N_gone, N_tells, N_drowned, N_count, N_course, N_told, N_z) (F_what, F_number, F_sort, F_length) (G_bodies, G_traced, G_kind, G_n, G_a, G_broken) x1 x2 x3 = some z) : Met l yX6_act wsX6_act ({ frames := 51, cells := 0, slots := 0, locals := 1617 }) (PcW [.ref ak, .int x1, .int x2, .int x3] D cy st sk sv B sz [(ak, .inr (6, [.ref an0, .ref ay0, .ref ae0, .int uK, .ref aa0, .ref aw0, .ref as0, .ref af0, .ref ag0])), (an0, .inr (4, [.ref an1, .ref an2, .ref an3, .ref an4, .ref an5, .int N_drowned, .int N_count, .int N_course, .int N_told, .int N_z])), (an1, .inl (cy 0, 4, .inl N_laws)), (an2, .inl (cy 0, 8, .inl N_kind)), (an3, .inl (cy 0, 8, .inl N_holds)), (an4, .inl (cy 0, 8, .inl N_gone)), (an5, .inl (cy 0, 8, .inl N_tells)), (af0, .inl (cy 4, 4, .inr (.inr (.inr (.inr (fun j => some (aF j))))))), ((aF 0), .inr (2, [.int (F_what 0), .int (F_number 0), .int (F_sort 0), .int (F_length 0)])), ((aF 1), .inr (2, [.int (F_what 1), .int (F_number 1), .int (F_sort 1), .int (F_length 1)])), ((aF 2), .inr (2, [.int (F_what 2), .int (F_number 2), .int (F_sort 2), .int (F_length 2)])), ((aF 3), .inr (2, [.int (F_what 3), .int (F_number 3), .int (F_sort 3), .int (F_length 3)])), (ag0, .inr (3, [.ref ag1, .int G_traced, .int G_kind, .int G_n, .int G_a, .int G_broken])), (ag1, .inl (cy 0, 30, .inl G_bodies))]) (Qw (some (.int z.1)) D [(ak, .inr (6, [.ref an0, .ref ay0, .ref ae0, .int uK, .ref aa0, .ref aw0, .ref as0, .ref af0, .ref ag0])), (an0, .inr (4, [.ref an1, .ref an2, .ref an3, .ref an4, .ref an5, .int N_drowned, .int N_count, .int N_course, .int N_told, .int N_z])), (an1, .inl (cy 0, 4, .inl N_laws)), (an2, .inl (cy 0, 8, .inl N_kind)), (an3, .inl (cy 0, 8, .inl N_holds)), (an4, .inl (cy 0, 8, .inl N_gone)), (an5, .inl (cy 0, 8, .inl N_tells)), (af0, .inl (cy 4, 4, .inr (.inr (.inr (.inr (fun j => some (aF j))))))), ((aF 0), .inr (2, [.int (F_what 0), .int (F_number 0), .int (F_sort 0), .int (F_length 0)])), ((aF 1), .inr (2, [.int (F_what 1), .int (F_number 1), .int (F_sort 1), .int (F_length 1)])), ((aF 2), .inr (2, [.int (F_what 2), .int (F_number 2), .int (F_sort 2), .int (F_length 2)])), ((aF 3), .inr (2, [.int (F_what 3), .int (F_number 3), .int (F_sort 3), .int (F_length 3)])), (ag0, .inr (3, [.ref ag1, .int z.2.2.1, .int z.2.2.2.1, .int z.2.2.2.2.1, .int z.2.2.2.2.2.1, .int z.2.2.2.2.2.2])), (ag1, .inl (cy 0, 30, .inl z.2.1))] (va_A [(ak, .inr (6, [.ref an0, .ref ay0, .ref ae0, .int uK, .ref aa0, .ref aw0, .ref as0, .ref af0, .ref ag0])), (an0, .inr (4, [.ref an1, .ref an2, .ref an3, .ref an4, .ref an5, .int N_drowned, .int N_count, .int N_course, .int N_told, .int N_z])), (an1, .inl (cy 0, 4, .inl N_laws)), (an2, .inl (cy 0, 8, .inl N_kind)), (an3, .inl (cy 0, 8, .inl N_holds)), (an4, .inl (cy 0, 8, .inl N_gone)), (an5, .inl (cy 0, 8, .inl N_tells)), (af0, .inl (cy 4, 4, .inr (.inr (.inr (.inr (fun j => some (aF j))))))), ((aF 0), .inr (2, [.int (F_what 0), .int (F_number 0), .int (F_sort 0), .int (F_length 0)])), ((aF 1), .inr (2, [.int (F_what 1), .int (F_number 1), .int (F_sort 1), .int (F_length 1)])), ((aF 2), .inr (2, [.int (F_what 2), .int (F_number 2), .int (F_sort 2), .int (F_length 2)])), ((aF 3), .inr (2, [.int (F_what 3), .int (F_number 3), .int (F_sort 3), .int (F_length 3)])), (ag0, .inr (3, [.ref ag1, .int G_traced, .int G_kind, .int G_n, .int G_a, .int G_broken])), (ag1, .inl (cy 0, 30, .inl G_bodies))] sz)) 0 0 (va_A [(ak, .inr (6, [.ref an0, .ref ay0, .ref ae0, .int uK, .ref aa0, .ref aw0, .ref as0, .ref af0, .ref ag0])), (an0, .inr (4, [.ref an1, .ref an2, .ref an3, .ref an4, .ref an5, .int N_drowned, .int N_count, .int N_course, .int N_told, .int N_z])), (an1, .inl (cy 0, 4, .inl N_laws)), (an2, .inl (cy 0, 8, .inl N_kind)), (an3, .inl (cy 0, 8, .inl N_holds)), (an4, .inl (cy 0, 8, .inl N_gone)), (an5, .inl (cy 0, 8, .inl N_tells)), (af0, .inl (cy 4, 4, .inr (.inr (.inr (.inr (fun j => some (aF j))))))), ((aF 0), .inr (2, [.int (F_what 0), .int (F_number 0), .int (F_sort 0), .int (F_length 0)])), ((aF 1), .inr (2, [.int (F_what 1), .int (F_number 1), .int (F_sort 1), .int (F_length 1)])), ((aF 2), .inr (2, [.int (F_what 2), .int (F_number 2), .int (F_sort 2), .int (F_length 2)])), ((aF 3), .inr (2, [.int (F_what 3), .int (F_number 3), .int (F_sort 3), .int (F_length 3)])), (ag0, .inr (3, [.ref ag1, .int G_traced, .int G_kind, .int G_n, .int G_a, .int G_broken])), (ag1, .inl (cy 0, 30, .inl G_bodies))] sz) := by
  refine Met.ofW (cc := cX6_act) (maxL := 5) (ret := (some .int)) (by decide) rfl ?_
  intro p e s m args below meth c s₁ Bd hml hv
  obtain ⟨rfl, hsz, hP, hD0, hBs, hG⟩ := hv
  have hx := Bd.exec
  have hb := Bd.bytes
  have hr := Bd.returns
  have hts := atoms_spec (ws := wsX6_act) Bd.pre
  have hown : s.vm.findClass RX6 = some m.cls := findClass_of_methodNamed Bd.named
  have hlocks := Bd.notSynchronized
  have hK := hG.1
  subst hsz
  have hD := hD0.self (sz := s.heap.size)
  have hAB0 := zA hD0 hBs
  generalize hAe : va_A [(ak, .inr (6, [.ref an0, .ref ay0, .ref ae0, .int uK, .ref aa0, .ref aw0, .ref as0, .ref af0, .ref ag0])), (an0, .inr (4, [.ref an1, .ref an2, .ref an3, .ref an4, .ref an5, .int N_drowned, .int N_count, .int N_course, .int N_told, .int N_z])), (an1, .inl (cy 0, 4, .inl N_laws)), (an2, .inl (cy 0, 8, .inl N_kind)), (an3, .inl (cy 0, 8, .inl N_holds)), (an4, .inl (cy 0, 8, .inl N_gone)), (an5, .inl (cy 0, 8, .inl N_tells)), (af0, .inl (cy 4, 4, .inr (.inr (.inr (.inr (fun j => some (aF j))))))), ((aF 0), .inr (2, [.int (F_what 0), .int (F_number 0), .int (F_sort 0), .int (F_length 0)])), ((aF 1), .inr (2, [.int (F_what 1), .int (F_number 1), .int (F_sort 1), .int (F_length 1)])), ((aF 2), .inr (2, [.int (F_what 2), .int (F_number 2), .int (F_sort 2), .int (F_length 2)])), ((aF 3), .inr (2, [.int (F_what 3), .int (F_number 3), .int (F_sort 3), .int (F_length 3)])), (ag0, .inr (3, [.ref ag1, .int G_traced, .int G_kind, .int G_n, .int G_a, .int G_broken])), (ag1, .inl (cy 0, 30, .inl G_bodies))] s.heap.size = A at hD hAB0 ⊢
  have hA : ∀ q : Nat, s.heap.size ≤ q → A q := fun q h => by rw [← hAe]; exact Or.inr h
  have hAB : ∀ q, A q → B ≤ q := hAB0
  have hS : va_S A s.heap s.heap [] := va_S.rf
  have hfin : ∀ (z0 : Int32) (G_bodies : (Nat → Int32)) (G_traced : Int32) (G_kind : Int32) (G_n : Int32) (G_a : Int32) (G_broken : Int32), some (z0, (G_bodies, G_traced, G_kind, G_n, G_a, G_broken)) = some z → ∀ (H : Heap) (t : State), t.heap = H → va_P D vwCl [(ak, .inr (6, [.ref an0, .ref ay0, .ref ae0, .int uK, .ref aa0, .ref aw0, .ref as0, .ref af0, .ref ag0])), (an0, .inr (4, [.ref an1, .ref an2, .ref an3, .ref an4, .ref an5, .int N_drowned, .int N_count, .int N_course, .int N_told, .int N_z])), (an1, .inl (cy 0, 4, .inl N_laws)), (an2, .inl (cy 0, 8, .inl N_kind)), (an3, .inl (cy 0, 8, .inl N_holds)), (an4, .inl (cy 0, 8, .inl N_gone)), (an5, .inl (cy 0, 8, .inl N_tells)), (af0, .inl (cy 4, 4, .inr (.inr (.inr (.inr (fun j => some (aF j))))))), ((aF 0), .inr (2, [.int (F_what 0), .int (F_number 0), .int (F_sort 0), .int (F_length 0)])), ((aF 1), .inr (2, [.int (F_what 1), .int (F_number 1), .int (F_sort 1), .int (F_length 1)])), ((aF 2), .inr (2, [.int (F_what 2), .int (F_number 2), .int (F_sort 2), .int (F_length 2)])), ((aF 3), .inr (2, [.int (F_what 3), .int (F_number 3), .int (F_sort 3), .int (F_length 3)])), (ag0, .inr (3, [.ref ag1, .int G_traced, .int G_kind, .int G_n, .int G_a, .int G_broken])), (ag1, .inl (cy 0, 30, .inl G_bodies))] H → va_F A s t → Qw (some (.int z.1)) D [(ak, .inr (6, [.ref an0, .ref ay0, .ref ae0, .int uK, .ref aa0, .ref aw0, .ref as0, .ref af0, .ref ag0])), (an0, .inr (4, [.ref an1, .ref an2, .ref an3, .ref an4, .ref an5, .int N_drowned, .int N_count, .int N_course, .int N_told, .int N_z])), (an1, .inl (cy 0, 4, .inl N_laws)), (an2, .inl (cy 0, 8, .inl N_kind)), (an3, .inl (cy 0, 8, .inl N_holds)), (an4, .inl (cy 0, 8, .inl N_gone)), (an5, .inl (cy 0, 8, .inl N_tells)), (af0, .inl (cy 4, 4, .inr (.inr (.inr (.inr (fun j => some (aF j))))))), ((aF 0), .inr (2, [.int (F_what 0), .int (F_number 0), .int (F_sort 0), .int (F_length 0)])), ((aF 1), .inr (2, [.int (F_what 1), .int (F_number 1), .int (F_sort 1), .int (F_length 1)])), ((aF 2), .inr (2, [.int (F_what 2), .int (F_number 2), .int (F_sort 2), .int (F_length 2)])), ((aF 3), .inr (2, [.int (F_what 3), .int (F_number 3), .int (F_sort 3), .int (F_length 3)])), (ag0, .inr (3, [.ref ag1, .int z.2.2.1, .int z.2.2.2.1, .int z.2.2.2.2.1, .int z.2.2.2.2.2.1, .int z.2.2.2.2.2.2])), (ag1, .inl (cy 0, 30, .inl z.2.1))] A ([.ref ak, .int x1, .int x2, .int x3] : List Value).toArray s (.returned (some (.int z0))) t := by
    intro z0 G_bodies G_traced G_kind G_n G_a G_broken h9 H t ht hP hF
    cases h9
    exact ⟨rfl, by rw [ht]; exact hP, hF⟩
  have hin2 : ∀ w ∈ u_ws RX2 TX2 4, w ∈ wsX6_act := by decide +kernel
  have hin3 : ∀ w ∈ u_ws RX3 TX3 6, w ∈ wsX6_act := by decide +kernel
  have hin4 : ∀ w ∈ u_ws RX4 TX4 10, w ∈ wsX6_act := by decide +kernel
  have hin6 : ∀ w ∈ u_ws RX6 TX6 9, w ∈ wsX6_act := by decide +kernel
  have fl10 := hts (.fieldLink RX6 10 "KinCutlery" "now" "LKinCutlery$Table;") (by decide +kernel)
  have fl44 := hts (.fieldLink RX6 44 "KinCutlery" "shelves" "[LKinCutlery$Shelf;") (by decide +kernel)
  have fl51 := hts (.fieldLink RX6 51 "KinCutlery" "stage" "LKinCutlery$Stage;") (by decide +kernel)
  have fl105 := hts (.fieldLink RX6 105 "KinCutlery$Table" "kind" "[I") (by decide +kernel)
  have fl108 := hts (.fieldLink RX6 108 "KinCutlery$Table" "holds" "[I") (by decide +kernel)
  have fl265 := hts (.fieldLink RX6 265 "KinCutlery$Shelf" "number" "I") (by decide +kernel)
  have fl273 := hts (.fieldLink RX6 273 "KinCutlery$Stage" "traced" "I") (by decide +kernel)
  have hl := lv_entry ([.ref ak, .int x1, .int x2, .int x3]) (n := 5) (Nat.le_of_ble_eq_true rfl)
  rw [lg_entry_eq]
  generalize (lg_sl ([.ref ak, .int x1, .int x2, .int x3]) ++ List.replicate (5 - (lg_sl ([.ref ak, .int x1, .int x2, .int x3])).length) Slot.unset).toArray = ls at hl ⊢
  have hl : lv_has ls 5 [(0, .ref ak), (1, .int x1), (2, .int x2), (3, .int x3)] := hl
  have hf : ((fX6_within n x1 (0 : Int32) (3 : Int32)).bind fun r11 => if r11 = 0 then (some ((0 : Int32), (G_bodies, (0 : Int32), G_kind, G_n, G_a, G_broken))) else ((fX6_within n x2 (0 : Int32) (3 : Int32)).bind fun r20 => if r20 = 0 then (some ((0 : Int32), (G_bodies, (0 : Int32), G_kind, G_n, G_a, G_broken))) else (if x1 < 0 ∨ 4 ≤ x1.toNatClampNeg then none else (fX6_heldNow n uK (N_laws, N_kind, N_holds, N_gone, N_tells, N_drowned, N_count, N_course, N_told, N_z) (F_what, F_number, F_sort, F_length) x1.toNatClampNeg).bind fun r33 => if r33 = 0 then (if (F_number x1.toNatClampNeg) < 0 ∨ 8 ≤ (F_number x1.toNatClampNeg).toNatClampNeg then none else if (F_number x1.toNatClampNeg) < 0 ∨ 8 ≤ (F_number x1.toNatClampNeg).toNatClampNeg then none else (fX3_perform n (G_bodies, (0 : Int32), G_kind, G_n, G_a, G_broken) (N_kind (F_number x1.toNatClampNeg).toNatClampNeg) (F_number x1.toNatClampNeg) (N_holds (F_number x1.toNatClampNeg).toNatClampNeg) x2 x3).bind fun r80 => some (r80.1, r80.2)) else (some ((0 : Int32), (G_bodies, (0 : Int32), G_kind, G_n, G_a, G_broken)))))) = some z := hf
  refine lv_aload_n hx hb dX6_act_0 rfl (lv_at hl 0 rfl) ?_
  refine va_get (D := D) (ci := 6) (v := .ref ag0) (C := RX6) (T := TX6) (N := 9) hx hb hts hin6 hown hK hP 0 rfl rfl 8 (by decide) fl51 (fun _ h9 => h9) rfl dX6_act_1 ?_
  refine lv_iconst (v := (0 : Int32)) hx hb dX6_act_4 (by decide) ?_
  refine va_put (D := D) (ci := 3) (v := .int (0 : Int32)) (ty := .int) (C := RX3) (T := TX3) (N := 6) hx hb hts hin3 tyX3 tyX3_ok nmX3 hown hK hP hD hS 12 rfl rfl 1 (by decide) fl273 (fun _ h9 => h9) rfl (by decide +kernel) rfl rfl (Nat.le_of_ble_eq_true rfl) dX6_act_5 (fun H locs hP hD hS => ?_)
  have hP : va_P D vwCl [(ak, .inr (6, [.ref an0, .ref ay0, .ref ae0, .int uK, .ref aa0, .ref aw0, .ref as0, .ref af0, .ref ag0])), (an0, .inr (4, [.ref an1, .ref an2, .ref an3, .ref an4, .ref an5, .int N_drowned, .int N_count, .int N_course, .int N_told, .int N_z])), (an1, .inl (cy 0, 4, .inl N_laws)), (an2, .inl (cy 0, 8, .inl N_kind)), (an3, .inl (cy 0, 8, .inl N_holds)), (an4, .inl (cy 0, 8, .inl N_gone)), (an5, .inl (cy 0, 8, .inl N_tells)), (af0, .inl (cy 4, 4, .inr (.inr (.inr (.inr (fun j => some (aF j))))))), ((aF 0), .inr (2, [.int (F_what 0), .int (F_number 0), .int (F_sort 0), .int (F_length 0)])), ((aF 1), .inr (2, [.int (F_what 1), .int (F_number 1), .int (F_sort 1), .int (F_length 1)])), ((aF 2), .inr (2, [.int (F_what 2), .int (F_number 2), .int (F_sort 2), .int (F_length 2)])), ((aF 3), .inr (2, [.int (F_what 3), .int (F_number 3), .int (F_sort 3), .int (F_length 3)])), (ag0, .inr (3, [.ref ag1, .int (0 : Int32), .int G_kind, .int G_n, .int G_a, .int G_broken])), (ag1, .inl (cy 0, 30, .inl G_bodies))] H := hP
  have hD : va_D A [(ak, .inr (6, [.ref an0, .ref ay0, .ref ae0, .int uK, .ref aa0, .ref aw0, .ref as0, .ref af0, .ref ag0])), (an0, .inr (4, [.ref an1, .ref an2, .ref an3, .ref an4, .ref an5, .int N_drowned, .int N_count, .int N_course, .int N_told, .int N_z])), (an1, .inl (cy 0, 4, .inl N_laws)), (an2, .inl (cy 0, 8, .inl N_kind)), (an3, .inl (cy 0, 8, .inl N_holds)), (an4, .inl (cy 0, 8, .inl N_gone)), (an5, .inl (cy 0, 8, .inl N_tells)), (af0, .inl (cy 4, 4, .inr (.inr (.inr (.inr (fun j => some (aF j))))))), ((aF 0), .inr (2, [.int (F_what 0), .int (F_number 0), .int (F_sort 0), .int (F_length 0)])), ((aF 1), .inr (2, [.int (F_what 1), .int (F_number 1), .int (F_sort 1), .int (F_length 1)])), ((aF 2), .inr (2, [.int (F_what 2), .int (F_number 2), .int (F_sort 2), .int (F_length 2)])), ((aF 3), .inr (2, [.int (F_what 3), .int (F_number 3), .int (F_sort 3), .int (F_length 3)])), (ag0, .inr (3, [.ref ag1, .int (0 : Int32), .int G_kind, .int G_n, .int G_a, .int G_broken])), (ag1, .inl (cy 0, 30, .inl G_bodies))] := hD
  refine lv_iload_n hx hb dX6_act_8 rfl (lv_at hl 1 rfl) ?_
  refine lv_iconst (v := (0 : Int32)) hx hb dX6_act_9 (by decide) ?_
  refine lv_iconst (v := (3 : Int32)) hx hb dX6_act_10 (by decide) ?_
  obtain ⟨r11, hc11, hf⟩ := zb hf
  refine zsr (o := some (.int r11)) (As := [.int x1, .int (0 : Int32), .int (3 : Int32)]) (rest := []) (stk := [.int r11]) ⟨hx, hb, hml, hown, hts⟩ (mX6_within l D cy st sk sv B  n x1 (0 : Int32) (3 : Int32) r11 hc11) (va_cwS 3 hts gX6_act_X6_within rfl rfl rfl (by decide +kernel) ⟨Nat.le_of_ble_eq_true rfl, Nat.le_of_ble_eq_true rfl⟩) hG hS hAB hP [] rfl rfl hl.1 rfl (Nat.le_of_ble_eq_true rfl) dX6_act_11 rfl ?_
  refine lv_if_eq (tgt := 39) hx hb dX6_act_14 (by decide) (fun c_14 => ?_) (fun c_14 => ?_)
  · have hf := zp hf c_14
    refine lv_iconst (v := (0 : Int32)) hx hb dX6_act_39 (by decide) ?_
    exact W.iret hx hb hr (fun t ht hW => hfin (0 : Int32) G_bodies (0 : Int32) G_kind G_n G_a G_broken hf _ t ht hP (hS.F ht)) hS.2.2 dX6_act_40
  · have hf := zn hf c_14
    refine lv_iload_n hx hb dX6_act_17 rfl (lv_at hl 2 rfl) ?_
    refine lv_iconst (v := (0 : Int32)) hx hb dX6_act_18 (by decide) ?_
    refine lv_iconst (v := (3 : Int32)) hx hb dX6_act_19 (by decide) ?_
    obtain ⟨r20, hc20, hf⟩ := zb hf
    refine zsr (o := some (.int r20)) (As := [.int x2, .int (0 : Int32), .int (3 : Int32)]) (rest := []) (stk := [.int r20]) ⟨hx, hb, hml, hown, hts⟩ (mX6_within l D cy st sk sv B  n x2 (0 : Int32) (3 : Int32) r20 hc20) (va_cwS 3 hts gX6_act_X6_within rfl rfl rfl (by decide +kernel) ⟨Nat.le_of_ble_eq_true rfl, Nat.le_of_ble_eq_true rfl⟩) hG hS hAB hP [] rfl rfl hl.1 rfl (Nat.le_of_ble_eq_true rfl) dX6_act_20 rfl ?_
    refine lv_if_eq (tgt := 39) hx hb dX6_act_23 (by decide) (fun c_23 => ?_) (fun c_23 => ?_)
    · have hf := zp hf c_23
      refine lv_iconst (v := (0 : Int32)) hx hb dX6_act_39 (by decide) ?_
      exact W.iret hx hb hr (fun t ht hW => hfin (0 : Int32) G_bodies (0 : Int32) G_kind G_n G_a G_broken hf _ t ht hP (hS.F ht)) hS.2.2 dX6_act_40
    · have hf := zn hf c_23
      refine lv_aload_n hx hb dX6_act_26 rfl (lv_at hl 0 rfl) ?_
      refine lv_aload_n hx hb dX6_act_27 rfl (lv_at hl 0 rfl) ?_
      refine va_get (D := D) (ci := 6) (v := .ref af0) (C := RX6) (T := TX6) (N := 9) hx hb hts hin6 hown hK hP 0 rfl rfl 7 (by decide) fl44 (fun _ h9 => h9) rfl dX6_act_28 ?_
      refine lv_iload_n hx hb dX6_act_31 rfl (lv_at hl 1 rfl) ?_
      obtain ⟨hi_x1, hf⟩ := zg hf
      rcases zc4 hi_x1 with hj_x1 | hj_x1 | hj_x1 | hj_x1
      · rw [hj_x1] at hf
        refine va_aldq hx hb hK hP 7 4 rfl rfl hi_x1 dX6_act_32 ?_
        rw [hj_x1]
        refine W.eq (g2 := F0 m 33 ls [.ref (aF 0), .ref ak]) rfl ?_
        obtain ⟨r33, hc33, hf⟩ := zb hf
        refine zvr (o := some (.int r33)) (As := [.ref (aF 0)]) (rest := []) (stk := [.int r33]) ⟨hx, hb, hml, hown, hts⟩ (mX6_heldNow l D cy st sk sv B ak an0 ay0 ae0 aa0 aw0 as0 af0 ag0 an1 an2 an3 an4 an5 aF n uK N_laws N_kind N_holds N_gone N_tells N_drowned N_count N_course N_told N_z F_what F_number F_sort F_length 0 (by decide) r33 hc33) (cwV 1 hts gX6_act_X6_heldNow rfl rfl rfl (by decide +kernel) ⟨Nat.le_of_ble_eq_true rfl, Nat.le_of_ble_eq_true rfl⟩) hG hS hAB hP [0, 1, 2, 3, 4, 5, 6, 7, 8, 9, 10, 11] rfl 0 6 rfl rfl rfl rfl hl.1 rfl (Nat.le_of_ble_eq_true rfl) dX6_act_33 rfl ?_
        refine lv_if_eq (tgt := 41) hx hb dX6_act_36 (by decide) (fun c_36 => ?_) (fun c_36 => ?_)
        · have hf := zp hf c_36
          refine lv_aload_n hx hb dX6_act_41 rfl (lv_at hl 0 rfl) ?_
          refine va_get (D := D) (ci := 6) (v := .ref af0) (C := RX6) (T := TX6) (N := 9) hx hb hts hin6 hown hK hP 0 rfl rfl 7 (by decide) fl44 (fun _ h9 => h9) rfl dX6_act_42 ?_
          refine lv_iload_n hx hb dX6_act_45 rfl (lv_at hl 1 rfl) ?_
          refine va_aldq hx hb hK hP 7 4 rfl rfl hi_x1 dX6_act_46 ?_
          rw [hj_x1]
          refine W.eq (g2 := F0 m 47 ls [.ref (aF 0)]) rfl ?_
          refine va_get (D := D) (ci := 2) (v := .int (F_number 0)) (C := RX2) (T := TX2) (N := 4) hx hb hts hin2 hown hK hP 8 rfl rfl 1 (by decide) fl265 (fun _ h9 => h9) rfl dX6_act_47 ?_
          refine lv_istore (lv' := [(4, .int (F_number 0)), (0, .ref ak), (1, .int x1), (2, .int x2), (3, .int x3)]) hx hb dX6_act_50 hl (by decide) rfl (fun ls hl => ?_)
          refine lv_aload_n hx hb dX6_act_52 rfl (lv_at hl 1 rfl) ?_
          refine va_get (D := D) (ci := 6) (v := .ref ag0) (C := RX6) (T := TX6) (N := 9) hx hb hts hin6 hown hK hP 0 rfl rfl 8 (by decide) fl51 (fun _ h9 => h9) rfl dX6_act_53 ?_
          refine lv_aload_n hx hb dX6_act_56 rfl (lv_at hl 1 rfl) ?_
          refine va_get (D := D) (ci := 6) (v := .ref an0) (C := RX6) (T := TX6) (N := 9) hx hb hts hin6 hown hK hP 0 rfl rfl 0 (by decide) fl10 (fun _ h9 => h9) rfl dX6_act_57 ?_
          refine va_get (D := D) (ci := 4) (v := .ref an2) (C := RX4) (T := TX4) (N := 10) hx hb hts hin4 hown hK hP 1 rfl rfl 1 (by decide) fl105 (fun _ h9 => h9) rfl dX6_act_60 ?_
          refine lv_iload hx hb dX6_act_63 (lv_at hl 0 rfl) ?_
          obtain ⟨h_65, hf⟩ := zg hf
          refine va_iald hx hb hK hP 3 0 rfl rfl h_65 dX6_act_65 ?_
          refine lv_iload hx hb dX6_act_66 (lv_at hl 0 rfl) ?_
          refine lv_aload_n hx hb dX6_act_68 rfl (lv_at hl 1 rfl) ?_
          refine va_get (D := D) (ci := 6) (v := .ref an0) (C := RX6) (T := TX6) (N := 9) hx hb hts hin6 hown hK hP 0 rfl rfl 0 (by decide) fl10 (fun _ h9 => h9) rfl dX6_act_69 ?_
          refine va_get (D := D) (ci := 4) (v := .ref an3) (C := RX4) (T := TX4) (N := 10) hx hb hts hin4 hown hK hP 1 rfl rfl 2 (by decide) fl108 (fun _ h9 => h9) rfl dX6_act_72 ?_
          refine lv_iload hx hb dX6_act_75 (lv_at hl 0 rfl) ?_
          obtain ⟨h_77, hf⟩ := zg hf
          refine va_iald hx hb hK hP 4 0 rfl rfl h_77 dX6_act_77 ?_
          refine lv_iload_n hx hb dX6_act_78 rfl (lv_at hl 3 rfl) ?_
          refine lv_iload_n hx hb dX6_act_79 rfl (lv_at hl 4 rfl) ?_
          obtain ⟨r80, hc80, hf⟩ := zb hf
          refine zvw (o := some (.int r80.1)) (As := [.int (N_kind (F_number 0).toNatClampNeg), .int (F_number 0), .int (N_holds (F_number 0).toNatClampNeg), .int x2, .int x3]) (rest := []) (stk := [.int r80.1]) ⟨hx, hb, hml, hown, hts⟩ (mX3_perform l D cy st sk sv B ag0 ag1 _ n G_bodies (0 : Int32) G_kind G_n G_a G_broken (N_kind (F_number 0).toNatClampNeg) (F_number 0) (N_holds (F_number 0).toNatClampNeg) x2 x3 r80 hc80) (cwV 5 hts gX6_act_X3_perform rfl rfl rfl (by decide +kernel) ⟨Nat.le_of_ble_eq_true rfl, Nat.le_of_ble_eq_true rfl⟩) hG hS hAB hA hP hD [12, 13] (by decide) rfl rfl rfl rfl 0 3 rfl rfl rfl rfl hl.1 rfl (Nat.le_of_ble_eq_true rfl) dX6_act_80 rfl (fun H locs hP hD hS => ?_)
          have hP : va_P D vwCl [(ak, .inr (6, [.ref an0, .ref ay0, .ref ae0, .int uK, .ref aa0, .ref aw0, .ref as0, .ref af0, .ref ag0])), (an0, .inr (4, [.ref an1, .ref an2, .ref an3, .ref an4, .ref an5, .int N_drowned, .int N_count, .int N_course, .int N_told, .int N_z])), (an1, .inl (cy 0, 4, .inl N_laws)), (an2, .inl (cy 0, 8, .inl N_kind)), (an3, .inl (cy 0, 8, .inl N_holds)), (an4, .inl (cy 0, 8, .inl N_gone)), (an5, .inl (cy 0, 8, .inl N_tells)), (af0, .inl (cy 4, 4, .inr (.inr (.inr (.inr (fun j => some (aF j))))))), ((aF 0), .inr (2, [.int (F_what 0), .int (F_number 0), .int (F_sort 0), .int (F_length 0)])), ((aF 1), .inr (2, [.int (F_what 1), .int (F_number 1), .int (F_sort 1), .int (F_length 1)])), ((aF 2), .inr (2, [.int (F_what 2), .int (F_number 2), .int (F_sort 2), .int (F_length 2)])), ((aF 3), .inr (2, [.int (F_what 3), .int (F_number 3), .int (F_sort 3), .int (F_length 3)])), (ag0, .inr (3, [.ref ag1, .int r80.2.2.1, .int r80.2.2.2.1, .int r80.2.2.2.2.1, .int r80.2.2.2.2.2.1, .int r80.2.2.2.2.2.2])), (ag1, .inl (cy 0, 30, .inl r80.2.1))] H := hP
          have hD : va_D A [(ak, .inr (6, [.ref an0, .ref ay0, .ref ae0, .int uK, .ref aa0, .ref aw0, .ref as0, .ref af0, .ref ag0])), (an0, .inr (4, [.ref an1, .ref an2, .ref an3, .ref an4, .ref an5, .int N_drowned, .int N_count, .int N_course, .int N_told, .int N_z])), (an1, .inl (cy 0, 4, .inl N_laws)), (an2, .inl (cy 0, 8, .inl N_kind)), (an3, .inl (cy 0, 8, .inl N_holds)), (an4, .inl (cy 0, 8, .inl N_gone)), (an5, .inl (cy 0, 8, .inl N_tells)), (af0, .inl (cy 4, 4, .inr (.inr (.inr (.inr (fun j => some (aF j))))))), ((aF 0), .inr (2, [.int (F_what 0), .int (F_number 0), .int (F_sort 0), .int (F_length 0)])), ((aF 1), .inr (2, [.int (F_what 1), .int (F_number 1), .int (F_sort 1), .int (F_length 1)])), ((aF 2), .inr (2, [.int (F_what 2), .int (F_number 2), .int (F_sort 2), .int (F_length 2)])), ((aF 3), .inr (2, [.int (F_what 3), .int (F_number 3), .int (F_sort 3), .int (F_length 3)])), (ag0, .inr (3, [.ref ag1, .int r80.2.2.1, .int r80.2.2.2.1, .int r80.2.2.2.2.1, .int r80.2.2.2.2.2.1, .int r80.2.2.2.2.2.2])), (ag1, .inl (cy 0, 30, .inl r80.2.1))] := hD
          exact W.iret hx hb hr (fun t ht hW => hfin r80.1 r80.2.1 r80.2.2.1 r80.2.2.2.1 r80.2.2.2.2.1 r80.2.2.2.2.2.1 r80.2.2.2.2.2.2 hf _ t ht hP (hS.F ht)) hS.2.2 dX6_act_83
        · have hf := zn hf c_36
          refine lv_iconst (v := (0 : Int32)) hx hb dX6_act_39 (by decide) ?_
          exact W.iret hx hb hr (fun t ht hW => hfin (0 : Int32) G_bodies (0 : Int32) G_kind G_n G_a G_broken hf _ t ht hP (hS.F ht)) hS.2.2 dX6_act_40
      · rw [hj_x1] at hf
        refine va_aldq hx hb hK hP 7 4 rfl rfl hi_x1 dX6_act_32 ?_
        rw [hj_x1]
        refine W.eq (g2 := F0 m 33 ls [.ref (aF 1), .ref ak]) rfl ?_
        obtain ⟨r33, hc33, hf⟩ := zb hf
        refine zvr (o := some (.int r33)) (As := [.ref (aF 1)]) (rest := []) (stk := [.int r33]) ⟨hx, hb, hml, hown, hts⟩ (mX6_heldNow l D cy st sk sv B ak an0 ay0 ae0 aa0 aw0 as0 af0 ag0 an1 an2 an3 an4 an5 aF n uK N_laws N_kind N_holds N_gone N_tells N_drowned N_count N_course N_told N_z F_what F_number F_sort F_length 1 (by decide) r33 hc33) (cwV 1 hts gX6_act_X6_heldNow rfl rfl rfl (by decide +kernel) ⟨Nat.le_of_ble_eq_true rfl, Nat.le_of_ble_eq_true rfl⟩) hG hS hAB hP [0, 1, 2, 3, 4, 5, 6, 7, 8, 9, 10, 11] rfl 0 6 rfl rfl rfl rfl hl.1 rfl (Nat.le_of_ble_eq_true rfl) dX6_act_33 rfl ?_
        refine lv_if_eq (tgt := 41) hx hb dX6_act_36 (by decide) (fun c_36 => ?_) (fun c_36 => ?_)
        · have hf := zp hf c_36
          refine lv_aload_n hx hb dX6_act_41 rfl (lv_at hl 0 rfl) ?_
          refine va_get (D := D) (ci := 6) (v := .ref af0) (C := RX6) (T := TX6) (N := 9) hx hb hts hin6 hown hK hP 0 rfl rfl 7 (by decide) fl44 (fun _ h9 => h9) rfl dX6_act_42 ?_
          refine lv_iload_n hx hb dX6_act_45 rfl (lv_at hl 1 rfl) ?_
          refine va_aldq hx hb hK hP 7 4 rfl rfl hi_x1 dX6_act_46 ?_
          rw [hj_x1]
          refine W.eq (g2 := F0 m 47 ls [.ref (aF 1)]) rfl ?_
          refine va_get (D := D) (ci := 2) (v := .int (F_number 1)) (C := RX2) (T := TX2) (N := 4) hx hb hts hin2 hown hK hP 9 rfl rfl 1 (by decide) fl265 (fun _ h9 => h9) rfl dX6_act_47 ?_
          refine lv_istore (lv' := [(4, .int (F_number 1)), (0, .ref ak), (1, .int x1), (2, .int x2), (3, .int x3)]) hx hb dX6_act_50 hl (by decide) rfl (fun ls hl => ?_)
          refine lv_aload_n hx hb dX6_act_52 rfl (lv_at hl 1 rfl) ?_
          refine va_get (D := D) (ci := 6) (v := .ref ag0) (C := RX6) (T := TX6) (N := 9) hx hb hts hin6 hown hK hP 0 rfl rfl 8 (by decide) fl51 (fun _ h9 => h9) rfl dX6_act_53 ?_
          refine lv_aload_n hx hb dX6_act_56 rfl (lv_at hl 1 rfl) ?_
          refine va_get (D := D) (ci := 6) (v := .ref an0) (C := RX6) (T := TX6) (N := 9) hx hb hts hin6 hown hK hP 0 rfl rfl 0 (by decide) fl10 (fun _ h9 => h9) rfl dX6_act_57 ?_
          refine va_get (D := D) (ci := 4) (v := .ref an2) (C := RX4) (T := TX4) (N := 10) hx hb hts hin4 hown hK hP 1 rfl rfl 1 (by decide) fl105 (fun _ h9 => h9) rfl dX6_act_60 ?_
          refine lv_iload hx hb dX6_act_63 (lv_at hl 0 rfl) ?_
          obtain ⟨h_65, hf⟩ := zg hf
          refine va_iald hx hb hK hP 3 0 rfl rfl h_65 dX6_act_65 ?_
          refine lv_iload hx hb dX6_act_66 (lv_at hl 0 rfl) ?_
          refine lv_aload_n hx hb dX6_act_68 rfl (lv_at hl 1 rfl) ?_
          refine va_get (D := D) (ci := 6) (v := .ref an0) (C := RX6) (T := TX6) (N := 9) hx hb hts hin6 hown hK hP 0 rfl rfl 0 (by decide) fl10 (fun _ h9 => h9) rfl dX6_act_69 ?_
          refine va_get (D := D) (ci := 4) (v := .ref an3) (C := RX4) (T := TX4) (N := 10) hx hb hts hin4 hown hK hP 1 rfl rfl 2 (by decide) fl108 (fun _ h9 => h9) rfl dX6_act_72 ?_
          refine lv_iload hx hb dX6_act_75 (lv_at hl 0 rfl) ?_
          obtain ⟨h_77, hf⟩ := zg hf
          refine va_iald hx hb hK hP 4 0 rfl rfl h_77 dX6_act_77 ?_
          refine lv_iload_n hx hb dX6_act_78 rfl (lv_at hl 3 rfl) ?_
          refine lv_iload_n hx hb dX6_act_79 rfl (lv_at hl 4 rfl) ?_
          obtain ⟨r80, hc80, hf⟩ := zb hf
          refine zvw (o := some (.int r80.1)) (As := [.int (N_kind (F_number 1).toNatClampNeg), .int (F_number 1), .int (N_holds (F_number 1).toNatClampNeg), .int x2, .int x3]) (rest := []) (stk := [.int r80.1]) ⟨hx, hb, hml, hown, hts⟩ (mX3_perform l D cy st sk sv B ag0 ag1 _ n G_bodies (0 : Int32) G_kind G_n G_a G_broken (N_kind (F_number 1).toNatClampNeg) (F_number 1) (N_holds (F_number 1).toNatClampNeg) x2 x3 r80 hc80) (cwV 5 hts gX6_act_X3_perform rfl rfl rfl (by decide +kernel) ⟨Nat.le_of_ble_eq_true rfl, Nat.le_of_ble_eq_true rfl⟩) hG hS hAB hA hP hD [12, 13] (by decide) rfl rfl rfl rfl 0 3 rfl rfl rfl rfl hl.1 rfl (Nat.le_of_ble_eq_true rfl) dX6_act_80 rfl (fun H locs hP hD hS => ?_)
          have hP : va_P D vwCl [(ak, .inr (6, [.ref an0, .ref ay0, .ref ae0, .int uK, .ref aa0, .ref aw0, .ref as0, .ref af0, .ref ag0])), (an0, .inr (4, [.ref an1, .ref an2, .ref an3, .ref an4, .ref an5, .int N_drowned, .int N_count, .int N_course, .int N_told, .int N_z])), (an1, .inl (cy 0, 4, .inl N_laws)), (an2, .inl (cy 0, 8, .inl N_kind)), (an3, .inl (cy 0, 8, .inl N_holds)), (an4, .inl (cy 0, 8, .inl N_gone)), (an5, .inl (cy 0, 8, .inl N_tells)), (af0, .inl (cy 4, 4, .inr (.inr (.inr (.inr (fun j => some (aF j))))))), ((aF 0), .inr (2, [.int (F_what 0), .int (F_number 0), .int (F_sort 0), .int (F_length 0)])), ((aF 1), .inr (2, [.int (F_what 1), .int (F_number 1), .int (F_sort 1), .int (F_length 1)])), ((aF 2), .inr (2, [.int (F_what 2), .int (F_number 2), .int (F_sort 2), .int (F_length 2)])), ((aF 3), .inr (2, [.int (F_what 3), .int (F_number 3), .int (F_sort 3), .int (F_length 3)])), (ag0, .inr (3, [.ref ag1, .int r80.2.2.1, .int r80.2.2.2.1, .int r80.2.2.2.2.1, .int r80.2.2.2.2.2.1, .int r80.2.2.2.2.2.2])), (ag1, .inl (cy 0, 30, .inl r80.2.1))] H := hP
          have hD : va_D A [(ak, .inr (6, [.ref an0, .ref ay0, .ref ae0, .int uK, .ref aa0, .ref aw0, .ref as0, .ref af0, .ref ag0])), (an0, .inr (4, [.ref an1, .ref an2, .ref an3, .ref an4, .ref an5, .int N_drowned, .int N_count, .int N_course, .int N_told, .int N_z])), (an1, .inl (cy 0, 4, .inl N_laws)), (an2, .inl (cy 0, 8, .inl N_kind)), (an3, .inl (cy 0, 8, .inl N_holds)), (an4, .inl (cy 0, 8, .inl N_gone)), (an5, .inl (cy 0, 8, .inl N_tells)), (af0, .inl (cy 4, 4, .inr (.inr (.inr (.inr (fun j => some (aF j))))))), ((aF 0), .inr (2, [.int (F_what 0), .int (F_number 0), .int (F_sort 0), .int (F_length 0)])), ((aF 1), .inr (2, [.int (F_what 1), .int (F_number 1), .int (F_sort 1), .int (F_length 1)])), ((aF 2), .inr (2, [.int (F_what 2), .int (F_number 2), .int (F_sort 2), .int (F_length 2)])), ((aF 3), .inr (2, [.int (F_what 3), .int (F_number 3), .int (F_sort 3), .int (F_length 3)])), (ag0, .inr (3, [.ref ag1, .int r80.2.2.1, .int r80.2.2.2.1, .int r80.2.2.2.2.1, .int r80.2.2.2.2.2.1, .int r80.2.2.2.2.2.2])), (ag1, .inl (cy 0, 30, .inl r80.2.1))] := hD
          exact W.iret hx hb hr (fun t ht hW => hfin r80.1 r80.2.1 r80.2.2.1 r80.2.2.2.1 r80.2.2.2.2.1 r80.2.2.2.2.2.1 r80.2.2.2.2.2.2 hf _ t ht hP (hS.F ht)) hS.2.2 dX6_act_83
        · have hf := zn hf c_36
          refine lv_iconst (v := (0 : Int32)) hx hb dX6_act_39 (by decide) ?_
          exact W.iret hx hb hr (fun t ht hW => hfin (0 : Int32) G_bodies (0 : Int32) G_kind G_n G_a G_broken hf _ t ht hP (hS.F ht)) hS.2.2 dX6_act_40
      · rw [hj_x1] at hf
        refine va_aldq hx hb hK hP 7 4 rfl rfl hi_x1 dX6_act_32 ?_
        rw [hj_x1]
        refine W.eq (g2 := F0 m 33 ls [.ref (aF 2), .ref ak]) rfl ?_
        obtain ⟨r33, hc33, hf⟩ := zb hf
        refine zvr (o := some (.int r33)) (As := [.ref (aF 2)]) (rest := []) (stk := [.int r33]) ⟨hx, hb, hml, hown, hts⟩ (mX6_heldNow l D cy st sk sv B ak an0 ay0 ae0 aa0 aw0 as0 af0 ag0 an1 an2 an3 an4 an5 aF n uK N_laws N_kind N_holds N_gone N_tells N_drowned N_count N_course N_told N_z F_what F_number F_sort F_length 2 (by decide) r33 hc33) (cwV 1 hts gX6_act_X6_heldNow rfl rfl rfl (by decide +kernel) ⟨Nat.le_of_ble_eq_true rfl, Nat.le_of_ble_eq_true rfl⟩) hG hS hAB hP [0, 1, 2, 3, 4, 5, 6, 7, 8, 9, 10, 11] rfl 0 6 rfl rfl rfl rfl hl.1 rfl (Nat.le_of_ble_eq_true rfl) dX6_act_33 rfl ?_
        refine lv_if_eq (tgt := 41) hx hb dX6_act_36 (by decide) (fun c_36 => ?_) (fun c_36 => ?_)
        · have hf := zp hf c_36
          refine lv_aload_n hx hb dX6_act_41 rfl (lv_at hl 0 rfl) ?_
          refine va_get (D := D) (ci := 6) (v := .ref af0) (C := RX6) (T := TX6) (N := 9) hx hb hts hin6 hown hK hP 0 rfl rfl 7 (by decide) fl44 (fun _ h9 => h9) rfl dX6_act_42 ?_
          refine lv_iload_n hx hb dX6_act_45 rfl (lv_at hl 1 rfl) ?_
          refine va_aldq hx hb hK hP 7 4 rfl rfl hi_x1 dX6_act_46 ?_
          rw [hj_x1]
          refine W.eq (g2 := F0 m 47 ls [.ref (aF 2)]) rfl ?_
          refine va_get (D := D) (ci := 2) (v := .int (F_number 2)) (C := RX2) (T := TX2) (N := 4) hx hb hts hin2 hown hK hP 10 rfl rfl 1 (by decide) fl265 (fun _ h9 => h9) rfl dX6_act_47 ?_
          refine lv_istore (lv' := [(4, .int (F_number 2)), (0, .ref ak), (1, .int x1), (2, .int x2), (3, .int x3)]) hx hb dX6_act_50 hl (by decide) rfl (fun ls hl => ?_)
          refine lv_aload_n hx hb dX6_act_52 rfl (lv_at hl 1 rfl) ?_
          refine va_get (D := D) (ci := 6) (v := .ref ag0) (C := RX6) (T := TX6) (N := 9) hx hb hts hin6 hown hK hP 0 rfl rfl 8 (by decide) fl51 (fun _ h9 => h9) rfl dX6_act_53 ?_
          refine lv_aload_n hx hb dX6_act_56 rfl (lv_at hl 1 rfl) ?_
          refine va_get (D := D) (ci := 6) (v := .ref an0) (C := RX6) (T := TX6) (N := 9) hx hb hts hin6 hown hK hP 0 rfl rfl 0 (by decide) fl10 (fun _ h9 => h9) rfl dX6_act_57 ?_
          refine va_get (D := D) (ci := 4) (v := .ref an2) (C := RX4) (T := TX4) (N := 10) hx hb hts hin4 hown hK hP 1 rfl rfl 1 (by decide) fl105 (fun _ h9 => h9) rfl dX6_act_60 ?_
          refine lv_iload hx hb dX6_act_63 (lv_at hl 0 rfl) ?_
          obtain ⟨h_65, hf⟩ := zg hf
          refine va_iald hx hb hK hP 3 0 rfl rfl h_65 dX6_act_65 ?_
          refine lv_iload hx hb dX6_act_66 (lv_at hl 0 rfl) ?_
          refine lv_aload_n hx hb dX6_act_68 rfl (lv_at hl 1 rfl) ?_
          refine va_get (D := D) (ci := 6) (v := .ref an0) (C := RX6) (T := TX6) (N := 9) hx hb hts hin6 hown hK hP 0 rfl rfl 0 (by decide) fl10 (fun _ h9 => h9) rfl dX6_act_69 ?_
          refine va_get (D := D) (ci := 4) (v := .ref an3) (C := RX4) (T := TX4) (N := 10) hx hb hts hin4 hown hK hP 1 rfl rfl 2 (by decide) fl108 (fun _ h9 => h9) rfl dX6_act_72 ?_
          refine lv_iload hx hb dX6_act_75 (lv_at hl 0 rfl) ?_
          obtain ⟨h_77, hf⟩ := zg hf
          refine va_iald hx hb hK hP 4 0 rfl rfl h_77 dX6_act_77 ?_
          refine lv_iload_n hx hb dX6_act_78 rfl (lv_at hl 3 rfl) ?_
          refine lv_iload_n hx hb dX6_act_79 rfl (lv_at hl 4 rfl) ?_
          obtain ⟨r80, hc80, hf⟩ := zb hf
          refine zvw (o := some (.int r80.1)) (As := [.int (N_kind (F_number 2).toNatClampNeg), .int (F_number 2), .int (N_holds (F_number 2).toNatClampNeg), .int x2, .int x3]) (rest := []) (stk := [.int r80.1]) ⟨hx, hb, hml, hown, hts⟩ (mX3_perform l D cy st sk sv B ag0 ag1 _ n G_bodies (0 : Int32) G_kind G_n G_a G_broken (N_kind (F_number 2).toNatClampNeg) (F_number 2) (N_holds (F_number 2).toNatClampNeg) x2 x3 r80 hc80) (cwV 5 hts gX6_act_X3_perform rfl rfl rfl (by decide +kernel) ⟨Nat.le_of_ble_eq_true rfl, Nat.le_of_ble_eq_true rfl⟩) hG hS hAB hA hP hD [12, 13] (by decide) rfl rfl rfl rfl 0 3 rfl rfl rfl rfl hl.1 rfl (Nat.le_of_ble_eq_true rfl) dX6_act_80 rfl (fun H locs hP hD hS => ?_)
          have hP : va_P D vwCl [(ak, .inr (6, [.ref an0, .ref ay0, .ref ae0, .int uK, .ref aa0, .ref aw0, .ref as0, .ref af0, .ref ag0])), (an0, .inr (4, [.ref an1, .ref an2, .ref an3, .ref an4, .ref an5, .int N_drowned, .int N_count, .int N_course, .int N_told, .int N_z])), (an1, .inl (cy 0, 4, .inl N_laws)), (an2, .inl (cy 0, 8, .inl N_kind)), (an3, .inl (cy 0, 8, .inl N_holds)), (an4, .inl (cy 0, 8, .inl N_gone)), (an5, .inl (cy 0, 8, .inl N_tells)), (af0, .inl (cy 4, 4, .inr (.inr (.inr (.inr (fun j => some (aF j))))))), ((aF 0), .inr (2, [.int (F_what 0), .int (F_number 0), .int (F_sort 0), .int (F_length 0)])), ((aF 1), .inr (2, [.int (F_what 1), .int (F_number 1), .int (F_sort 1), .int (F_length 1)])), ((aF 2), .inr (2, [.int (F_what 2), .int (F_number 2), .int (F_sort 2), .int (F_length 2)])), ((aF 3), .inr (2, [.int (F_what 3), .int (F_number 3), .int (F_sort 3), .int (F_length 3)])), (ag0, .inr (3, [.ref ag1, .int r80.2.2.1, .int r80.2.2.2.1, .int r80.2.2.2.2.1, .int r80.2.2.2.2.2.1, .int r80.2.2.2.2.2.2])), (ag1, .inl (cy 0, 30, .inl r80.2.1))] H := hP
          have hD : va_D A [(ak, .inr (6, [.ref an0, .ref ay0, .ref ae0, .int uK, .ref aa0, .ref aw0, .ref as0, .ref af0, .ref ag0])), (an0, .inr (4, [.ref an1, .ref an2, .ref an3, .ref an4, .ref an5, .int N_drowned, .int N_count, .int N_course, .int N_told, .int N_z])), (an1, .inl (cy 0, 4, .inl N_laws)), (an2, .inl (cy 0, 8, .inl N_kind)), (an3, .inl (cy 0, 8, .inl N_holds)), (an4, .inl (cy 0, 8, .inl N_gone)), (an5, .inl (cy 0, 8, .inl N_tells)), (af0, .inl (cy 4, 4, .inr (.inr (.inr (.inr (fun j => some (aF j))))))), ((aF 0), .inr (2, [.int (F_what 0), .int (F_number 0), .int (F_sort 0), .int (F_length 0)])), ((aF 1), .inr (2, [.int (F_what 1), .int (F_number 1), .int (F_sort 1), .int (F_length 1)])), ((aF 2), .inr (2, [.int (F_what 2), .int (F_number 2), .int (F_sort 2), .int (F_length 2)])), ((aF 3), .inr (2, [.int (F_what 3), .int (F_number 3), .int (F_sort 3), .int (F_length 3)])), (ag0, .inr (3, [.ref ag1, .int r80.2.2.1, .int r80.2.2.2.1, .int r80.2.2.2.2.1, .int r80.2.2.2.2.2.1, .int r80.2.2.2.2.2.2])), (ag1, .inl (cy 0, 30, .inl r80.2.1))] := hD
          exact W.iret hx hb hr (fun t ht hW => hfin r80.1 r80.2.1 r80.2.2.1 r80.2.2.2.1 r80.2.2.2.2.1 r80.2.2.2.2.2.1 r80.2.2.2.2.2.2 hf _ t ht hP (hS.F ht)) hS.2.2 dX6_act_83
        · have hf := zn hf c_36
          refine lv_iconst (v := (0 : Int32)) hx hb dX6_act_39 (by decide) ?_
          exact W.iret hx hb hr (fun t ht hW => hfin (0 : Int32) G_bodies (0 : Int32) G_kind G_n G_a G_broken hf _ t ht hP (hS.F ht)) hS.2.2 dX6_act_40
      · rw [hj_x1] at hf
        refine va_aldq hx hb hK hP 7 4 rfl rfl hi_x1 dX6_act_32 ?_
        rw [hj_x1]
        refine W.eq (g2 := F0 m 33 ls [.ref (aF 3), .ref ak]) rfl ?_
        obtain ⟨r33, hc33, hf⟩ := zb hf
        refine zvr (o := some (.int r33)) (As := [.ref (aF 3)]) (rest := []) (stk := [.int r33]) ⟨hx, hb, hml, hown, hts⟩ (mX6_heldNow l D cy st sk sv B ak an0 ay0 ae0 aa0 aw0 as0 af0 ag0 an1 an2 an3 an4 an5 aF n uK N_laws N_kind N_holds N_gone N_tells N_drowned N_count N_course N_told N_z F_what F_number F_sort F_length 3 (by decide) r33 hc33) (cwV 1 hts gX6_act_X6_heldNow rfl rfl rfl (by decide +kernel) ⟨Nat.le_of_ble_eq_true rfl, Nat.le_of_ble_eq_true rfl⟩) hG hS hAB hP [0, 1, 2, 3, 4, 5, 6, 7, 8, 9, 10, 11] rfl 0 6 rfl rfl rfl rfl hl.1 rfl (Nat.le_of_ble_eq_true rfl) dX6_act_33 rfl ?_
        refine lv_if_eq (tgt := 41) hx hb dX6_act_36 (by decide) (fun c_36 => ?_) (fun c_36 => ?_)
        · have hf := zp hf c_36
          refine lv_aload_n hx hb dX6_act_41 rfl (lv_at hl 0 rfl) ?_
          refine va_get (D := D) (ci := 6) (v := .ref af0) (C := RX6) (T := TX6) (N := 9) hx hb hts hin6 hown hK hP 0 rfl rfl 7 (by decide) fl44 (fun _ h9 => h9) rfl dX6_act_42 ?_
          refine lv_iload_n hx hb dX6_act_45 rfl (lv_at hl 1 rfl) ?_
          refine va_aldq hx hb hK hP 7 4 rfl rfl hi_x1 dX6_act_46 ?_
          rw [hj_x1]
          refine W.eq (g2 := F0 m 47 ls [.ref (aF 3)]) rfl ?_
          refine va_get (D := D) (ci := 2) (v := .int (F_number 3)) (C := RX2) (T := TX2) (N := 4) hx hb hts hin2 hown hK hP 11 rfl rfl 1 (by decide) fl265 (fun _ h9 => h9) rfl dX6_act_47 ?_
          refine lv_istore (lv' := [(4, .int (F_number 3)), (0, .ref ak), (1, .int x1), (2, .int x2), (3, .int x3)]) hx hb dX6_act_50 hl (by decide) rfl (fun ls hl => ?_)
          refine lv_aload_n hx hb dX6_act_52 rfl (lv_at hl 1 rfl) ?_
          refine va_get (D := D) (ci := 6) (v := .ref ag0) (C := RX6) (T := TX6) (N := 9) hx hb hts hin6 hown hK hP 0 rfl rfl 8 (by decide) fl51 (fun _ h9 => h9) rfl dX6_act_53 ?_
          refine lv_aload_n hx hb dX6_act_56 rfl (lv_at hl 1 rfl) ?_
          refine va_get (D := D) (ci := 6) (v := .ref an0) (C := RX6) (T := TX6) (N := 9) hx hb hts hin6 hown hK hP 0 rfl rfl 0 (by decide) fl10 (fun _ h9 => h9) rfl dX6_act_57 ?_
          refine va_get (D := D) (ci := 4) (v := .ref an2) (C := RX4) (T := TX4) (N := 10) hx hb hts hin4 hown hK hP 1 rfl rfl 1 (by decide) fl105 (fun _ h9 => h9) rfl dX6_act_60 ?_
          refine lv_iload hx hb dX6_act_63 (lv_at hl 0 rfl) ?_
          obtain ⟨h_65, hf⟩ := zg hf
          refine va_iald hx hb hK hP 3 0 rfl rfl h_65 dX6_act_65 ?_
          refine lv_iload hx hb dX6_act_66 (lv_at hl 0 rfl) ?_
          refine lv_aload_n hx hb dX6_act_68 rfl (lv_at hl 1 rfl) ?_
          refine va_get (D := D) (ci := 6) (v := .ref an0) (C := RX6) (T := TX6) (N := 9) hx hb hts hin6 hown hK hP 0 rfl rfl 0 (by decide) fl10 (fun _ h9 => h9) rfl dX6_act_69 ?_
          refine va_get (D := D) (ci := 4) (v := .ref an3) (C := RX4) (T := TX4) (N := 10) hx hb hts hin4 hown hK hP 1 rfl rfl 2 (by decide) fl108 (fun _ h9 => h9) rfl dX6_act_72 ?_
          refine lv_iload hx hb dX6_act_75 (lv_at hl 0 rfl) ?_
          obtain ⟨h_77, hf⟩ := zg hf
          refine va_iald hx hb hK hP 4 0 rfl rfl h_77 dX6_act_77 ?_
          refine lv_iload_n hx hb dX6_act_78 rfl (lv_at hl 3 rfl) ?_
          refine lv_iload_n hx hb dX6_act_79 rfl (lv_at hl 4 rfl) ?_
          obtain ⟨r80, hc80, hf⟩ := zb hf
          refine zvw (o := some (.int r80.1)) (As := [.int (N_kind (F_number 3).toNatClampNeg), .int (F_number 3), .int (N_holds (F_number 3).toNatClampNeg), .int x2, .int x3]) (rest := []) (stk := [.int r80.1]) ⟨hx, hb, hml, hown, hts⟩ (mX3_perform l D cy st sk sv B ag0 ag1 _ n G_bodies (0 : Int32) G_kind G_n G_a G_broken (N_kind (F_number 3).toNatClampNeg) (F_number 3) (N_holds (F_number 3).toNatClampNeg) x2 x3 r80 hc80) (cwV 5 hts gX6_act_X3_perform rfl rfl rfl (by decide +kernel) ⟨Nat.le_of_ble_eq_true rfl, Nat.le_of_ble_eq_true rfl⟩) hG hS hAB hA hP hD [12, 13] (by decide) rfl rfl rfl rfl 0 3 rfl rfl rfl rfl hl.1 rfl (Nat.le_of_ble_eq_true rfl) dX6_act_80 rfl (fun H locs hP hD hS => ?_)
          have hP : va_P D vwCl [(ak, .inr (6, [.ref an0, .ref ay0, .ref ae0, .int uK, .ref aa0, .ref aw0, .ref as0, .ref af0, .ref ag0])), (an0, .inr (4, [.ref an1, .ref an2, .ref an3, .ref an4, .ref an5, .int N_drowned, .int N_count, .int N_course, .int N_told, .int N_z])), (an1, .inl (cy 0, 4, .inl N_laws)), (an2, .inl (cy 0, 8, .inl N_kind)), (an3, .inl (cy 0, 8, .inl N_holds)), (an4, .inl (cy 0, 8, .inl N_gone)), (an5, .inl (cy 0, 8, .inl N_tells)), (af0, .inl (cy 4, 4, .inr (.inr (.inr (.inr (fun j => some (aF j))))))), ((aF 0), .inr (2, [.int (F_what 0), .int (F_number 0), .int (F_sort 0), .int (F_length 0)])), ((aF 1), .inr (2, [.int (F_what 1), .int (F_number 1), .int (F_sort 1), .int (F_length 1)])), ((aF 2), .inr (2, [.int (F_what 2), .int (F_number 2), .int (F_sort 2), .int (F_length 2)])), ((aF 3), .inr (2, [.int (F_what 3), .int (F_number 3), .int (F_sort 3), .int (F_length 3)])), (ag0, .inr (3, [.ref ag1, .int r80.2.2.1, .int r80.2.2.2.1, .int r80.2.2.2.2.1, .int r80.2.2.2.2.2.1, .int r80.2.2.2.2.2.2])), (ag1, .inl (cy 0, 30, .inl r80.2.1))] H := hP
          have hD : va_D A [(ak, .inr (6, [.ref an0, .ref ay0, .ref ae0, .int uK, .ref aa0, .ref aw0, .ref as0, .ref af0, .ref ag0])), (an0, .inr (4, [.ref an1, .ref an2, .ref an3, .ref an4, .ref an5, .int N_drowned, .int N_count, .int N_course, .int N_told, .int N_z])), (an1, .inl (cy 0, 4, .inl N_laws)), (an2, .inl (cy 0, 8, .inl N_kind)), (an3, .inl (cy 0, 8, .inl N_holds)), (an4, .inl (cy 0, 8, .inl N_gone)), (an5, .inl (cy 0, 8, .inl N_tells)), (af0, .inl (cy 4, 4, .inr (.inr (.inr (.inr (fun j => some (aF j))))))), ((aF 0), .inr (2, [.int (F_what 0), .int (F_number 0), .int (F_sort 0), .int (F_length 0)])), ((aF 1), .inr (2, [.int (F_what 1), .int (F_number 1), .int (F_sort 1), .int (F_length 1)])), ((aF 2), .inr (2, [.int (F_what 2), .int (F_number 2), .int (F_sort 2), .int (F_length 2)])), ((aF 3), .inr (2, [.int (F_what 3), .int (F_number 3), .int (F_sort 3), .int (F_length 3)])), (ag0, .inr (3, [.ref ag1, .int r80.2.2.1, .int r80.2.2.2.1, .int r80.2.2.2.2.1, .int r80.2.2.2.2.2.1, .int r80.2.2.2.2.2.2])), (ag1, .inl (cy 0, 30, .inl r80.2.1))] := hD
          exact W.iret hx hb hr (fun t ht hW => hfin r80.1 r80.2.1 r80.2.2.1 r80.2.2.2.1 r80.2.2.2.2.1 r80.2.2.2.2.2.1 r80.2.2.2.2.2.2 hf _ t ht hP (hS.F ht)) hS.2.2 dX6_act_83
        · have hf := zn hf c_36
          refine lv_iconst (v := (0 : Int32)) hx hb dX6_act_39 (by decide) ?_
          exact W.iret hx hb hr (fun t ht hW => hfin (0 : Int32) G_bodies (0 : Int32) G_kind G_n G_a G_broken hf _ t ht hP (hS.F ht)) hS.2.2 dX6_act_40
