set_option maxRecDepth 100000 in
set_option maxHeartbeats 100000000 in
theorem mX6_feed (l : Launch) (D : va_G) (cy : Nat → ClassId) (st sk sv : Nat → Nat) (B : Nat) (ak : Nat) (an0 : Nat) (ay0 : Nat) (ae0 : Nat) (aa0 : Nat) (aw0 : Nat) (as0 : Nat) (af0 : Nat) (ag0 : Nat) (aa1 : Nat) (sz : Nat) (n : Nat) (uK : Int32) (A_bytes : (Nat → Int32)) (A_length : Int32) (A_place : Int32) (A_after : Int32) (A_sort : Int32) (A_number : Int32) (x1 : Int64) (x3 : Int32) (z : Int32 × TP) (hf : fX6_feed n uK (A_bytes, A_length, A_place, A_after, A_sort, A_number) x1 x3 = some z) : Met l yX6_feed wsX6_feed ({ frames := 1, cells := 0, slots := 0, locals := 22 }) (PcW [.ref ak, .long x1, .int x3] D cy st sk sv B sz [(ak, .inr (6, [.ref an0, .ref ay0, .ref ae0, .int uK, .ref aa0, .ref aw0, .ref as0, .ref af0, .ref ag0])), (aa0, .inr (5, [.ref aa1, .int A_length, .int A_place, .int A_after, .int A_sort, .int A_number])), (aa1, .inl (cy 1, 200, .inl A_bytes))]) (Qw (some (.int z.1)) D [(ak, .inr (6, [.ref an0, .ref ay0, .ref ae0, .int uK, .ref aa0, .ref aw0, .ref as0, .ref af0, .ref ag0])), (aa0, .inr (5, [.ref aa1, .int z.2.2.1, .int z.2.2.2.1, .int z.2.2.2.2.1, .int z.2.2.2.2.2.1, .int z.2.2.2.2.2.2])), (aa1, .inl (cy 1, 200, .inl z.2.1))] (va_A [(ak, .inr (6, [.ref an0, .ref ay0, .ref ae0, .int uK, .ref aa0, .ref aw0, .ref as0, .ref af0, .ref ag0])), (aa0, .inr (5, [.ref aa1, .int A_length, .int A_place, .int A_after, .int A_sort, .int A_number])), (aa1, .inl (cy 1, 200, .inl A_bytes))] sz)) 0 0 (va_A [(ak, .inr (6, [.ref an0, .ref ay0, .ref ae0, .int uK, .ref aa0, .ref aw0, .ref as0, .ref af0, .ref ag0])), (aa0, .inr (5, [.ref aa1, .int A_length, .int A_place, .int A_after, .int A_sort, .int A_number])), (aa1, .inl (cy 1, 200, .inl A_bytes))] sz) := by
  refine Met.ofW (cc := cX6_feed) (maxL := 5) (ret := (some .int)) (by decide) rfl ?_
  intro p e s m args below meth c s₁ Bd hml hv
  obtain ⟨rfl, hsz, hP, hD0, hBs, hG⟩ := hv
  have hx := Bd.exec
  have hb := Bd.bytes
  have hr := Bd.returns
  have hts := atoms_spec (ws := wsX6_feed) Bd.pre
  have hown : s.vm.findClass RX6 = some m.cls := findClass_of_methodNamed Bd.named
  have hlocks := Bd.notSynchronized
  have hK := hG.1
  subst hsz
  have hD := hD0.self (sz := s.heap.size)
  have hAB0 := zA hD0 hBs
  generalize hAe : va_A [(ak, .inr (6, [.ref an0, .ref ay0, .ref ae0, .int uK, .ref aa0, .ref aw0, .ref as0, .ref af0, .ref ag0])), (aa0, .inr (5, [.ref aa1, .int A_length, .int A_place, .int A_after, .int A_sort, .int A_number])), (aa1, .inl (cy 1, 200, .inl A_bytes))] s.heap.size = A at hD hAB0 ⊢
  have hA : ∀ q : Nat, s.heap.size ≤ q → A q := fun q h => by rw [← hAe]; exact Or.inr h
  have hAB : ∀ q, A q → B ≤ q := hAB0
  have hS : va_S A s.heap s.heap [] := va_S.rf
  have hfin : ∀ (z0 : Int32) (A_bytes : (Nat → Int32)) (A_length : Int32) (A_place : Int32) (A_after : Int32) (A_sort : Int32) (A_number : Int32), some (z0, (A_bytes, A_length, A_place, A_after, A_sort, A_number)) = some z → ∀ (H : Heap) (t : State), t.heap = H → va_P D vwCl [(ak, .inr (6, [.ref an0, .ref ay0, .ref ae0, .int uK, .ref aa0, .ref aw0, .ref as0, .ref af0, .ref ag0])), (aa0, .inr (5, [.ref aa1, .int A_length, .int A_place, .int A_after, .int A_sort, .int A_number])), (aa1, .inl (cy 1, 200, .inl A_bytes))] H → va_F A s t → Qw (some (.int z.1)) D [(ak, .inr (6, [.ref an0, .ref ay0, .ref ae0, .int uK, .ref aa0, .ref aw0, .ref as0, .ref af0, .ref ag0])), (aa0, .inr (5, [.ref aa1, .int z.2.2.1, .int z.2.2.2.1, .int z.2.2.2.2.1, .int z.2.2.2.2.2.1, .int z.2.2.2.2.2.2])), (aa1, .inl (cy 1, 200, .inl z.2.1))] A ([.ref ak, .long x1, .int x3] : List Value).toArray s (.returned (some (.int z0))) t := by
    intro z0 A_bytes A_length A_place A_after A_sort A_number h9 H t ht hP hF
    cases h9
    exact ⟨rfl, by rw [ht]; exact hP, hF⟩
  have hin5 : ∀ w ∈ u_ws RX5 TX5 6, w ∈ wsX6_feed := by decide +kernel
  have hin6 : ∀ w ∈ u_ws RX6 TX6 9, w ∈ wsX6_feed := by decide +kernel
  have fl25 := hts (.fieldLink RX6 25 "KinCutlery" "tape" "LKinCutlery$Tape;") (by decide +kernel)
  have fl61 := hts (.fieldLink RX6 61 "KinCutlery$Tape" "length" "I") (by decide +kernel)
  have fl65 := hts (.fieldLink RX6 65 "KinCutlery$Tape" "bytes" "[B") (by decide +kernel)
  have hL33 : ∀ (n0 : Nat) (A_bytes : (Nat → Int32)) (A_length : Int32) (A_place : Int32) (A_after : Int32) (A_sort : Int32) (A_number : Int32) (y4 : Int32), lpF (fX6_feed_F33 n uK x1 x3 ) n0 ((A_bytes, A_length, A_place, A_after, A_sort, A_number), y4) = some z → ∀ (H : Heap) (locs : List Loc), va_P D vwCl [(ak, .inr (6, [.ref an0, .ref ay0, .ref ae0, .int uK, .ref aa0, .ref aw0, .ref as0, .ref af0, .ref ag0])), (aa0, .inr (5, [.ref aa1, .int A_length, .int A_place, .int A_after, .int A_sort, .int A_number])), (aa1, .inl (cy 1, 200, .inl A_bytes))] H → va_D A [(ak, .inr (6, [.ref an0, .ref ay0, .ref ae0, .int uK, .ref aa0, .ref aw0, .ref as0, .ref af0, .ref ag0])), (aa0, .inr (5, [.ref aa1, .int A_length, .int A_place, .int A_after, .int A_sort, .int A_number])), (aa1, .inl (cy 1, 200, .inl A_bytes))] → va_S A s.heap H locs → ∀ (ls : Array Slot), lv_has ls 5 [(0, .ref ak), (1, .long x1), (3, .int x3), (4, .int y4)] → W p l e (headSpec wsX6_feed ({ frames := 1, cells := 0, slots := 0, locals := 22 })).room s m ([.ref ak, .long x1, .int x3] : List Value).toArray below meth c H locs 0 0 (MQ below (Qw (some (.int z.1)) D [(ak, .inr (6, [.ref an0, .ref ay0, .ref ae0, .int uK, .ref aa0, .ref aw0, .ref as0, .ref af0, .ref ag0])), (aa0, .inr (5, [.ref aa1, .int z.2.2.1, .int z.2.2.2.1, .int z.2.2.2.2.1, .int z.2.2.2.2.2.1, .int z.2.2.2.2.2.2])), (aa1, .inl (cy 1, 200, .inl z.2.1))] A) ([.ref ak, .long x1, .int x3] : List Value).toArray s 0 0 A) (F0 m 33 ls []) := by
    have key : ∀ (n0 : Nat) (v33 : TP × Int32), lpF (fX6_feed_F33 n uK x1 x3 ) n0 v33 = some z → ∀ (H : Heap) (locs : List Loc), va_P D vwCl [(ak, .inr (6, [.ref an0, .ref ay0, .ref ae0, .int uK, .ref aa0, .ref aw0, .ref as0, .ref af0, .ref ag0])), (aa0, .inr (5, [.ref aa1, .int v33.1.2.1, .int v33.1.2.2.1, .int v33.1.2.2.2.1, .int v33.1.2.2.2.2.1, .int v33.1.2.2.2.2.2])), (aa1, .inl (cy 1, 200, .inl v33.1.1))] H → va_D A [(ak, .inr (6, [.ref an0, .ref ay0, .ref ae0, .int uK, .ref aa0, .ref aw0, .ref as0, .ref af0, .ref ag0])), (aa0, .inr (5, [.ref aa1, .int v33.1.2.1, .int v33.1.2.2.1, .int v33.1.2.2.2.1, .int v33.1.2.2.2.2.1, .int v33.1.2.2.2.2.2])), (aa1, .inl (cy 1, 200, .inl v33.1.1))] → va_S A s.heap H locs → ∀ (ls : Array Slot), lv_has ls 5 [(0, .ref ak), (1, .long x1), (3, .int x3), (4, .int v33.2)] → W p l e (headSpec wsX6_feed ({ frames := 1, cells := 0, slots := 0, locals := 22 })).room s m ([.ref ak, .long x1, .int x3] : List Value).toArray below meth c H locs 0 0 (MQ below (Qw (some (.int z.1)) D [(ak, .inr (6, [.ref an0, .ref ay0, .ref ae0, .int uK, .ref aa0, .ref aw0, .ref as0, .ref af0, .ref ag0])), (aa0, .inr (5, [.ref aa1, .int z.2.2.1, .int z.2.2.2.1, .int z.2.2.2.2.1, .int z.2.2.2.2.2.1, .int z.2.2.2.2.2.2])), (aa1, .inl (cy 1, 200, .inl z.2.1))] A) ([.ref ak, .long x1, .int x3] : List Value).toArray s 0 0 A) (F0 m 33 ls []) := by
      refine lpW ?_
      intro k33 hk330
      have hk33 : ∀ (A_bytes : (Nat → Int32)) (A_length : Int32) (A_place : Int32) (A_after : Int32) (A_sort : Int32) (A_number : Int32) (y4 : Int32), k33 ((A_bytes, A_length, A_place, A_after, A_sort, A_number), y4) = some z → ∀ (H : Heap) (locs : List Loc), va_P D vwCl [(ak, .inr (6, [.ref an0, .ref ay0, .ref ae0, .int uK, .ref aa0, .ref aw0, .ref as0, .ref af0, .ref ag0])), (aa0, .inr (5, [.ref aa1, .int A_length, .int A_place, .int A_after, .int A_sort, .int A_number])), (aa1, .inl (cy 1, 200, .inl A_bytes))] H → va_D A [(ak, .inr (6, [.ref an0, .ref ay0, .ref ae0, .int uK, .ref aa0, .ref aw0, .ref as0, .ref af0, .ref ag0])), (aa0, .inr (5, [.ref aa1, .int A_length, .int A_place, .int A_after, .int A_sort, .int A_number])), (aa1, .inl (cy 1, 200, .inl A_bytes))] → va_S A s.heap H locs → ∀ (ls : Array Slot), lv_has ls 5 [(0, .ref ak), (1, .long x1), (3, .int x3), (4, .int y4)] → W p l e (headSpec wsX6_feed ({ frames := 1, cells := 0, slots := 0, locals := 22 })).room s m ([.ref ak, .long x1, .int x3] : List Value).toArray below meth c H locs 0 0 (MQ below (Qw (some (.int z.1)) D [(ak, .inr (6, [.ref an0, .ref ay0, .ref ae0, .int uK, .ref aa0, .ref aw0, .ref as0, .ref af0, .ref ag0])), (aa0, .inr (5, [.ref aa1, .int z.2.2.1, .int z.2.2.2.1, .int z.2.2.2.2.1, .int z.2.2.2.2.2.1, .int z.2.2.2.2.2.2])), (aa1, .inl (cy 1, 200, .inl z.2.1))] A) ([.ref ak, .long x1, .int x3] : List Value).toArray s 0 0 A) (F0 m 33 ls []) := fun A_bytes A_length A_place A_after A_sort A_number y4 h9 => hk330 ((A_bytes, A_length, A_place, A_after, A_sort, A_number), y4) h9
      have hstep : ∀ (A_bytes : (Nat → Int32)) (A_length : Int32) (A_place : Int32) (A_after : Int32) (A_sort : Int32) (A_number : Int32) (y4 : Int32), fX6_feed_F33 n uK x1 x3  k33 ((A_bytes, A_length, A_place, A_after, A_sort, A_number), y4) = some z → ∀ (H : Heap) (locs : List Loc), va_P D vwCl [(ak, .inr (6, [.ref an0, .ref ay0, .ref ae0, .int uK, .ref aa0, .ref aw0, .ref as0, .ref af0, .ref ag0])), (aa0, .inr (5, [.ref aa1, .int A_length, .int A_place, .int A_after, .int A_sort, .int A_number])), (aa1, .inl (cy 1, 200, .inl A_bytes))] H → va_D A [(ak, .inr (6, [.ref an0, .ref ay0, .ref ae0, .int uK, .ref aa0, .ref aw0, .ref as0, .ref af0, .ref ag0])), (aa0, .inr (5, [.ref aa1, .int A_length, .int A_place, .int A_after, .int A_sort, .int A_number])), (aa1, .inl (cy 1, 200, .inl A_bytes))] → va_S A s.heap H locs → ∀ (ls : Array Slot), lv_has ls 5 [(0, .ref ak), (1, .long x1), (3, .int x3), (4, .int y4)] → W p l e (headSpec wsX6_feed ({ frames := 1, cells := 0, slots := 0, locals := 22 })).room s m ([.ref ak, .long x1, .int x3] : List Value).toArray below meth c H locs 0 0 (MQ below (Qw (some (.int z.1)) D [(ak, .inr (6, [.ref an0, .ref ay0, .ref ae0, .int uK, .ref aa0, .ref aw0, .ref as0, .ref af0, .ref ag0])), (aa0, .inr (5, [.ref aa1, .int z.2.2.1, .int z.2.2.2.1, .int z.2.2.2.2.1, .int z.2.2.2.2.2.1, .int z.2.2.2.2.2.2])), (aa1, .inl (cy 1, 200, .inl z.2.1))] A) ([.ref ak, .long x1, .int x3] : List Value).toArray s 0 0 A) (F0 m 33 ls []) := by
        intro A_bytes A_length A_place A_after A_sort A_number y4 hf H locs hP hD hS ls hl
        have hf : (if x3 ≤ y4 then (some (A_length, (A_bytes, A_length, A_place, A_after, A_sort, A_number))) else (if A_length < 0 ∨ 200 ≤ A_length.toNatClampNeg then none else k33 (((upd A_bytes A_length.toNatClampNeg (vp_nar .byte (x1.toUInt64 >>> (((8 : Int32) * y4).toInt64.toUInt64 &&& Int64.toUInt64 63)).toInt64.toInt32.toInt8.toInt32)), (A_length + (1 : Int32)), A_place, A_after, A_sort, A_number), (y4 + (1 : Int32))))) = some z := hf
        refine lv_iload hx hb dX6_feed_33 (lv_at hl 3 rfl) ?_
        refine lv_iload_n hx hb dX6_feed_35 rfl (lv_at hl 2 rfl) ?_
        refine lv_icmp_ge (tgt := 82) hx hb dX6_feed_36 (by decide) (fun c_36 => ?_) (fun c_36 => ?_)
        · have hf := zp hf c_36
          refine lv_aload_n hx hb dX6_feed_82 rfl (lv_at hl 0 rfl) ?_
          refine va_get (D := D) (ci := 6) (v := .ref aa0) (C := RX6) (T := TX6) (N := 9) hx hb hts hin6 hown hK hP 0 rfl rfl 4 (by decide) fl25 (fun _ h9 => h9) rfl dX6_feed_83 ?_
          refine va_get (D := D) (ci := 5) (v := .int A_length) (C := RX5) (T := TX5) (N := 6) hx hb hts hin5 hown hK hP 1 rfl rfl 1 (by decide) fl61 (fun _ h9 => h9) rfl dX6_feed_86 ?_
          exact W.iret hx hb hr (fun t ht hW => hfin A_length A_bytes A_length A_place A_after A_sort A_number hf _ t ht hP (hS.F ht)) hS.2.2 dX6_feed_89
        · have hf := zn hf c_36
          refine lv_aload_n hx hb dX6_feed_39 rfl (lv_at hl 0 rfl) ?_
          refine va_get (D := D) (ci := 6) (v := .ref aa0) (C := RX6) (T := TX6) (N := 9) hx hb hts hin6 hown hK hP 0 rfl rfl 4 (by decide) fl25 (fun _ h9 => h9) rfl dX6_feed_40 ?_
          refine va_get (D := D) (ci := 5) (v := .ref aa1) (C := RX5) (T := TX5) (N := 6) hx hb hts hin5 hown hK hP 1 rfl rfl 0 (by decide) fl65 (fun _ h9 => h9) rfl dX6_feed_43 ?_
          refine lv_aload_n hx hb dX6_feed_46 rfl (lv_at hl 0 rfl) ?_
          refine va_get (D := D) (ci := 6) (v := .ref aa0) (C := RX6) (T := TX6) (N := 9) hx hb hts hin6 hown hK hP 0 rfl rfl 4 (by decide) fl25 (fun _ h9 => h9) rfl dX6_feed_47 ?_
          refine va_get (D := D) (ci := 5) (v := .int A_length) (C := RX5) (T := TX5) (N := 6) hx hb hts hin5 hown hK hP 1 rfl rfl 1 (by decide) fl61 (fun _ h9 => h9) rfl dX6_feed_50 ?_
          refine lv_lload_n hx hb dX6_feed_53 rfl (lv_at hl 1 rfl) ?_
          refine lv_bipush (v := (8 : Int32)) hx hb dX6_feed_54 (by decide) ?_
          refine lv_iload hx hb dX6_feed_56 (lv_at hl 3 rfl) ?_
          refine lv_imul hx hb dX6_feed_58 ?_
          refine lv_lushr hx hb dX6_feed_59 rfl ?_
          refine lv_l2i hx hb dX6_feed_60 rfl ?_
          refine lv_i2b hx hb dX6_feed_61 rfl ?_
          obtain ⟨h_62, hf⟩ := zg hf
          refine va_bast hx hb hK hP hD hS 2 1 rfl rfl h_62 dX6_feed_62 (fun H locs hP hD hS => ?_)
          have hP : va_P D vwCl [(ak, .inr (6, [.ref an0, .ref ay0, .ref ae0, .int uK, .ref aa0, .ref aw0, .ref as0, .ref af0, .ref ag0])), (aa0, .inr (5, [.ref aa1, .int A_length, .int A_place, .int A_after, .int A_sort, .int A_number])), (aa1, .inl (cy 1, 200, .inl (upd A_bytes A_length.toNatClampNeg (vp_nar .byte (x1.toUInt64 >>> (((8 : Int32) * y4).toInt64.toUInt64 &&& Int64.toUInt64 63)).toInt64.toInt32.toInt8.toInt32))))] H := hP
          have hD : va_D A [(ak, .inr (6, [.ref an0, .ref ay0, .ref ae0, .int uK, .ref aa0, .ref aw0, .ref as0, .ref af0, .ref ag0])), (aa0, .inr (5, [.ref aa1, .int A_length, .int A_place, .int A_after, .int A_sort, .int A_number])), (aa1, .inl (cy 1, 200, .inl (upd A_bytes A_length.toNatClampNeg (vp_nar .byte (x1.toUInt64 >>> (((8 : Int32) * y4).toInt64.toUInt64 &&& Int64.toUInt64 63)).toInt64.toInt32.toInt8.toInt32))))] := hD
          refine lv_aload_n hx hb dX6_feed_63 rfl (lv_at hl 0 rfl) ?_
          refine va_get (D := D) (ci := 6) (v := .ref aa0) (C := RX6) (T := TX6) (N := 9) hx hb hts hin6 hown hK hP 0 rfl rfl 4 (by decide) fl25 (fun _ h9 => h9) rfl dX6_feed_64 ?_
          refine lv_dup hx hb dX6_feed_67 rfl ?_
          refine va_get (D := D) (ci := 5) (v := .int A_length) (C := RX5) (T := TX5) (N := 6) hx hb hts hin5 hown hK hP 1 rfl rfl 1 (by decide) fl61 (fun _ h9 => h9) rfl dX6_feed_68 ?_
          refine lv_iconst (v := (1 : Int32)) hx hb dX6_feed_71 (by decide) ?_
          refine lv_iadd hx hb dX6_feed_72 ?_
          refine va_put (D := D) (ci := 5) (v := .int (A_length + (1 : Int32))) (ty := .int) (C := RX5) (T := TX5) (N := 6) hx hb hts hin5 tyX5 tyX5_ok nmX5 hown hK hP hD hS 1 rfl rfl 1 (by decide) fl61 (fun _ h9 => h9) rfl (by decide +kernel) rfl rfl (Nat.le_of_ble_eq_true rfl) dX6_feed_73 (fun H locs hP hD hS => ?_)
          have hP : va_P D vwCl [(ak, .inr (6, [.ref an0, .ref ay0, .ref ae0, .int uK, .ref aa0, .ref aw0, .ref as0, .ref af0, .ref ag0])), (aa0, .inr (5, [.ref aa1, .int (A_length + (1 : Int32)), .int A_place, .int A_after, .int A_sort, .int A_number])), (aa1, .inl (cy 1, 200, .inl (upd A_bytes A_length.toNatClampNeg (vp_nar .byte (x1.toUInt64 >>> (((8 : Int32) * y4).toInt64.toUInt64 &&& Int64.toUInt64 63)).toInt64.toInt32.toInt8.toInt32))))] H := hP
          have hD : va_D A [(ak, .inr (6, [.ref an0, .ref ay0, .ref ae0, .int uK, .ref aa0, .ref aw0, .ref as0, .ref af0, .ref ag0])), (aa0, .inr (5, [.ref aa1, .int (A_length + (1 : Int32)), .int A_place, .int A_after, .int A_sort, .int A_number])), (aa1, .inl (cy 1, 200, .inl (upd A_bytes A_length.toNatClampNeg (vp_nar .byte (x1.toUInt64 >>> (((8 : Int32) * y4).toInt64.toUInt64 &&& Int64.toUInt64 63)).toInt64.toInt32.toInt8.toInt32))))] := hD
          refine lv_iinc (v := (y4 + (1 : Int32))) (lv' := [(4, .int (y4 + (1 : Int32))), (0, .ref ak), (1, .long x1), (3, .int x3)]) hx hb dX6_feed_76 hl (k := 3) rfl rfl (by decide) rfl (fun ls hl => ?_)
          refine lv_goto (tgt := 33) hx hb dX6_feed_79 (by decide) ?_
          exact hk33 (upd A_bytes A_length.toNatClampNeg (vp_nar .byte (x1.toUInt64 >>> (((8 : Int32) * y4).toInt64.toUInt64 &&& Int64.toUInt64 63)).toInt64.toInt32.toInt8.toInt32)) (A_length + (1 : Int32)) A_place A_after A_sort A_number (y4 + (1 : Int32)) hf _ _ hP hD hS _ (lv_sub hl [1, 2, 3, 0] rfl)
      exact fun v33 h9 => hstep v33.1.1 v33.1.2.1 v33.1.2.2.1 v33.1.2.2.2.1 v33.1.2.2.2.2.1 v33.1.2.2.2.2.2 v33.2 h9
    exact fun n0 A_bytes A_length A_place A_after A_sort A_number y4 h9 => key n0 ((A_bytes, A_length, A_place, A_after, A_sort, A_number), y4) h9
  have hl := lv_entry ([.ref ak, .long x1, .int x3]) (n := 5) (Nat.le_of_ble_eq_true rfl)
  rw [lg_entry_eq]
  generalize (lg_sl ([.ref ak, .long x1, .int x3]) ++ List.replicate (5 - (lg_sl ([.ref ak, .long x1, .int x3])).length) Slot.unset).toArray = ls at hl ⊢
  have hl : lv_has ls 5 [(0, .ref ak), (1, .long x1), (3, .int x3)] := hl
  have hf : ((fX6_within n x3 (1 : Int32) (8 : Int32)).bind fun r4 => if r4 = 0 then (some ((-1 : Int32), (A_bytes, A_length, A_place, A_after, A_sort, A_number))) else (if (A_length + x3) ≤ (200 : Int32) then (lpF (fX6_feed_F33 n uK x1 x3 ) n ((A_bytes, A_length, A_place, A_after, A_sort, A_number), (0 : Int32))) else (some ((-2 : Int32), (A_bytes, A_length, A_place, A_after, A_sort, A_number))))) = some z := hf
  refine lv_iload_n hx hb dX6_feed_0 rfl (lv_at hl 2 rfl) ?_
  refine lv_iconst (v := (1 : Int32)) hx hb dX6_feed_1 (by decide) ?_
  refine lv_bipush (v := (8 : Int32)) hx hb dX6_feed_2 (by decide) ?_
  obtain ⟨r4, hc4, hf⟩ := zb hf
  refine zsr (o := some (.int r4)) (As := [.int x3, .int (1 : Int32), .int (8 : Int32)]) (rest := []) (stk := [.int r4]) ⟨hx, hb, hml, hown, hts⟩ (mX6_within l D cy st sk sv B  n x3 (1 : Int32) (8 : Int32) r4 hc4) (va_cwS 3 hts gX6_feed_X6_within rfl rfl rfl (by decide +kernel) ⟨Nat.le_of_ble_eq_true rfl, Nat.le_of_ble_eq_true rfl⟩) hG hS hAB hP [] rfl rfl hl.1 rfl (Nat.le_of_ble_eq_true rfl) dX6_feed_4 rfl ?_
  refine lv_if_ne (tgt := 12) hx hb dX6_feed_7 (by decide) (fun c_7 => ?_) (fun c_7 => ?_)
  · have hf := zn hf c_7
    refine lv_aload_n hx hb dX6_feed_12 rfl (lv_at hl 0 rfl) ?_
    refine va_get (D := D) (ci := 6) (v := .ref aa0) (C := RX6) (T := TX6) (N := 9) hx hb hts hin6 hown hK hP 0 rfl rfl 4 (by decide) fl25 (fun _ h9 => h9) rfl dX6_feed_13 ?_
    refine va_get (D := D) (ci := 5) (v := .int A_length) (C := RX5) (T := TX5) (N := 6) hx hb hts hin5 hown hK hP 1 rfl rfl 1 (by decide) fl61 (fun _ h9 => h9) rfl dX6_feed_16 ?_
    refine lv_iload_n hx hb dX6_feed_19 rfl (lv_at hl 2 rfl) ?_
    refine lv_iadd hx hb dX6_feed_20 ?_
    refine lv_sipush (v := (200 : Int32)) hx hb dX6_feed_21 (by decide) ?_
    refine lv_icmp_le (tgt := 30) hx hb dX6_feed_24 (by decide) (fun c_24 => ?_) (fun c_24 => ?_)
    · have hf := zp hf c_24
      refine lv_iconst (v := (0 : Int32)) hx hb dX6_feed_30 (by decide) ?_
      refine lv_istore (lv' := [(4, .int (0 : Int32)), (0, .ref ak), (1, .long x1), (3, .int x3)]) hx hb dX6_feed_31 hl (by decide) rfl (fun ls hl => ?_)
      exact hL33 n A_bytes A_length A_place A_after A_sort A_number (0 : Int32) hf _ _ hP hD hS _ (lv_sub hl [1, 2, 3, 0] rfl)
    · have hf := zn hf c_24
      refine lv_bipush (v := (-2 : Int32)) hx hb dX6_feed_27 (by decide) ?_
      exact W.iret hx hb hr (fun t ht hW => hfin (-2 : Int32) A_bytes A_length A_place A_after A_sort A_number hf _ t ht hP (hS.F ht)) hS.2.2 dX6_feed_29
  · have hf := zp hf c_7
    refine lv_iconst (v := (-1 : Int32)) hx hb dX6_feed_10 (by decide) ?_
    exact W.iret hx hb hr (fun t ht hW => hfin (-1 : Int32) A_bytes A_length A_place A_after A_sort A_number hf _ t ht hP (hS.F ht)) hS.2.2 dX6_feed_11
set_option maxRecDepth 100000 in
set_option maxHeartbeats 100000000 in
theorem mX6_feast (l : Launch) (D : va_G) (cy : Nat → ClassId) (st sk sv : Nat → Nat) (B : Nat) (ak : Nat) (an0 : Nat) (ay0 : Nat) (ae0 : Nat) (aa0 : Nat) (aw0 : Nat) (as0 : Nat) (af0 : Nat) (ag0 : Nat) (an1 : Nat) (an2 : Nat) (an3 : Nat) (an4 : Nat) (an5 : Nat) (ay1 : Nat) (ay2 : Nat) (ay3 : Nat) (ay4 : Nat) (ay5 : Nat) (aa1 : Nat) (aw1 : Nat) (sz : Nat) (n : Nat) (uK : Int32) (N_laws : (Nat → Int32)) (N_kind : (Nat → Int32)) (N_holds : (Nat → Int32)) (N_gone : (Nat → Int32)) (N_tells : (Nat → Int32)) (N_drowned : Int32) (N_count : Int32) (N_course : Int32) (N_told : Int32) (N_z : Int32) (Y_laws : (Nat → Int32)) (Y_kind : (Nat → Int32)) (Y_holds : (Nat → Int32)) (Y_gone : (Nat → Int32)) (Y_tells : (Nat → Int32)) (Y_drowned : Int32) (Y_count : Int32) (Y_course : Int32) (Y_told : Int32) (Y_z : Int32) (A_bytes : (Nat → Int32)) (A_length : Int32) (A_place : Int32) (A_after : Int32) (A_sort : Int32) (A_number : Int32) (W_cells : (Nat → Int32)) (W_count : Int32)  (z : Int32 × TB × TB × TP × RW) (hf : fX6_feast n uK (N_laws, N_kind, N_holds, N_gone, N_tells, N_drowned, N_count, N_course, N_told, N_z) (Y_laws, Y_kind, Y_holds, Y_gone, Y_tells, Y_drowned, Y_count, Y_course, Y_told, Y_z) (A_bytes, A_length, A_place, A_after, A_sort, A_number) (W_cells, W_count) = some z) : Met l yX6_feast wsX6_feast ({ frames := 10, cells := 0, slots := 0, locals := 271 }) (PcW [.ref ak] D cy st sk sv B sz [(ak, .inr (6, [.ref an0, .ref ay0, .ref ae0, .int uK, .ref aa0, .ref aw0, .ref as0, .ref af0, .ref ag0])), (an0, .inr (4, [.ref an1, .ref an2, .ref an3, .ref an4, .ref an5, .int N_drowned, .int N_count, .int N_course, .int N_told, .int N_z])), (an1, .inl (cy 0, 4, .inl N_laws)), (an2, .inl (cy 0, 8, .inl N_kind)), (an3, .inl (cy 0, 8, .inl N_holds)), (an4, .inl (cy 0, 8, .inl N_gone)), (an5, .inl (cy 0, 8, .inl N_tells)), (ay0, .inr (4, [.ref ay1, .ref ay2, .ref ay3, .ref ay4, .ref ay5, .int Y_drowned, .int Y_count, .int Y_course, .int Y_told, .int Y_z])), (ay1, .inl (cy 0, 4, .inl Y_laws)), (ay2, .inl (cy 0, 8, .inl Y_kind)), (ay3, .inl (cy 0, 8, .inl Y_holds)), (ay4, .inl (cy 0, 8, .inl Y_gone)), (ay5, .inl (cy 0, 8, .inl Y_tells)), (aa0, .inr (5, [.ref aa1, .int A_length, .int A_place, .int A_after, .int A_sort, .int A_number])), (aa1, .inl (cy 1, 200, .inl A_bytes)), (aw0, .inr (0, [.ref aw1, .int W_count])), (aw1, .inl (cy 0, 30, .inl W_cells))]) (Qw (some (.int z.1)) D [(ak, .inr (6, [.ref an0, .ref ay0, .ref ae0, .int uK, .ref aa0, .ref aw0, .ref as0, .ref af0, .ref ag0])), (an0, .inr (4, [.ref an1, .ref an2, .ref an3, .ref an4, .ref an5, .int z.2.1.2.2.2.2.2.1, .int z.2.1.2.2.2.2.2.2.1, .int z.2.1.2.2.2.2.2.2.2.1, .int z.2.1.2.2.2.2.2.2.2.2.1, .int z.2.1.2.2.2.2.2.2.2.2.2])), (an1, .inl (cy 0, 4, .inl z.2.1.1)), (an2, .inl (cy 0, 8, .inl z.2.1.2.1)), (an3, .inl (cy 0, 8, .inl z.2.1.2.2.1)), (an4, .inl (cy 0, 8, .inl z.2.1.2.2.2.1)), (an5, .inl (cy 0, 8, .inl z.2.1.2.2.2.2.1)), (ay0, .inr (4, [.ref ay1, .ref ay2, .ref ay3, .ref ay4, .ref ay5, .int z.2.2.1.2.2.2.2.2.1, .int z.2.2.1.2.2.2.2.2.2.1, .int z.2.2.1.2.2.2.2.2.2.2.1, .int z.2.2.1.2.2.2.2.2.2.2.2.1, .int z.2.2.1.2.2.2.2.2.2.2.2.2])), (ay1, .inl (cy 0, 4, .inl z.2.2.1.1)), (ay2, .inl (cy 0, 8, .inl z.2.2.1.2.1)), (ay3, .inl (cy 0, 8, .inl z.2.2.1.2.2.1)), (ay4, .inl (cy 0, 8, .inl z.2.2.1.2.2.2.1)), (ay5, .inl (cy 0, 8, .inl z.2.2.1.2.2.2.2.1)), (aa0, .inr (5, [.ref aa1, .int z.2.2.2.1.2.1, .int z.2.2.2.1.2.2.1, .int z.2.2.2.1.2.2.2.1, .int z.2.2.2.1.2.2.2.2.1, .int z.2.2.2.1.2.2.2.2.2])), (aa1, .inl (cy 1, 200, .inl z.2.2.2.1.1)), (aw0, .inr (0, [.ref aw1, .int z.2.2.2.2.2])), (aw1, .inl (cy 0, 30, .inl z.2.2.2.2.1))] (va_A [(ak, .inr (6, [.ref an0, .ref ay0, .ref ae0, .int uK, .ref aa0, .ref aw0, .ref as0, .ref af0, .ref ag0])), (an0, .inr (4, [.ref an1, .ref an2, .ref an3, .ref an4, .ref an5, .int N_drowned, .int N_count, .int N_course, .int N_told, .int N_z])), (an1, .inl (cy 0, 4, .inl N_laws)), (an2, .inl (cy 0, 8, .inl N_kind)), (an3, .inl (cy 0, 8, .inl N_holds)), (an4, .inl (cy 0, 8, .inl N_gone)), (an5, .inl (cy 0, 8, .inl N_tells)), (ay0, .inr (4, [.ref ay1, .ref ay2, .ref ay3, .ref ay4, .ref ay5, .int Y_drowned, .int Y_count, .int Y_course, .int Y_told, .int Y_z])), (ay1, .inl (cy 0, 4, .inl Y_laws)), (ay2, .inl (cy 0, 8, .inl Y_kind)), (ay3, .inl (cy 0, 8, .inl Y_holds)), (ay4, .inl (cy 0, 8, .inl Y_gone)), (ay5, .inl (cy 0, 8, .inl Y_tells)), (aa0, .inr (5, [.ref aa1, .int A_length, .int A_place, .int A_after, .int A_sort, .int A_number])), (aa1, .inl (cy 1, 200, .inl A_bytes)), (aw0, .inr (0, [.ref aw1, .int W_count])), (aw1, .inl (cy 0, 30, .inl W_cells))] sz)) 0 0 (va_A [(ak, .inr (6, [.ref an0, .ref ay0, .ref ae0, .int uK, .ref aa0, .ref aw0, .ref as0, .ref af0, .ref ag0])), (an0, .inr (4, [.ref an1, .ref an2, .ref an3, .ref an4, .ref an5, .int N_drowned, .int N_count, .int N_course, .int N_told, .int N_z])), (an1, .inl (cy 0, 4, .inl N_laws)), (an2, .inl (cy 0, 8, .inl N_kind)), (an3, .inl (cy 0, 8, .inl N_holds)), (an4, .inl (cy 0, 8, .inl N_gone)), (an5, .inl (cy 0, 8, .inl N_tells)), (ay0, .inr (4, [.ref ay1, .ref ay2, .ref ay3, .ref ay4, .ref ay5, .int Y_drowned, .int Y_count, .int Y_course, .int Y_told, .int Y_z])), (ay1, .inl (cy 0, 4, .inl Y_laws)), (ay2, .inl (cy 0, 8, .inl Y_kind)), (ay3, .inl (cy 0, 8, .inl Y_holds)), (ay4, .inl (cy 0, 8, .inl Y_gone)), (ay5, .inl (cy 0, 8, .inl Y_tells)), (aa0, .inr (5, [.ref aa1, .int A_length, .int A_place, .int A_after, .int A_sort, .int A_number])), (aa1, .inl (cy 1, 200, .inl A_bytes)), (aw0, .inr (0, [.ref aw1, .int W_count])), (aw1, .inl (cy 0, 30, .inl W_cells))] sz) := by
  refine Met.ofW (cc := cX6_feast) (maxL := 3) (ret := (some .int)) (by decide) rfl ?_
  intro p e s m args below meth c s₁ Bd hml hv
  obtain ⟨rfl, hsz, hP, hD0, hBs, hG⟩ := hv
  have hx := Bd.exec
  have hb := Bd.bytes
  have hr := Bd.returns
  have hts := atoms_spec (ws := wsX6_feast) Bd.pre
  have hown : s.vm.findClass RX6 = some m.cls := findClass_of_methodNamed Bd.named
  have hlocks := Bd.notSynchronized
  have hK := hG.1
  subst hsz
  have hD := hD0.self (sz := s.heap.size)
  have hAB0 := zA hD0 hBs
  generalize hAe : va_A [(ak, .inr (6, [.ref an0, .ref ay0, .ref ae0, .int uK, .ref aa0, .ref aw0, .ref as0, .ref af0, .ref ag0])), (an0, .inr (4, [.ref an1, .ref an2, .ref an3, .ref an4, .ref an5, .int N_drowned, .int N_count, .int N_course, .int N_told, .int N_z])), (an1, .inl (cy 0, 4, .inl N_laws)), (an2, .inl (cy 0, 8, .inl N_kind)), (an3, .inl (cy 0, 8, .inl N_holds)), (an4, .inl (cy 0, 8, .inl N_gone)), (an5, .inl (cy 0, 8, .inl N_tells)), (ay0, .inr (4, [.ref ay1, .ref ay2, .ref ay3, .ref ay4, .ref ay5, .int Y_drowned, .int Y_count, .int Y_course, .int Y_told, .int Y_z])), (ay1, .inl (cy 0, 4, .inl Y_laws)), (ay2, .inl (cy 0, 8, .inl Y_kind)), (ay3, .inl (cy 0, 8, .inl Y_holds)), (ay4, .inl (cy 0, 8, .inl Y_gone)), (ay5, .inl (cy 0, 8, .inl Y_tells)), (aa0, .inr (5, [.ref aa1, .int A_length, .int A_place, .int A_after, .int A_sort, .int A_number])), (aa1, .inl (cy 1, 200, .inl A_bytes)), (aw0, .inr (0, [.ref aw1, .int W_count])), (aw1, .inl (cy 0, 30, .inl W_cells))] s.heap.size = A at hD hAB0 ⊢
  have hA : ∀ q : Nat, s.heap.size ≤ q → A q := fun q h => by rw [← hAe]; exact Or.inr h
  have hAB : ∀ q, A q → B ≤ q := hAB0
  have hS : va_S A s.heap s.heap [] := va_S.rf
  have hfin : ∀ (z0 : Int32) (N_laws : (Nat → Int32)) (N_kind : (Nat → Int32)) (N_holds : (Nat → Int32)) (N_gone : (Nat → Int32)) (N_tells : (Nat → Int32)) (N_drowned : Int32) (N_count : Int32) (N_course : Int32) (N_told : Int32) (N_z : Int32) (Y_laws : (Nat → Int32)) (Y_kind : (Nat → Int32)) (Y_holds : (Nat → Int32)) (Y_gone : (Nat → Int32)) (Y_tells : (Nat → Int32)) (Y_drowned : Int32) (Y_count : Int32) (Y_course : Int32) (Y_told : Int32) (Y_z : Int32) (A_bytes : (Nat → Int32)) (A_length : Int32) (A_place : Int32) (A_after : Int32) (A_sort : Int32) (A_number : Int32) (W_cells : (Nat → Int32)) (W_count : Int32), some (z0, (N_laws, N_kind, N_holds, N_gone, N_tells, N_drowned, N_count, N_course, N_told, N_z), (Y_laws, Y_kind, Y_holds, Y_gone, Y_tells, Y_drowned, Y_count, Y_course, Y_told, Y_z), (A_bytes, A_length, A_place, A_after, A_sort, A_number), (W_cells, W_count)) = some z → ∀ (H : Heap) (t : State), t.heap = H → va_P D vwCl [(ak, .inr (6, [.ref an0, .ref ay0, .ref ae0, .int uK, .ref aa0, .ref aw0, .ref as0, .ref af0, .ref ag0])), (an0, .inr (4, [.ref an1, .ref an2, .ref an3, .ref an4, .ref an5, .int N_drowned, .int N_count, .int N_course, .int N_told, .int N_z])), (an1, .inl (cy 0, 4, .inl N_laws)), (an2, .inl (cy 0, 8, .inl N_kind)), (an3, .inl (cy 0, 8, .inl N_holds)), (an4, .inl (cy 0, 8, .inl N_gone)), (an5, .inl (cy 0, 8, .inl N_tells)), (ay0, .inr (4, [.ref ay1, .ref ay2, .ref ay3, .ref ay4, .ref ay5, .int Y_drowned, .int Y_count, .int Y_course, .int Y_told, .int Y_z])), (ay1, .inl (cy 0, 4, .inl Y_laws)), (ay2, .inl (cy 0, 8, .inl Y_kind)), (ay3, .inl (cy 0, 8, .inl Y_holds)), (ay4, .inl (cy 0, 8, .inl Y_gone)), (ay5, .inl (cy 0, 8, .inl Y_tells)), (aa0, .inr (5, [.ref aa1, .int A_length, .int A_place, .int A_after, .int A_sort, .int A_number])), (aa1, .inl (cy 1, 200, .inl A_bytes)), (aw0, .inr (0, [.ref aw1, .int W_count])), (aw1, .inl (cy 0, 30, .inl W_cells))] H → va_F A s t → Qw (some (.int z.1)) D [(ak, .inr (6, [.ref an0, .ref ay0, .ref ae0, .int uK, .ref aa0, .ref aw0, .ref as0, .ref af0, .ref ag0])), (an0, .inr (4, [.ref an1, .ref an2, .ref an3, .ref an4, .ref an5, .int z.2.1.2.2.2.2.2.1, .int z.2.1.2.2.2.2.2.2.1, .int z.2.1.2.2.2.2.2.2.2.1, .int z.2.1.2.2.2.2.2.2.2.2.1, .int z.2.1.2.2.2.2.2.2.2.2.2])), (an1, .inl (cy 0, 4, .inl z.2.1.1)), (an2, .inl (cy 0, 8, .inl z.2.1.2.1)), (an3, .inl (cy 0, 8, .inl z.2.1.2.2.1)), (an4, .inl (cy 0, 8, .inl z.2.1.2.2.2.1)), (an5, .inl (cy 0, 8, .inl z.2.1.2.2.2.2.1)), (ay0, .inr (4, [.ref ay1, .ref ay2, .ref ay3, .ref ay4, .ref ay5, .int z.2.2.1.2.2.2.2.2.1, .int z.2.2.1.2.2.2.2.2.2.1, .int z.2.2.1.2.2.2.2.2.2.2.1, .int z.2.2.1.2.2.2.2.2.2.2.2.1, .int z.2.2.1.2.2.2.2.2.2.2.2.2])), (ay1, .inl (cy 0, 4, .inl z.2.2.1.1)), (ay2, .inl (cy 0, 8, .inl z.2.2.1.2.1)), (ay3, .inl (cy 0, 8, .inl z.2.2.1.2.2.1)), (ay4, .inl (cy 0, 8, .inl z.2.2.1.2.2.2.1)), (ay5, .inl (cy 0, 8, .inl z.2.2.1.2.2.2.2.1)), (aa0, .inr (5, [.ref aa1, .int z.2.2.2.1.2.1, .int z.2.2.2.1.2.2.1, .int z.2.2.2.1.2.2.2.1, .int z.2.2.2.1.2.2.2.2.1, .int z.2.2.2.1.2.2.2.2.2])), (aa1, .inl (cy 1, 200, .inl z.2.2.2.1.1)), (aw0, .inr (0, [.ref aw1, .int z.2.2.2.2.2])), (aw1, .inl (cy 0, 30, .inl z.2.2.2.2.1))] A ([.ref ak] : List Value).toArray s (.returned (some (.int z0))) t := by
    intro z0 N_laws N_kind N_holds N_gone N_tells N_drowned N_count N_course N_told N_z Y_laws Y_kind Y_holds Y_gone Y_tells Y_drowned Y_count Y_course Y_told Y_z A_bytes A_length A_place A_after A_sort A_number W_cells W_count h9 H t ht hP hF
    cases h9
    exact ⟨rfl, by rw [ht]; exact hP, hF⟩
  have hin0 : ∀ w ∈ u_ws RX0 TX0 2, w ∈ wsX6_feast := by decide +kernel
  have hin4 : ∀ w ∈ u_ws RX4 TX4 10, w ∈ wsX6_feast := by decide +kernel
  have hin5 : ∀ w ∈ u_ws RX5 TX5 6, w ∈ wsX6_feast := by decide +kernel
  have hin6 : ∀ w ∈ u_ws RX6 TX6 9, w ∈ wsX6_feast := by decide +kernel
  have fl10 := hts (.fieldLink RX6 10 "KinCutlery" "now" "LKinCutlery$Table;") (by decide +kernel)
  have fl16 := hts (.fieldLink RX6 16 "KinCutlery" "tried" "LKinCutlery$Table;") (by decide +kernel)
  have fl25 := hts (.fieldLink RX6 25 "KinCutlery" "tape" "LKinCutlery$Tape;") (by decide +kernel)
  have fl32 := hts (.fieldLink RX6 32 "KinCutlery" "rows" "LKinCutlery$Rows;") (by decide +kernel)
  have fl61 := hts (.fieldLink RX6 61 "KinCutlery$Tape" "length" "I") (by decide +kernel)
  have fl72 := hts (.fieldLink RX6 72 "KinCutlery$Table" "z" "I") (by decide +kernel)
  have fl79 := hts (.fieldLink RX6 79 "KinCutlery$Tape" "place" "I") (by decide +kernel)
  have fl86 := hts (.fieldLink RX6 86 "KinCutlery$Rows" "count" "I") (by decide +kernel)
  have fl89 := hts (.fieldLink RX6 89 "KinCutlery$Table" "count" "I") (by decide +kernel)
  have hl := lv_entry ([.ref ak]) (n := 3) (Nat.le_of_ble_eq_true rfl)
  rw [lg_entry_eq]
  generalize (lg_sl ([.ref ak]) ++ List.replicate (3 - (lg_sl ([.ref ak])).length) Slot.unset).toArray = ls at hl ⊢
  have hl : lv_has ls 3 [(0, .ref ak)] := hl
  have hf : ((fX4_clear n (Y_laws, Y_kind, Y_holds, Y_gone, Y_tells, Y_drowned, Y_count, Y_course, Y_told, Y_z)).bind fun r4 => (fX5_readInto n (r4.1, r4.2.1, r4.2.2.1, r4.2.2.2.1, r4.2.2.2.2.1, r4.2.2.2.2.2.1, r4.2.2.2.2.2.2.1, r4.2.2.2.2.2.2.2.1, r4.2.2.2.2.2.2.2.2.1, N_z) (A_bytes, A_length, A_place, A_after, A_sort, A_number)).bind fun r29 => if r29.1 = 0 then (some (((-100 : Int32) - r29.2.2.2.2.1), (N_laws, N_kind, N_holds, N_gone, N_tells, N_drowned, N_count, N_course, N_told, N_z), r29.2.1, (r29.2.2.1, (0 : Int32), r29.2.2.2.2.1, r29.2.2.2.2.2.1, r29.2.2.2.2.2.2.1, r29.2.2.2.2.2.2.2), (W_cells, W_count))) else ((fX4_copyFrom n (N_laws, N_kind, N_holds, N_gone, N_tells, N_drowned, N_count, N_course, N_told, N_z) r29.2.1).bind fun r66 => some (r66.2.2.2.2.2.2.1, r66, r29.2.1, (r29.2.2.1, (0 : Int32), r29.2.2.2.2.1, r29.2.2.2.2.2.1, r29.2.2.2.2.2.2.1, r29.2.2.2.2.2.2.2), (W_cells, (0 : Int32))))) = some z := hf
  refine lv_aload_n hx hb dX6_feast_0 rfl (lv_at hl 0 rfl) ?_
  refine va_get (D := D) (ci := 6) (v := .ref ay0) (C := RX6) (T := TX6) (N := 9) hx hb hts hin6 hown hK hP 0 rfl rfl 1 (by decide) fl16 (fun _ h9 => h9) rfl dX6_feast_1 ?_
  obtain ⟨r4, hc4, hf⟩ := zb hf
  refine zvw (o := none) (As := []) (rest := []) (stk := []) ⟨hx, hb, hml, hown, hts⟩ (mX4_clear l D cy st sk sv B ay0 ay1 ay2 ay3 ay4 ay5 _ n Y_laws Y_kind Y_holds Y_gone Y_tells Y_drowned Y_count Y_course Y_told Y_z r4 hc4) (cwV 0 hts gX6_feast_X4_clear rfl rfl rfl (by decide +kernel) ⟨Nat.le_of_ble_eq_true rfl, Nat.le_of_ble_eq_true rfl⟩) hG hS hAB hA hP hD [7, 8, 9, 10, 11, 12] (by decide) rfl rfl rfl rfl 0 4 rfl rfl rfl rfl hl.1 rfl (Nat.le_of_ble_eq_true rfl) dX6_feast_4 rfl (fun H locs hP hD hS => ?_)
  have hP : va_P D vwCl [(ak, .inr (6, [.ref an0, .ref ay0, .ref ae0, .int uK, .ref aa0, .ref aw0, .ref as0, .ref af0, .ref ag0])), (an0, .inr (4, [.ref an1, .ref an2, .ref an3, .ref an4, .ref an5, .int N_drowned, .int N_count, .int N_course, .int N_told, .int N_z])), (an1, .inl (cy 0, 4, .inl N_laws)), (an2, .inl (cy 0, 8, .inl N_kind)), (an3, .inl (cy 0, 8, .inl N_holds)), (an4, .inl (cy 0, 8, .inl N_gone)), (an5, .inl (cy 0, 8, .inl N_tells)), (ay0, .inr (4, [.ref ay1, .ref ay2, .ref ay3, .ref ay4, .ref ay5, .int r4.2.2.2.2.2.1, .int r4.2.2.2.2.2.2.1, .int r4.2.2.2.2.2.2.2.1, .int r4.2.2.2.2.2.2.2.2.1, .int r4.2.2.2.2.2.2.2.2.2])), (ay1, .inl (cy 0, 4, .inl r4.1)), (ay2, .inl (cy 0, 8, .inl r4.2.1)), (ay3, .inl (cy 0, 8, .inl r4.2.2.1)), (ay4, .inl (cy 0, 8, .inl r4.2.2.2.1)), (ay5, .inl (cy 0, 8, .inl r4.2.2.2.2.1)), (aa0, .inr (5, [.ref aa1, .int A_length, .int A_place, .int A_after, .int A_sort, .int A_number])), (aa1, .inl (cy 1, 200, .inl A_bytes)), (aw0, .inr (0, [.ref aw1, .int W_count])), (aw1, .inl (cy 0, 30, .inl W_cells))] H := hP
  have hD : va_D A [(ak, .inr (6, [.ref an0, .ref ay0, .ref ae0, .int uK, .ref aa0, .ref aw0, .ref as0, .ref af0, .ref ag0])), (an0, .inr (4, [.ref an1, .ref an2, .ref an3, .ref an4, .ref an5, .int N_drowned, .int N_count, .int N_course, .int N_told, .int N_z])), (an1, .inl (cy 0, 4, .inl N_laws)), (an2, .inl (cy 0, 8, .inl N_kind)), (an3, .inl (cy 0, 8, .inl N_holds)), (an4, .inl (cy 0, 8, .inl N_gone)), (an5, .inl (cy 0, 8, .inl N_tells)), (ay0, .inr (4, [.ref ay1, .ref ay2, .ref ay3, .ref ay4, .ref ay5, .int r4.2.2.2.2.2.1, .int r4.2.2.2.2.2.2.1, .int r4.2.2.2.2.2.2.2.1, .int r4.2.2.2.2.2.2.2.2.1, .int r4.2.2.2.2.2.2.2.2.2])), (ay1, .inl (cy 0, 4, .inl r4.1)), (ay2, .inl (cy 0, 8, .inl r4.2.1)), (ay3, .inl (cy 0, 8, .inl r4.2.2.1)), (ay4, .inl (cy 0, 8, .inl r4.2.2.2.1)), (ay5, .inl (cy 0, 8, .inl r4.2.2.2.2.1)), (aa0, .inr (5, [.ref aa1, .int A_length, .int A_place, .int A_after, .int A_sort, .int A_number])), (aa1, .inl (cy 1, 200, .inl A_bytes)), (aw0, .inr (0, [.ref aw1, .int W_count])), (aw1, .inl (cy 0, 30, .inl W_cells))] := hD
  refine lv_aload_n hx hb dX6_feast_7 rfl (lv_at hl 0 rfl) ?_
  refine va_get (D := D) (ci := 6) (v := .ref ay0) (C := RX6) (T := TX6) (N := 9) hx hb hts hin6 hown hK hP 0 rfl rfl 1 (by decide) fl16 (fun _ h9 => h9) rfl dX6_feast_8 ?_
  refine lv_aload_n hx hb dX6_feast_11 rfl (lv_at hl 0 rfl) ?_
  refine va_get (D := D) (ci := 6) (v := .ref an0) (C := RX6) (T := TX6) (N := 9) hx hb hts hin6 hown hK hP 0 rfl rfl 0 (by decide) fl10 (fun _ h9 => h9) rfl dX6_feast_12 ?_
  refine va_get (D := D) (ci := 4) (v := .int N_z) (C := RX4) (T := TX4) (N := 10) hx hb hts hin4 hown hK hP 1 rfl rfl 9 (by decide) fl72 (fun _ h9 => h9) rfl dX6_feast_15 ?_
  refine va_put (D := D) (ci := 4) (v := .int N_z) (ty := .int) (C := RX4) (T := TX4) (N := 10) hx hb hts hin4 tyX4 tyX4_ok nmX4 hown hK hP hD hS 7 rfl rfl 9 (by decide) fl72 (fun _ h9 => h9) rfl (by decide +kernel) rfl rfl (Nat.le_of_ble_eq_true rfl) dX6_feast_18 (fun H locs hP hD hS => ?_)
  have hP : va_P D vwCl [(ak, .inr (6, [.ref an0, .ref ay0, .ref ae0, .int uK, .ref aa0, .ref aw0, .ref as0, .ref af0, .ref ag0])), (an0, .inr (4, [.ref an1, .ref an2, .ref an3, .ref an4, .ref an5, .int N_drowned, .int N_count, .int N_course, .int N_told, .int N_z])), (an1, .inl (cy 0, 4, .inl N_laws)), (an2, .inl (cy 0, 8, .inl N_kind)), (an3, .inl (cy 0, 8, .inl N_holds)), (an4, .inl (cy 0, 8, .inl N_gone)), (an5, .inl (cy 0, 8, .inl N_tells)), (ay0, .inr (4, [.ref ay1, .ref ay2, .ref ay3, .ref ay4, .ref ay5, .int r4.2.2.2.2.2.1, .int r4.2.2.2.2.2.2.1, .int r4.2.2.2.2.2.2.2.1, .int r4.2.2.2.2.2.2.2.2.1, .int N_z])), (ay1, .inl (cy 0, 4, .inl r4.1)), (ay2, .inl (cy 0, 8, .inl r4.2.1)), (ay3, .inl (cy 0, 8, .inl r4.2.2.1)), (ay4, .inl (cy 0, 8, .inl r4.2.2.2.1)), (ay5, .inl (cy 0, 8, .inl r4.2.2.2.2.1)), (aa0, .inr (5, [.ref aa1, .int A_length, .int A_place, .int A_after, .int A_sort, .int A_number])), (aa1, .inl (cy 1, 200, .inl A_bytes)), (aw0, .inr (0, [.ref aw1, .int W_count])), (aw1, .inl (cy 0, 30, .inl W_cells))] H := hP
  have hD : va_D A [(ak, .inr (6, [.ref an0, .ref ay0, .ref ae0, .int uK, .ref aa0, .ref aw0, .ref as0, .ref af0, .ref ag0])), (an0, .inr (4, [.ref an1, .ref an2, .ref an3, .ref an4, .ref an5, .int N_drowned, .int N_count, .int N_course, .int N_told, .int N_z])), (an1, .inl (cy 0, 4, .inl N_laws)), (an2, .inl (cy 0, 8, .inl N_kind)), (an3, .inl (cy 0, 8, .inl N_holds)), (an4, .inl (cy 0, 8, .inl N_gone)), (an5, .inl (cy 0, 8, .inl N_tells)), (ay0, .inr (4, [.ref ay1, .ref ay2, .ref ay3, .ref ay4, .ref ay5, .int r4.2.2.2.2.2.1, .int r4.2.2.2.2.2.2.1, .int r4.2.2.2.2.2.2.2.1, .int r4.2.2.2.2.2.2.2.2.1, .int N_z])), (ay1, .inl (cy 0, 4, .inl r4.1)), (ay2, .inl (cy 0, 8, .inl r4.2.1)), (ay3, .inl (cy 0, 8, .inl r4.2.2.1)), (ay4, .inl (cy 0, 8, .inl r4.2.2.2.1)), (ay5, .inl (cy 0, 8, .inl r4.2.2.2.2.1)), (aa0, .inr (5, [.ref aa1, .int A_length, .int A_place, .int A_after, .int A_sort, .int A_number])), (aa1, .inl (cy 1, 200, .inl A_bytes)), (aw0, .inr (0, [.ref aw1, .int W_count])), (aw1, .inl (cy 0, 30, .inl W_cells))] := hD
  refine lv_aload_n hx hb dX6_feast_21 rfl (lv_at hl 0 rfl) ?_
  refine va_get (D := D) (ci := 6) (v := .ref aa0) (C := RX6) (T := TX6) (N := 9) hx hb hts hin6 hown hK hP 0 rfl rfl 4 (by decide) fl25 (fun _ h9 => h9) rfl dX6_feast_22 ?_
  refine lv_aload_n hx hb dX6_feast_25 rfl (lv_at hl 0 rfl) ?_
  refine va_get (D := D) (ci := 6) (v := .ref ay0) (C := RX6) (T := TX6) (N := 9) hx hb hts hin6 hown hK hP 0 rfl rfl 1 (by decide) fl16 (fun _ h9 => h9) rfl dX6_feast_26 ?_
  obtain ⟨r29, hc29, hf⟩ := zb hf
  refine zvw (o := some (.int r29.1)) (As := [.ref ay0]) (rest := []) (stk := [.int r29.1]) ⟨hx, hb, hml, hown, hts⟩ (mX5_readInto l D cy st sk sv B ay0 ay1 ay2 ay3 ay4 ay5 aa0 aa1 _ n r4.1 r4.2.1 r4.2.2.1 r4.2.2.2.1 r4.2.2.2.2.1 r4.2.2.2.2.2.1 r4.2.2.2.2.2.2.1 r4.2.2.2.2.2.2.2.1 r4.2.2.2.2.2.2.2.2.1 N_z A_bytes A_length A_place A_after A_sort A_number r29 hc29) (cwV 1 hts gX6_feast_X5_readInto rfl rfl rfl (by decide +kernel) ⟨Nat.le_of_ble_eq_true rfl, Nat.le_of_ble_eq_true rfl⟩) hG hS hAB hA hP hD [7, 8, 9, 10, 11, 12, 13, 14] (by decide) rfl rfl rfl rfl 6 5 rfl rfl rfl rfl hl.1 rfl (Nat.le_of_ble_eq_true rfl) dX6_feast_29 rfl (fun H locs hP hD hS => ?_)
  have hP : va_P D vwCl [(ak, .inr (6, [.ref an0, .ref ay0, .ref ae0, .int uK, .ref aa0, .ref aw0, .ref as0, .ref af0, .ref ag0])), (an0, .inr (4, [.ref an1, .ref an2, .ref an3, .ref an4, .ref an5, .int N_drowned, .int N_count, .int N_course, .int N_told, .int N_z])), (an1, .inl (cy 0, 4, .inl N_laws)), (an2, .inl (cy 0, 8, .inl N_kind)), (an3, .inl (cy 0, 8, .inl N_holds)), (an4, .inl (cy 0, 8, .inl N_gone)), (an5, .inl (cy 0, 8, .inl N_tells)), (ay0, .inr (4, [.ref ay1, .ref ay2, .ref ay3, .ref ay4, .ref ay5, .int r29.2.1.2.2.2.2.2.1, .int r29.2.1.2.2.2.2.2.2.1, .int r29.2.1.2.2.2.2.2.2.2.1, .int r29.2.1.2.2.2.2.2.2.2.2.1, .int r29.2.1.2.2.2.2.2.2.2.2.2])), (ay1, .inl (cy 0, 4, .inl r29.2.1.1)), (ay2, .inl (cy 0, 8, .inl r29.2.1.2.1)), (ay3, .inl (cy 0, 8, .inl r29.2.1.2.2.1)), (ay4, .inl (cy 0, 8, .inl r29.2.1.2.2.2.1)), (ay5, .inl (cy 0, 8, .inl r29.2.1.2.2.2.2.1)), (aa0, .inr (5, [.ref aa1, .int r29.2.2.2.1, .int r29.2.2.2.2.1, .int r29.2.2.2.2.2.1, .int r29.2.2.2.2.2.2.1, .int r29.2.2.2.2.2.2.2])), (aa1, .inl (cy 1, 200, .inl r29.2.2.1)), (aw0, .inr (0, [.ref aw1, .int W_count])), (aw1, .inl (cy 0, 30, .inl W_cells))] H := hP
  have hD : va_D A [(ak, .inr (6, [.ref an0, .ref ay0, .ref ae0, .int uK, .ref aa0, .ref aw0, .ref as0, .ref af0, .ref ag0])), (an0, .inr (4, [.ref an1, .ref an2, .ref an3, .ref an4, .ref an5, .int N_drowned, .int N_count, .int N_course, .int N_told, .int N_z])), (an1, .inl (cy 0, 4, .inl N_laws)), (an2, .inl (cy 0, 8, .inl N_kind)), (an3, .inl (cy 0, 8, .inl N_holds)), (an4, .inl (cy 0, 8, .inl N_gone)), (an5, .inl (cy 0, 8, .inl N_tells)), (ay0, .inr (4, [.ref ay1, .ref ay2, .ref ay3, .ref ay4, .ref ay5, .int r29.2.1.2.2.2.2.2.1, .int r29.2.1.2.2.2.2.2.2.1, .int r29.2.1.2.2.2.2.2.2.2.1, .int r29.2.1.2.2.2.2.2.2.2.2.1, .int r29.2.1.2.2.2.2.2.2.2.2.2])), (ay1, .inl (cy 0, 4, .inl r29.2.1.1)), (ay2, .inl (cy 0, 8, .inl r29.2.1.2.1)), (ay3, .inl (cy 0, 8, .inl r29.2.1.2.2.1)), (ay4, .inl (cy 0, 8, .inl r29.2.1.2.2.2.1)), (ay5, .inl (cy 0, 8, .inl r29.2.1.2.2.2.2.1)), (aa0, .inr (5, [.ref aa1, .int r29.2.2.2.1, .int r29.2.2.2.2.1, .int r29.2.2.2.2.2.1, .int r29.2.2.2.2.2.2.1, .int r29.2.2.2.2.2.2.2])), (aa1, .inl (cy 1, 200, .inl r29.2.2.1)), (aw0, .inr (0, [.ref aw1, .int W_count])), (aw1, .inl (cy 0, 30, .inl W_cells))] := hD
  refine lv_istore_n (lv' := [(1, .int r29.1), (0, .ref ak)]) hx hb dX6_feast_32 rfl hl (by decide) rfl (fun ls hl => ?_)
  refine lv_aload_n hx hb dX6_feast_33 rfl (lv_at hl 1 rfl) ?_
  refine va_get (D := D) (ci := 6) (v := .ref aa0) (C := RX6) (T := TX6) (N := 9) hx hb hts hin6 hown hK hP 0 rfl rfl 4 (by decide) fl25 (fun _ h9 => h9) rfl dX6_feast_34 ?_
  refine va_get (D := D) (ci := 5) (v := .int r29.2.2.2.2.1) (C := RX5) (T := TX5) (N := 6) hx hb hts hin5 hown hK hP 13 rfl rfl 2 (by decide) fl79 (fun _ h9 => h9) rfl dX6_feast_37 ?_
  refine lv_istore_n (lv' := [(2, .int r29.2.2.2.2.1), (1, .int r29.1), (0, .ref ak)]) hx hb dX6_feast_40 rfl hl (by decide) rfl (fun ls hl => ?_)
  refine lv_aload_n hx hb dX6_feast_41 rfl (lv_at hl 2 rfl) ?_
  refine va_get (D := D) (ci := 6) (v := .ref aa0) (C := RX6) (T := TX6) (N := 9) hx hb hts hin6 hown hK hP 0 rfl rfl 4 (by decide) fl25 (fun _ h9 => h9) rfl dX6_feast_42 ?_
  refine lv_iconst (v := (0 : Int32)) hx hb dX6_feast_45 (by decide) ?_
  refine va_put (D := D) (ci := 5) (v := .int (0 : Int32)) (ty := .int) (C := RX5) (T := TX5) (N := 6) hx hb hts hin5 tyX5 tyX5_ok nmX5 hown hK hP hD hS 13 rfl rfl 1 (by decide) fl61 (fun _ h9 => h9) rfl (by decide +kernel) rfl rfl (Nat.le_of_ble_eq_true rfl) dX6_feast_46 (fun H locs hP hD hS => ?_)
  have hP : va_P D vwCl [(ak, .inr (6, [.ref an0, .ref ay0, .ref ae0, .int uK, .ref aa0, .ref aw0, .ref as0, .ref af0, .ref ag0])), (an0, .inr (4, [.ref an1, .ref an2, .ref an3, .ref an4, .ref an5, .int N_drowned, .int N_count, .int N_course, .int N_told, .int N_z])), (an1, .inl (cy 0, 4, .inl N_laws)), (an2, .inl (cy 0, 8, .inl N_kind)), (an3, .inl (cy 0, 8, .inl N_holds)), (an4, .inl (cy 0, 8, .inl N_gone)), (an5, .inl (cy 0, 8, .inl N_tells)), (ay0, .inr (4, [.ref ay1, .ref ay2, .ref ay3, .ref ay4, .ref ay5, .int r29.2.1.2.2.2.2.2.1, .int r29.2.1.2.2.2.2.2.2.1, .int r29.2.1.2.2.2.2.2.2.2.1, .int r29.2.1.2.2.2.2.2.2.2.2.1, .int r29.2.1.2.2.2.2.2.2.2.2.2])), (ay1, .inl (cy 0, 4, .inl r29.2.1.1)), (ay2, .inl (cy 0, 8, .inl r29.2.1.2.1)), (ay3, .inl (cy 0, 8, .inl r29.2.1.2.2.1)), (ay4, .inl (cy 0, 8, .inl r29.2.1.2.2.2.1)), (ay5, .inl (cy 0, 8, .inl r29.2.1.2.2.2.2.1)), (aa0, .inr (5, [.ref aa1, .int (0 : Int32), .int r29.2.2.2.2.1, .int r29.2.2.2.2.2.1, .int r29.2.2.2.2.2.2.1, .int r29.2.2.2.2.2.2.2])), (aa1, .inl (cy 1, 200, .inl r29.2.2.1)), (aw0, .inr (0, [.ref aw1, .int W_count])), (aw1, .inl (cy 0, 30, .inl W_cells))] H := hP
  have hD : va_D A [(ak, .inr (6, [.ref an0, .ref ay0, .ref ae0, .int uK, .ref aa0, .ref aw0, .ref as0, .ref af0, .ref ag0])), (an0, .inr (4, [.ref an1, .ref an2, .ref an3, .ref an4, .ref an5, .int N_drowned, .int N_count, .int N_course, .int N_told, .int N_z])), (an1, .inl (cy 0, 4, .inl N_laws)), (an2, .inl (cy 0, 8, .inl N_kind)), (an3, .inl (cy 0, 8, .inl N_holds)), (an4, .inl (cy 0, 8, .inl N_gone)), (an5, .inl (cy 0, 8, .inl N_tells)), (ay0, .inr (4, [.ref ay1, .ref ay2, .ref ay3, .ref ay4, .ref ay5, .int r29.2.1.2.2.2.2.2.1, .int r29.2.1.2.2.2.2.2.2.1, .int r29.2.1.2.2.2.2.2.2.2.1, .int r29.2.1.2.2.2.2.2.2.2.2.1, .int r29.2.1.2.2.2.2.2.2.2.2.2])), (ay1, .inl (cy 0, 4, .inl r29.2.1.1)), (ay2, .inl (cy 0, 8, .inl r29.2.1.2.1)), (ay3, .inl (cy 0, 8, .inl r29.2.1.2.2.1)), (ay4, .inl (cy 0, 8, .inl r29.2.1.2.2.2.1)), (ay5, .inl (cy 0, 8, .inl r29.2.1.2.2.2.2.1)), (aa0, .inr (5, [.ref aa1, .int (0 : Int32), .int r29.2.2.2.2.1, .int r29.2.2.2.2.2.1, .int r29.2.2.2.2.2.2.1, .int r29.2.2.2.2.2.2.2])), (aa1, .inl (cy 1, 200, .inl r29.2.2.1)), (aw0, .inr (0, [.ref aw1, .int W_count])), (aw1, .inl (cy 0, 30, .inl W_cells))] := hD
  refine lv_iload_n hx hb dX6_feast_49 rfl (lv_at hl 1 rfl) ?_
  refine lv_if_ne (tgt := 58) hx hb dX6_feast_50 (by decide) (fun c_50 => ?_) (fun c_50 => ?_)
  · have hf := zn hf c_50
    refine lv_aload_n hx hb dX6_feast_58 rfl (lv_at hl 2 rfl) ?_
    refine va_get (D := D) (ci := 6) (v := .ref an0) (C := RX6) (T := TX6) (N := 9) hx hb hts hin6 hown hK hP 0 rfl rfl 0 (by decide) fl10 (fun _ h9 => h9) rfl dX6_feast_59 ?_
    refine lv_aload_n hx hb dX6_feast_62 rfl (lv_at hl 2 rfl) ?_
    refine va_get (D := D) (ci := 6) (v := .ref ay0) (C := RX6) (T := TX6) (N := 9) hx hb hts hin6 hown hK hP 0 rfl rfl 1 (by decide) fl16 (fun _ h9 => h9) rfl dX6_feast_63 ?_
    obtain ⟨r66, hc66, hf⟩ := zb hf
    refine zvw (o := none) (As := [.ref ay0]) (rest := []) (stk := []) ⟨hx, hb, hml, hown, hts⟩ (mX4_copyFrom l D cy st sk sv B an0 an1 an2 an3 an4 an5 ay0 ay1 ay2 ay3 ay4 ay5 _ n N_laws N_kind N_holds N_gone N_tells N_drowned N_count N_course N_told N_z r29.2.1.1 r29.2.1.2.1 r29.2.1.2.2.1 r29.2.1.2.2.2.1 r29.2.1.2.2.2.2.1 r29.2.1.2.2.2.2.2.1 r29.2.1.2.2.2.2.2.2.1 r29.2.1.2.2.2.2.2.2.2.1 r29.2.1.2.2.2.2.2.2.2.2.1 r29.2.1.2.2.2.2.2.2.2.2.2 r66 hc66) (cwV 1 hts gX6_feast_X4_copyFrom rfl rfl rfl (by decide +kernel) ⟨Nat.le_of_ble_eq_true rfl, Nat.le_of_ble_eq_true rfl⟩) hG hS hAB hA hP hD [1, 2, 3, 4, 5, 6, 7, 8, 9, 10, 11, 12] (by decide) rfl rfl rfl rfl 0 4 rfl rfl rfl rfl hl.1 rfl (Nat.le_of_ble_eq_true rfl) dX6_feast_66 rfl (fun H locs hP hD hS => ?_)
    have hP : va_P D vwCl [(ak, .inr (6, [.ref an0, .ref ay0, .ref ae0, .int uK, .ref aa0, .ref aw0, .ref as0, .ref af0, .ref ag0])), (an0, .inr (4, [.ref an1, .ref an2, .ref an3, .ref an4, .ref an5, .int r66.2.2.2.2.2.1, .int r66.2.2.2.2.2.2.1, .int r66.2.2.2.2.2.2.2.1, .int r66.2.2.2.2.2.2.2.2.1, .int r66.2.2.2.2.2.2.2.2.2])), (an1, .inl (cy 0, 4, .inl r66.1)), (an2, .inl (cy 0, 8, .inl r66.2.1)), (an3, .inl (cy 0, 8, .inl r66.2.2.1)), (an4, .inl (cy 0, 8, .inl r66.2.2.2.1)), (an5, .inl (cy 0, 8, .inl r66.2.2.2.2.1)), (ay0, .inr (4, [.ref ay1, .ref ay2, .ref ay3, .ref ay4, .ref ay5, .int r29.2.1.2.2.2.2.2.1, .int r29.2.1.2.2.2.2.2.2.1, .int r29.2.1.2.2.2.2.2.2.2.1, .int r29.2.1.2.2.2.2.2.2.2.2.1, .int r29.2.1.2.2.2.2.2.2.2.2.2])), (ay1, .inl (cy 0, 4, .inl r29.2.1.1)), (ay2, .inl (cy 0, 8, .inl r29.2.1.2.1)), (ay3, .inl (cy 0, 8, .inl r29.2.1.2.2.1)), (ay4, .inl (cy 0, 8, .inl r29.2.1.2.2.2.1)), (ay5, .inl (cy 0, 8, .inl r29.2.1.2.2.2.2.1)), (aa0, .inr (5, [.ref aa1, .int (0 : Int32), .int r29.2.2.2.2.1, .int r29.2.2.2.2.2.1, .int r29.2.2.2.2.2.2.1, .int r29.2.2.2.2.2.2.2])), (aa1, .inl (cy 1, 200, .inl r29.2.2.1)), (aw0, .inr (0, [.ref aw1, .int W_count])), (aw1, .inl (cy 0, 30, .inl W_cells))] H := hP
    have hD : va_D A [(ak, .inr (6, [.ref an0, .ref ay0, .ref ae0, .int uK, .ref aa0, .ref aw0, .ref as0, .ref af0, .ref ag0])), (an0, .inr (4, [.ref an1, .ref an2, .ref an3, .ref an4, .ref an5, .int r66.2.2.2.2.2.1, .int r66.2.2.2.2.2.2.1, .int r66.2.2.2.2.2.2.2.1, .int r66.2.2.2.2.2.2.2.2.1, .int r66.2.2.2.2.2.2.2.2.2])), (an1, .inl (cy 0, 4, .inl r66.1)), (an2, .inl (cy 0, 8, .inl r66.2.1)), (an3, .inl (cy 0, 8, .inl r66.2.2.1)), (an4, .inl (cy 0, 8, .inl r66.2.2.2.1)), (an5, .inl (cy 0, 8, .inl r66.2.2.2.2.1)), (ay0, .inr (4, [.ref ay1, .ref ay2, .ref ay3, .ref ay4, .ref ay5, .int r29.2.1.2.2.2.2.2.1, .int r29.2.1.2.2.2.2.2.2.1, .int r29.2.1.2.2.2.2.2.2.2.1, .int r29.2.1.2.2.2.2.2.2.2.2.1, .int r29.2.1.2.2.2.2.2.2.2.2.2])), (ay1, .inl (cy 0, 4, .inl r29.2.1.1)), (ay2, .inl (cy 0, 8, .inl r29.2.1.2.1)), (ay3, .inl (cy 0, 8, .inl r29.2.1.2.2.1)), (ay4, .inl (cy 0, 8, .inl r29.2.1.2.2.2.1)), (ay5, .inl (cy 0, 8, .inl r29.2.1.2.2.2.2.1)), (aa0, .inr (5, [.ref aa1, .int (0 : Int32), .int r29.2.2.2.2.1, .int r29.2.2.2.2.2.1, .int r29.2.2.2.2.2.2.1, .int r29.2.2.2.2.2.2.2])), (aa1, .inl (cy 1, 200, .inl r29.2.2.1)), (aw0, .inr (0, [.ref aw1, .int W_count])), (aw1, .inl (cy 0, 30, .inl W_cells))] := hD
    refine lv_aload_n hx hb dX6_feast_69 rfl (lv_at hl 2 rfl) ?_
    refine va_get (D := D) (ci := 6) (v := .ref aw0) (C := RX6) (T := TX6) (N := 9) hx hb hts hin6 hown hK hP 0 rfl rfl 5 (by decide) fl32 (fun _ h9 => h9) rfl dX6_feast_70 ?_
    refine lv_iconst (v := (0 : Int32)) hx hb dX6_feast_73 (by decide) ?_
    refine va_put (D := D) (ci := 0) (v := .int (0 : Int32)) (ty := .int) (C := RX0) (T := TX0) (N := 2) hx hb hts hin0 tyX0 tyX0_ok nmX0 hown hK hP hD hS 15 rfl rfl 1 (by decide) fl86 (fun _ h9 => h9) rfl (by decide +kernel) rfl rfl (Nat.le_of_ble_eq_true rfl) dX6_feast_74 (fun H locs hP hD hS => ?_)
    have hP : va_P D vwCl [(ak, .inr (6, [.ref an0, .ref ay0, .ref ae0, .int uK, .ref aa0, .ref aw0, .ref as0, .ref af0, .ref ag0])), (an0, .inr (4, [.ref an1, .ref an2, .ref an3, .ref an4, .ref an5, .int r66.2.2.2.2.2.1, .int r66.2.2.2.2.2.2.1, .int r66.2.2.2.2.2.2.2.1, .int r66.2.2.2.2.2.2.2.2.1, .int r66.2.2.2.2.2.2.2.2.2])), (an1, .inl (cy 0, 4, .inl r66.1)), (an2, .inl (cy 0, 8, .inl r66.2.1)), (an3, .inl (cy 0, 8, .inl r66.2.2.1)), (an4, .inl (cy 0, 8, .inl r66.2.2.2.1)), (an5, .inl (cy 0, 8, .inl r66.2.2.2.2.1)), (ay0, .inr (4, [.ref ay1, .ref ay2, .ref ay3, .ref ay4, .ref ay5, .int r29.2.1.2.2.2.2.2.1, .int r29.2.1.2.2.2.2.2.2.1, .int r29.2.1.2.2.2.2.2.2.2.1, .int r29.2.1.2.2.2.2.2.2.2.2.1, .int r29.2.1.2.2.2.2.2.2.2.2.2])), (ay1, .inl (cy 0, 4, .inl r29.2.1.1)), (ay2, .inl (cy 0, 8, .inl r29.2.1.2.1)), (ay3, .inl (cy 0, 8, .inl r29.2.1.2.2.1)), (ay4, .inl (cy 0, 8, .inl r29.2.1.2.2.2.1)), (ay5, .inl (cy 0, 8, .inl r29.2.1.2.2.2.2.1)), (aa0, .inr (5, [.ref aa1, .int (0 : Int32), .int r29.2.2.2.2.1, .int r29.2.2.2.2.2.1, .int r29.2.2.2.2.2.2.1, .int r29.2.2.2.2.2.2.2])), (aa1, .inl (cy 1, 200, .inl r29.2.2.1)), (aw0, .inr (0, [.ref aw1, .int (0 : Int32)])), (aw1, .inl (cy 0, 30, .inl W_cells))] H := hP
    have hD : va_D A [(ak, .inr (6, [.ref an0, .ref ay0, .ref ae0, .int uK, .ref aa0, .ref aw0, .ref as0, .ref af0, .ref ag0])), (an0, .inr (4, [.ref an1, .ref an2, .ref an3, .ref an4, .ref an5, .int r66.2.2.2.2.2.1, .int r66.2.2.2.2.2.2.1, .int r66.2.2.2.2.2.2.2.1, .int r66.2.2.2.2.2.2.2.2.1, .int r66.2.2.2.2.2.2.2.2.2])), (an1, .inl (cy 0, 4, .inl r66.1)), (an2, .inl (cy 0, 8, .inl r66.2.1)), (an3, .inl (cy 0, 8, .inl r66.2.2.1)), (an4, .inl (cy 0, 8, .inl r66.2.2.2.1)), (an5, .inl (cy 0, 8, .inl r66.2.2.2.2.1)), (ay0, .inr (4, [.ref ay1, .ref ay2, .ref ay3, .ref ay4, .ref ay5, .int r29.2.1.2.2.2.2.2.1, .int r29.2.1.2.2.2.2.2.2.1, .int r29.2.1.2.2.2.2.2.2.2.1, .int r29.2.1.2.2.2.2.2.2.2.2.1, .int r29.2.1.2.2.2.2.2.2.2.2.2])), (ay1, .inl (cy 0, 4, .inl r29.2.1.1)), (ay2, .inl (cy 0, 8, .inl r29.2.1.2.1)), (ay3, .inl (cy 0, 8, .inl r29.2.1.2.2.1)), (ay4, .inl (cy 0, 8, .inl r29.2.1.2.2.2.1)), (ay5, .inl (cy 0, 8, .inl r29.2.1.2.2.2.2.1)), (aa0, .inr (5, [.ref aa1, .int (0 : Int32), .int r29.2.2.2.2.1, .int r29.2.2.2.2.2.1, .int r29.2.2.2.2.2.2.1, .int r29.2.2.2.2.2.2.2])), (aa1, .inl (cy 1, 200, .inl r29.2.2.1)), (aw0, .inr (0, [.ref aw1, .int (0 : Int32)])), (aw1, .inl (cy 0, 30, .inl W_cells))] := hD
    refine lv_aload_n hx hb dX6_feast_77 rfl (lv_at hl 2 rfl) ?_
    refine va_get (D := D) (ci := 6) (v := .ref an0) (C := RX6) (T := TX6) (N := 9) hx hb hts hin6 hown hK hP 0 rfl rfl 0 (by decide) fl10 (fun _ h9 => h9) rfl dX6_feast_78 ?_
    refine va_get (D := D) (ci := 4) (v := .int r66.2.2.2.2.2.2.1) (C := RX4) (T := TX4) (N := 10) hx hb hts hin4 hown hK hP 1 rfl rfl 6 (by decide) fl89 (fun _ h9 => h9) rfl dX6_feast_81 ?_
    exact W.iret hx hb hr (fun t ht hW => hfin r66.2.2.2.2.2.2.1 r66.1 r66.2.1 r66.2.2.1 r66.2.2.2.1 r66.2.2.2.2.1 r66.2.2.2.2.2.1 r66.2.2.2.2.2.2.1 r66.2.2.2.2.2.2.2.1 r66.2.2.2.2.2.2.2.2.1 r66.2.2.2.2.2.2.2.2.2 r29.2.1.1 r29.2.1.2.1 r29.2.1.2.2.1 r29.2.1.2.2.2.1 r29.2.1.2.2.2.2.1 r29.2.1.2.2.2.2.2.1 r29.2.1.2.2.2.2.2.2.1 r29.2.1.2.2.2.2.2.2.2.1 r29.2.1.2.2.2.2.2.2.2.2.1 r29.2.1.2.2.2.2.2.2.2.2.2 r29.2.2.1 (0 : Int32) r29.2.2.2.2.1 r29.2.2.2.2.2.1 r29.2.2.2.2.2.2.1 r29.2.2.2.2.2.2.2 W_cells (0 : Int32) hf _ t ht hP (hS.F ht)) hS.2.2 dX6_feast_84
  · have hf := zp hf c_50
    refine lv_bipush (v := (-100 : Int32)) hx hb dX6_feast_53 (by decide) ?_
    refine lv_iload_n hx hb dX6_feast_55 rfl (lv_at hl 0 rfl) ?_
    refine lv_isub hx hb dX6_feast_56 ?_
    exact W.iret hx hb hr (fun t ht hW => hfin ((-100 : Int32) - r29.2.2.2.2.1) N_laws N_kind N_holds N_gone N_tells N_drowned N_count N_course N_told N_z r29.2.1.1 r29.2.1.2.1 r29.2.1.2.2.1 r29.2.1.2.2.2.1 r29.2.1.2.2.2.2.1 r29.2.1.2.2.2.2.2.1 r29.2.1.2.2.2.2.2.2.1 r29.2.1.2.2.2.2.2.2.2.1 r29.2.1.2.2.2.2.2.2.2.2.1 r29.2.1.2.2.2.2.2.2.2.2.2 r29.2.2.1 (0 : Int32) r29.2.2.2.2.1 r29.2.2.2.2.2.1 r29.2.2.2.2.2.2.1 r29.2.2.2.2.2.2.2 W_cells W_count hf _ t ht hP (hS.F ht)) hS.2.2 dX6_feast_57
set_option maxRecDepth 100000 in
set_option maxHeartbeats 100000000 in
theorem mX6_set (l : Launch) (D : va_G) (cy : Nat → ClassId) (st sk sv : Nat → Nat) (B : Nat) (ak : Nat) (an0 : Nat) (ay0 : Nat) (ae0 : Nat) (aa0 : Nat) (aw0 : Nat) (as0 : Nat) (af0 : Nat) (ag0 : Nat) (an1 : Nat) (an2 : Nat) (an3 : Nat) (an4 : Nat) (an5 : Nat) (sz : Nat) (n : Nat) (uK : Int32) (N_laws : (Nat → Int32)) (N_kind : (Nat → Int32)) (N_holds : (Nat → Int32)) (N_gone : (Nat → Int32)) (N_tells : (Nat → Int32)) (N_drowned : Int32) (N_count : Int32) (N_course : Int32) (N_told : Int32) (N_z : Int32) (x1 : Int32) (x2 : Int32) (z : Int32 × TB) (hf : fX6_set n uK (N_laws, N_kind, N_holds, N_gone, N_tells, N_drowned, N_count, N_course, N_told, N_z) x1 x2 = some z) : Met l yX6_set wsX6_set ({ frames := 1, cells := 0, slots := 0, locals := 22 }) (PcW [.ref ak, .int x1, .int x2] D cy st sk sv B sz [(ak, .inr (6, [.ref an0, .ref ay0, .ref ae0, .int uK, .ref aa0, .ref aw0, .ref as0, .ref af0, .ref ag0])), (an0, .inr (4, [.ref an1, .ref an2, .ref an3, .ref an4, .ref an5, .int N_drowned, .int N_count, .int N_course, .int N_told, .int N_z])), (an1, .inl (cy 0, 4, .inl N_laws)), (an2, .inl (cy 0, 8, .inl N_kind)), (an3, .inl (cy 0, 8, .inl N_holds)), (an4, .inl (cy 0, 8, .inl N_gone)), (an5, .inl (cy 0, 8, .inl N_tells))]) (Qw (some (.int z.1)) D [(ak, .inr (6, [.ref an0, .ref ay0, .ref ae0, .int uK, .ref aa0, .ref aw0, .ref as0, .ref af0, .ref ag0])), (an0, .inr (4, [.ref an1, .ref an2, .ref an3, .ref an4, .ref an5, .int z.2.2.2.2.2.2.1, .int z.2.2.2.2.2.2.2.1, .int z.2.2.2.2.2.2.2.2.1, .int z.2.2.2.2.2.2.2.2.2.1, .int z.2.2.2.2.2.2.2.2.2.2])), (an1, .inl (cy 0, 4, .inl z.2.1)), (an2, .inl (cy 0, 8, .inl z.2.2.1)), (an3, .inl (cy 0, 8, .inl z.2.2.2.1)), (an4, .inl (cy 0, 8, .inl z.2.2.2.2.1)), (an5, .inl (cy 0, 8, .inl z.2.2.2.2.2.1))] (va_A [(ak, .inr (6, [.ref an0, .ref ay0, .ref ae0, .int uK, .ref aa0, .ref aw0, .ref as0, .ref af0, .ref ag0])), (an0, .inr (4, [.ref an1, .ref an2, .ref an3, .ref an4, .ref an5, .int N_drowned, .int N_count, .int N_course, .int N_told, .int N_z])), (an1, .inl (cy 0, 4, .inl N_laws)), (an2, .inl (cy 0, 8, .inl N_kind)), (an3, .inl (cy 0, 8, .inl N_holds)), (an4, .inl (cy 0, 8, .inl N_gone)), (an5, .inl (cy 0, 8, .inl N_tells))] sz)) 0 0 (va_A [(ak, .inr (6, [.ref an0, .ref ay0, .ref ae0, .int uK, .ref aa0, .ref aw0, .ref as0, .ref af0, .ref ag0])), (an0, .inr (4, [.ref an1, .ref an2, .ref an3, .ref an4, .ref an5, .int N_drowned, .int N_count, .int N_course, .int N_told, .int N_z])), (an1, .inl (cy 0, 4, .inl N_laws)), (an2, .inl (cy 0, 8, .inl N_kind)), (an3, .inl (cy 0, 8, .inl N_holds)), (an4, .inl (cy 0, 8, .inl N_gone)), (an5, .inl (cy 0, 8, .inl N_tells))] sz) := by
  refine Met.ofW (cc := cX6_set) (maxL := 4) (ret := (some .int)) (by decide) rfl ?_
  intro p e s m args below meth c s₁ Bd hml hv
  obtain ⟨rfl, hsz, hP, hD0, hBs, hG⟩ := hv
  have hx := Bd.exec
  have hb := Bd.bytes
  have hr := Bd.returns
  have hts := atoms_spec (ws := wsX6_set) Bd.pre
  have hown : s.vm.findClass RX6 = some m.cls := findClass_of_methodNamed Bd.named
  have hlocks := Bd.notSynchronized
  have hK := hG.1
  subst hsz
  have hD := hD0.self (sz := s.heap.size)
  have hAB0 := zA hD0 hBs
  generalize hAe : va_A [(ak, .inr (6, [.ref an0, .ref ay0, .ref ae0, .int uK, .ref aa0, .ref aw0, .ref as0, .ref af0, .ref ag0])), (an0, .inr (4, [.ref an1, .ref an2, .ref an3, .ref an4, .ref an5, .int N_drowned, .int N_count, .int N_course, .int N_told, .int N_z])), (an1, .inl (cy 0, 4, .inl N_laws)), (an2, .inl (cy 0, 8, .inl N_kind)), (an3, .inl (cy 0, 8, .inl N_holds)), (an4, .inl (cy 0, 8, .inl N_gone)), (an5, .inl (cy 0, 8, .inl N_tells))] s.heap.size = A at hD hAB0 ⊢
  have hA : ∀ q : Nat, s.heap.size ≤ q → A q := fun q h => by rw [← hAe]; exact Or.inr h
  have hAB : ∀ q, A q → B ≤ q := hAB0
  have hS : va_S A s.heap s.heap [] := va_S.rf
  have hfin : ∀ (z0 : Int32) (N_laws : (Nat → Int32)) (N_kind : (Nat → Int32)) (N_holds : (Nat → Int32)) (N_gone : (Nat → Int32)) (N_tells : (Nat → Int32)) (N_drowned : Int32) (N_count : Int32) (N_course : Int32) (N_told : Int32) (N_z : Int32), some (z0, (N_laws, N_kind, N_holds, N_gone, N_tells, N_drowned, N_count, N_course, N_told, N_z)) = some z → ∀ (H : Heap) (t : State), t.heap = H → va_P D vwCl [(ak, .inr (6, [.ref an0, .ref ay0, .ref ae0, .int uK, .ref aa0, .ref aw0, .ref as0, .ref af0, .ref ag0])), (an0, .inr (4, [.ref an1, .ref an2, .ref an3, .ref an4, .ref an5, .int N_drowned, .int N_count, .int N_course, .int N_told, .int N_z])), (an1, .inl (cy 0, 4, .inl N_laws)), (an2, .inl (cy 0, 8, .inl N_kind)), (an3, .inl (cy 0, 8, .inl N_holds)), (an4, .inl (cy 0, 8, .inl N_gone)), (an5, .inl (cy 0, 8, .inl N_tells))] H → va_F A s t → Qw (some (.int z.1)) D [(ak, .inr (6, [.ref an0, .ref ay0, .ref ae0, .int uK, .ref aa0, .ref aw0, .ref as0, .ref af0, .ref ag0])), (an0, .inr (4, [.ref an1, .ref an2, .ref an3, .ref an4, .ref an5, .int z.2.2.2.2.2.2.1, .int z.2.2.2.2.2.2.2.1, .int z.2.2.2.2.2.2.2.2.1, .int z.2.2.2.2.2.2.2.2.2.1, .int z.2.2.2.2.2.2.2.2.2.2])), (an1, .inl (cy 0, 4, .inl z.2.1)), (an2, .inl (cy 0, 8, .inl z.2.2.1)), (an3, .inl (cy 0, 8, .inl z.2.2.2.1)), (an4, .inl (cy 0, 8, .inl z.2.2.2.2.1)), (an5, .inl (cy 0, 8, .inl z.2.2.2.2.2.1))] A ([.ref ak, .int x1, .int x2] : List Value).toArray s (.returned (some (.int z0))) t := by
    intro z0 N_laws N_kind N_holds N_gone N_tells N_drowned N_count N_course N_told N_z h9 H t ht hP hF
    cases h9
    exact ⟨rfl, by rw [ht]; exact hP, hF⟩
  have hin4 : ∀ w ∈ u_ws RX4 TX4 10, w ∈ wsX6_set := by decide +kernel
  have hin6 : ∀ w ∈ u_ws RX6 TX6 9, w ∈ wsX6_set := by decide +kernel
  have fl10 := hts (.fieldLink RX6 10 "KinCutlery" "now" "LKinCutlery$Table;") (by decide +kernel)
  have fl90 := hts (.fieldLink RX6 90 "KinCutlery" "LAW_AT_MOST" "[I") (by decide +kernel)
  have fl94 := hts (.fieldLink RX6 94 "KinCutlery$Table" "laws" "[I") (by decide +kernel)
  have hl := lv_entry ([.ref ak, .int x1, .int x2]) (n := 4) (Nat.le_of_ble_eq_true rfl)
  rw [lg_entry_eq]
  generalize (lg_sl ([.ref ak, .int x1, .int x2]) ++ List.replicate (4 - (lg_sl ([.ref ak, .int x1, .int x2])).length) Slot.unset).toArray = ls at hl ⊢
  have hl : lv_has ls 4 [(0, .ref ak), (1, .int x1), (2, .int x2)] := hl
  have hf : ((fX6_within n x1 (0 : Int32) (3 : Int32)).bind fun r3 => if r3 = 0 then (some ((-1 : Int32), (N_laws, N_kind, N_holds, N_gone, N_tells, N_drowned, N_count, N_course, N_told, N_z))) else (if x1 < 0 ∨ 4 ≤ x1.toNatClampNeg then none else (fX6_within n x2 (0 : Int32) (gsF 1 x1.toNatClampNeg)).bind fun r16 => if r16 = 0 then (some ((-1 : Int32), (N_laws, N_kind, N_holds, N_gone, N_tells, N_drowned, N_count, N_course, N_told, N_z))) else (if x1 < 0 ∨ 4 ≤ x1.toNatClampNeg then none else if x1 < 0 ∨ 4 ≤ x1.toNatClampNeg then none else some ((N_laws x1.toNatClampNeg), ((upd N_laws x1.toNatClampNeg x2), N_kind, N_holds, N_gone, N_tells, N_drowned, N_count, N_course, N_told, N_z))))) = some z := hf
  refine lv_iload_n hx hb dX6_set_0 rfl (lv_at hl 1 rfl) ?_
  refine lv_iconst (v := (0 : Int32)) hx hb dX6_set_1 (by decide) ?_
  refine lv_iconst (v := (3 : Int32)) hx hb dX6_set_2 (by decide) ?_
  obtain ⟨r3, hc3, hf⟩ := zb hf
  refine zsr (o := some (.int r3)) (As := [.int x1, .int (0 : Int32), .int (3 : Int32)]) (rest := []) (stk := [.int r3]) ⟨hx, hb, hml, hown, hts⟩ (mX6_within l D cy st sk sv B  n x1 (0 : Int32) (3 : Int32) r3 hc3) (va_cwS 3 hts gX6_set_X6_within rfl rfl rfl (by decide +kernel) ⟨Nat.le_of_ble_eq_true rfl, Nat.le_of_ble_eq_true rfl⟩) hG hS hAB hP [] rfl rfl hl.1 rfl (Nat.le_of_ble_eq_true rfl) dX6_set_3 rfl ?_
  refine lv_if_eq (tgt := 22) hx hb dX6_set_6 (by decide) (fun c_6 => ?_) (fun c_6 => ?_)
  · have hf := zp hf c_6
    refine lv_iconst (v := (-1 : Int32)) hx hb dX6_set_22 (by decide) ?_
    exact W.iret hx hb hr (fun t ht hW => hfin (-1 : Int32) N_laws N_kind N_holds N_gone N_tells N_drowned N_count N_course N_told N_z hf _ t ht hP (hS.F ht)) hS.2.2 dX6_set_23
  · have hf := zn hf c_6
    refine lv_iload_n hx hb dX6_set_9 rfl (lv_at hl 2 rfl) ?_
    refine lv_iconst (v := (0 : Int32)) hx hb dX6_set_10 (by decide) ?_
    refine va_gets (C := RX6) (n := "LAW_AT_MOST") (d := "[I") (v := .ref (st 1)) hx hb (va_Z.narrow (hG.2.2.1 1 (by decide)).1 hAB) hS hown fl90 (fun _ h9 => h9) dX6_set_11 ?_
    refine lv_iload_n hx hb dX6_set_14 rfl (lv_at hl 1 rfl) ?_
    obtain ⟨h_15, hf⟩ := zg hf
    refine va_ti (v := .int (gsF 1 x1.toNatClampNeg)) hx hb (va_T.narrow (hG.2.2.1 1 (by decide)).2 hAB) hS h_15 rfl dX6_set_15 ?_
    obtain ⟨r16, hc16, hf⟩ := zb hf
    refine zsr (o := some (.int r16)) (As := [.int x2, .int (0 : Int32), .int (gsF 1 x1.toNatClampNeg)]) (rest := []) (stk := [.int r16]) ⟨hx, hb, hml, hown, hts⟩ (mX6_within l D cy st sk sv B  n x2 (0 : Int32) (gsF 1 x1.toNatClampNeg) r16 hc16) (va_cwS 3 hts gX6_set_X6_within rfl rfl rfl (by decide +kernel) ⟨Nat.le_of_ble_eq_true rfl, Nat.le_of_ble_eq_true rfl⟩) hG hS hAB hP [] rfl rfl hl.1 rfl (Nat.le_of_ble_eq_true rfl) dX6_set_16 rfl ?_
    refine lv_if_ne (tgt := 24) hx hb dX6_set_19 (by decide) (fun c_19 => ?_) (fun c_19 => ?_)
    · have hf := zn hf c_19
      refine lv_aload_n hx hb dX6_set_24 rfl (lv_at hl 0 rfl) ?_
      refine va_get (D := D) (ci := 6) (v := .ref an0) (C := RX6) (T := TX6) (N := 9) hx hb hts hin6 hown hK hP 0 rfl rfl 0 (by decide) fl10 (fun _ h9 => h9) rfl dX6_set_25 ?_
      refine va_get (D := D) (ci := 4) (v := .ref an1) (C := RX4) (T := TX4) (N := 10) hx hb hts hin4 hown hK hP 1 rfl rfl 0 (by decide) fl94 (fun _ h9 => h9) rfl dX6_set_28 ?_
      refine lv_iload_n hx hb dX6_set_31 rfl (lv_at hl 1 rfl) ?_
      obtain ⟨h_32, hf⟩ := zg hf
      refine va_iald hx hb hK hP 2 0 rfl rfl h_32 dX6_set_32 ?_
      refine lv_istore_n (lv' := [(3, .int (N_laws x1.toNatClampNeg)), (0, .ref ak), (1, .int x1), (2, .int x2)]) hx hb dX6_set_33 rfl hl (by decide) rfl (fun ls hl => ?_)
      refine lv_aload_n hx hb dX6_set_34 rfl (lv_at hl 1 rfl) ?_
      refine va_get (D := D) (ci := 6) (v := .ref an0) (C := RX6) (T := TX6) (N := 9) hx hb hts hin6 hown hK hP 0 rfl rfl 0 (by decide) fl10 (fun _ h9 => h9) rfl dX6_set_35 ?_
      refine va_get (D := D) (ci := 4) (v := .ref an1) (C := RX4) (T := TX4) (N := 10) hx hb hts hin4 hown hK hP 1 rfl rfl 0 (by decide) fl94 (fun _ h9 => h9) rfl dX6_set_38 ?_
      refine lv_iload_n hx hb dX6_set_41 rfl (lv_at hl 2 rfl) ?_
      refine lv_iload_n hx hb dX6_set_42 rfl (lv_at hl 3 rfl) ?_
      obtain ⟨h_43, hf⟩ := zg hf
      refine va_iast hx hb hK hP hD hS 2 0 rfl rfl h_43 dX6_set_43 (fun H locs hP hD hS => ?_)
      have hP : va_P D vwCl [(ak, .inr (6, [.ref an0, .ref ay0, .ref ae0, .int uK, .ref aa0, .ref aw0, .ref as0, .ref af0, .ref ag0])), (an0, .inr (4, [.ref an1, .ref an2, .ref an3, .ref an4, .ref an5, .int N_drowned, .int N_count, .int N_course, .int N_told, .int N_z])), (an1, .inl (cy 0, 4, .inl (upd N_laws x1.toNatClampNeg x2))), (an2, .inl (cy 0, 8, .inl N_kind)), (an3, .inl (cy 0, 8, .inl N_holds)), (an4, .inl (cy 0, 8, .inl N_gone)), (an5, .inl (cy 0, 8, .inl N_tells))] H := hP
      have hD : va_D A [(ak, .inr (6, [.ref an0, .ref ay0, .ref ae0, .int uK, .ref aa0, .ref aw0, .ref as0, .ref af0, .ref ag0])), (an0, .inr (4, [.ref an1, .ref an2, .ref an3, .ref an4, .ref an5, .int N_drowned, .int N_count, .int N_course, .int N_told, .int N_z])), (an1, .inl (cy 0, 4, .inl (upd N_laws x1.toNatClampNeg x2))), (an2, .inl (cy 0, 8, .inl N_kind)), (an3, .inl (cy 0, 8, .inl N_holds)), (an4, .inl (cy 0, 8, .inl N_gone)), (an5, .inl (cy 0, 8, .inl N_tells))] := hD
      refine lv_iload_n hx hb dX6_set_44 rfl (lv_at hl 0 rfl) ?_
      exact W.iret hx hb hr (fun t ht hW => hfin (N_laws x1.toNatClampNeg) (upd N_laws x1.toNatClampNeg x2) N_kind N_holds N_gone N_tells N_drowned N_count N_course N_told N_z hf _ t ht hP (hS.F ht)) hS.2.2 dX6_set_45
    · have hf := zp hf c_19
      refine lv_iconst (v := (-1 : Int32)) hx hb dX6_set_22 (by decide) ?_
      exact W.iret hx hb hr (fun t ht hW => hfin (-1 : Int32) N_laws N_kind N_holds N_gone N_tells N_drowned N_count N_course N_told N_z hf _ t ht hP (hS.F ht)) hS.2.2 dX6_set_23
set_option maxRecDepth 100000 in
set_option maxHeartbeats 100000000 in
theorem mX6_lawOf (l : Launch) (D : va_G) (cy : Nat → ClassId) (st sk sv : Nat → Nat) (B : Nat) (ak : Nat) (an0 : Nat) (ay0 : Nat) (ae0 : Nat) (aa0 : Nat) (aw0 : Nat) (as0 : Nat) (af0 : Nat) (ag0 : Nat) (an1 : Nat) (an2 : Nat) (an3 : Nat) (an4 : Nat) (an5 : Nat) (n : Nat) (uK : Int32) (N_laws : (Nat → Int32)) (N_kind : (Nat → Int32)) (N_holds : (Nat → Int32)) (N_gone : (Nat → Int32)) (N_tells : (Nat → Int32)) (N_drowned : Int32) (N_count : Int32) (N_course : Int32) (N_told : Int32) (N_z : Int32) (x1 : Int32) (z : Int32) (hf : fX6_lawOf n uK (N_laws, N_kind, N_holds, N_gone, N_tells, N_drowned, N_count, N_course, N_told, N_z) x1 = some z) : Met l yX6_lawOf wsX6_lawOf ({ frames := 1, cells := 0, slots := 0, locals := 22 }) (PcR [.ref ak, .int x1] D cy st sk sv B [(ak, .inr (6, [.ref an0, .ref ay0, .ref ae0, .int uK, .ref aa0, .ref aw0, .ref as0, .ref af0, .ref ag0])), (an0, .inr (4, [.ref an1, .ref an2, .ref an3, .ref an4, .ref an5, .int N_drowned, .int N_count, .int N_course, .int N_told, .int N_z])), (an1, .inl (cy 0, 4, .inl N_laws)), (an2, .inl (cy 0, 8, .inl N_kind)), (an3, .inl (cy 0, 8, .inl N_holds)), (an4, .inl (cy 0, 8, .inl N_gone)), (an5, .inl (cy 0, 8, .inl N_tells))]) (Qr (some (.int z))) 0 0 (fun _ => False) := by
  refine Met.ofW (cc := cX6_lawOf) (maxL := 2) (ret := (some .int)) (by decide) rfl ?_
  intro p e s m args below meth c s₁ Bd hml hv
  obtain ⟨rfl, hP, hG⟩ := hv
  have hx := Bd.exec
  have hb := Bd.bytes
  have hr := Bd.returns
  have hts := atoms_spec (ws := wsX6_lawOf) Bd.pre
  have hown : s.vm.findClass RX6 = some m.cls := findClass_of_methodNamed Bd.named
  have hlocks := Bd.notSynchronized
  have hK := hG.1
  have hS : va_S (fun q => B ≤ q) s.heap s.heap [] := va_S.rf
  have hAB : ∀ q, (fun q => B ≤ q) q → B ≤ q := fun _ h => h
  have hin4 : ∀ w ∈ u_ws RX4 TX4 10, w ∈ wsX6_lawOf := by decide +kernel
  have hin6 : ∀ w ∈ u_ws RX6 TX6 9, w ∈ wsX6_lawOf := by decide +kernel
  have fl10 := hts (.fieldLink RX6 10 "KinCutlery" "now" "LKinCutlery$Table;") (by decide +kernel)
  have fl94 := hts (.fieldLink RX6 94 "KinCutlery$Table" "laws" "[I") (by decide +kernel)
  have hl := lv_entry ([.ref ak, .int x1]) (n := 2) (Nat.le_of_ble_eq_true rfl)
  rw [lg_entry_eq]
  generalize (lg_sl ([.ref ak, .int x1]) ++ List.replicate (2 - (lg_sl ([.ref ak, .int x1])).length) Slot.unset).toArray = ls at hl ⊢
  have hl : lv_has ls 2 [(0, .ref ak), (1, .int x1)] := hl
  have hf : ((fX6_within n x1 (0 : Int32) (3 : Int32)).bind fun r3 => if r3 = 0 then (some (-1 : Int32)) else (if x1 < 0 ∨ 4 ≤ x1.toNatClampNeg then none else some (N_laws x1.toNatClampNeg))) = some z := hf
  refine lv_iload_n hx hb dX6_lawOf_0 rfl (lv_at hl 1 rfl) ?_
  refine lv_iconst (v := (0 : Int32)) hx hb dX6_lawOf_1 (by decide) ?_
  refine lv_iconst (v := (3 : Int32)) hx hb dX6_lawOf_2 (by decide) ?_
  obtain ⟨r3, hc3, hf⟩ := zb hf
  refine zsr (o := some (.int r3)) (As := [.int x1, .int (0 : Int32), .int (3 : Int32)]) (rest := []) (stk := [.int r3]) ⟨hx, hb, hml, hown, hts⟩ (mX6_within l D cy st sk sv B  n x1 (0 : Int32) (3 : Int32) r3 hc3) (va_cwS 3 hts gX6_lawOf_X6_within rfl rfl rfl (by decide +kernel) ⟨Nat.le_of_ble_eq_true rfl, Nat.le_of_ble_eq_true rfl⟩) hG hS hAB hP [] rfl rfl hl.1 rfl (Nat.le_of_ble_eq_true rfl) dX6_lawOf_3 rfl ?_
  refine lv_if_eq (tgt := 21) hx hb dX6_lawOf_6 (by decide) (fun c_6 => ?_) (fun c_6 => ?_)
  · have hf := zp hf c_6
    refine lv_iconst (v := (-1 : Int32)) hx hb dX6_lawOf_21 (by decide) ?_
    cases hf
    exact W.iret hx hb hr (fun t ht hW => ⟨rfl, ht⟩) (fun q h => absurd h List.not_mem_nil) dX6_lawOf_22
  · have hf := zn hf c_6
    refine lv_aload_n hx hb dX6_lawOf_9 rfl (lv_at hl 0 rfl) ?_
    refine va_get (D := D) (ci := 6) (v := .ref an0) (C := RX6) (T := TX6) (N := 9) hx hb hts hin6 hown hK hP 0 rfl rfl 0 (by decide) fl10 (fun _ h9 => h9) rfl dX6_lawOf_10 ?_
    refine va_get (D := D) (ci := 4) (v := .ref an1) (C := RX4) (T := TX4) (N := 10) hx hb hts hin4 hown hK hP 1 rfl rfl 0 (by decide) fl94 (fun _ h9 => h9) rfl dX6_lawOf_13 ?_
    refine lv_iload_n hx hb dX6_lawOf_16 rfl (lv_at hl 1 rfl) ?_
    obtain ⟨h_17, hf⟩ := zg hf
    refine va_iald hx hb hK hP 2 0 rfl rfl h_17 dX6_lawOf_17 ?_
    refine lv_goto (tgt := 22) hx hb dX6_lawOf_18 (by decide) ?_
    cases hf
    exact W.iret hx hb hr (fun t ht hW => ⟨rfl, ht⟩) (fun q h => absurd h List.not_mem_nil) dX6_lawOf_22
set_option maxRecDepth 100000 in
set_option maxHeartbeats 100000000 in
theorem mX6_guest (l : Launch) (D : va_G) (cy : Nat → ClassId) (st sk sv : Nat → Nat) (B : Nat) (ak : Nat) (an0 : Nat) (ay0 : Nat) (ae0 : Nat) (aa0 : Nat) (aw0 : Nat) (as0 : Nat) (af0 : Nat) (ag0 : Nat) (an1 : Nat) (an2 : Nat) (an3 : Nat) (an4 : Nat) (an5 : Nat) (sz : Nat) (n : Nat) (uK : Int32) (N_laws : (Nat → Int32)) (N_kind : (Nat → Int32)) (N_holds : (Nat → Int32)) (N_gone : (Nat → Int32)) (N_tells : (Nat → Int32)) (N_drowned : Int32) (N_count : Int32) (N_course : Int32) (N_told : Int32) (N_z : Int32) (x1 : Int32) (x2 : Int32) (z : Int32 × TB) (hf : fX6_guest n uK (N_laws, N_kind, N_holds, N_gone, N_tells, N_drowned, N_count, N_course, N_told, N_z) x1 x2 = some z) : Met l yX6_guest wsX6_guest ({ frames := 2, cells := 0, slots := 0, locals := 45 }) (PcW [.ref ak, .int x1, .int x2] D cy st sk sv B sz [(ak, .inr (6, [.ref an0, .ref ay0, .ref ae0, .int uK, .ref aa0, .ref aw0, .ref as0, .ref af0, .ref ag0])), (an0, .inr (4, [.ref an1, .ref an2, .ref an3, .ref an4, .ref an5, .int N_drowned, .int N_count, .int N_course, .int N_told, .int N_z])), (an1, .inl (cy 0, 4, .inl N_laws)), (an2, .inl (cy 0, 8, .inl N_kind)), (an3, .inl (cy 0, 8, .inl N_holds)), (an4, .inl (cy 0, 8, .inl N_gone)), (an5, .inl (cy 0, 8, .inl N_tells))]) (Qw (some (.int z.1)) D [(ak, .inr (6, [.ref an0, .ref ay0, .ref ae0, .int uK, .ref aa0, .ref aw0, .ref as0, .ref af0, .ref ag0])), (an0, .inr (4, [.ref an1, .ref an2, .ref an3, .ref an4, .ref an5, .int z.2.2.2.2.2.2.1, .int z.2.2.2.2.2.2.2.1, .int z.2.2.2.2.2.2.2.2.1, .int z.2.2.2.2.2.2.2.2.2.1, .int z.2.2.2.2.2.2.2.2.2.2])), (an1, .inl (cy 0, 4, .inl z.2.1)), (an2, .inl (cy 0, 8, .inl z.2.2.1)), (an3, .inl (cy 0, 8, .inl z.2.2.2.1)), (an4, .inl (cy 0, 8, .inl z.2.2.2.2.1)), (an5, .inl (cy 0, 8, .inl z.2.2.2.2.2.1))] (va_A [(ak, .inr (6, [.ref an0, .ref ay0, .ref ae0, .int uK, .ref aa0, .ref aw0, .ref as0, .ref af0, .ref ag0])), (an0, .inr (4, [.ref an1, .ref an2, .ref an3, .ref an4, .ref an5, .int N_drowned, .int N_count, .int N_course, .int N_told, .int N_z])), (an1, .inl (cy 0, 4, .inl N_laws)), (an2, .inl (cy 0, 8, .inl N_kind)), (an3, .inl (cy 0, 8, .inl N_holds)), (an4, .inl (cy 0, 8, .inl N_gone)), (an5, .inl (cy 0, 8, .inl N_tells))] sz)) 0 0 (va_A [(ak, .inr (6, [.ref an0, .ref ay0, .ref ae0, .int uK, .ref aa0, .ref aw0, .ref as0, .ref af0, .ref ag0])), (an0, .inr (4, [.ref an1, .ref an2, .ref an3, .ref an4, .ref an5, .int N_drowned, .int N_count, .int N_course, .int N_told, .int N_z])), (an1, .inl (cy 0, 4, .inl N_laws)), (an2, .inl (cy 0, 8, .inl N_kind)), (an3, .inl (cy 0, 8, .inl N_holds)), (an4, .inl (cy 0, 8, .inl N_gone)), (an5, .inl (cy 0, 8, .inl N_tells))] sz) := by
  refine Met.ofW (cc := cX6_guest) (maxL := 3) (ret := (some .int)) (by decide) rfl ?_
  intro p e s m args below meth c s₁ Bd hml hv
  obtain ⟨rfl, hsz, hP, hD0, hBs, hG⟩ := hv
  have hx := Bd.exec
  have hb := Bd.bytes
  have hr := Bd.returns
  have hts := atoms_spec (ws := wsX6_guest) Bd.pre
  have hown : s.vm.findClass RX6 = some m.cls := findClass_of_methodNamed Bd.named
  have hlocks := Bd.notSynchronized
  have hK := hG.1
  subst hsz
  have hD := hD0.self (sz := s.heap.size)
  have hAB0 := zA hD0 hBs
  generalize hAe : va_A [(ak, .inr (6, [.ref an0, .ref ay0, .ref ae0, .int uK, .ref aa0, .ref aw0, .ref as0, .ref af0, .ref ag0])), (an0, .inr (4, [.ref an1, .ref an2, .ref an3, .ref an4, .ref an5, .int N_drowned, .int N_count, .int N_course, .int N_told, .int N_z])), (an1, .inl (cy 0, 4, .inl N_laws)), (an2, .inl (cy 0, 8, .inl N_kind)), (an3, .inl (cy 0, 8, .inl N_holds)), (an4, .inl (cy 0, 8, .inl N_gone)), (an5, .inl (cy 0, 8, .inl N_tells))] s.heap.size = A at hD hAB0 ⊢
  have hA : ∀ q : Nat, s.heap.size ≤ q → A q := fun q h => by rw [← hAe]; exact Or.inr h
  have hAB : ∀ q, A q → B ≤ q := hAB0
  have hS : va_S A s.heap s.heap [] := va_S.rf
  have hfin : ∀ (z0 : Int32) (N_laws : (Nat → Int32)) (N_kind : (Nat → Int32)) (N_holds : (Nat → Int32)) (N_gone : (Nat → Int32)) (N_tells : (Nat → Int32)) (N_drowned : Int32) (N_count : Int32) (N_course : Int32) (N_told : Int32) (N_z : Int32), some (z0, (N_laws, N_kind, N_holds, N_gone, N_tells, N_drowned, N_count, N_course, N_told, N_z)) = some z → ∀ (H : Heap) (t : State), t.heap = H → va_P D vwCl [(ak, .inr (6, [.ref an0, .ref ay0, .ref ae0, .int uK, .ref aa0, .ref aw0, .ref as0, .ref af0, .ref ag0])), (an0, .inr (4, [.ref an1, .ref an2, .ref an3, .ref an4, .ref an5, .int N_drowned, .int N_count, .int N_course, .int N_told, .int N_z])), (an1, .inl (cy 0, 4, .inl N_laws)), (an2, .inl (cy 0, 8, .inl N_kind)), (an3, .inl (cy 0, 8, .inl N_holds)), (an4, .inl (cy 0, 8, .inl N_gone)), (an5, .inl (cy 0, 8, .inl N_tells))] H → va_F A s t → Qw (some (.int z.1)) D [(ak, .inr (6, [.ref an0, .ref ay0, .ref ae0, .int uK, .ref aa0, .ref aw0, .ref as0, .ref af0, .ref ag0])), (an0, .inr (4, [.ref an1, .ref an2, .ref an3, .ref an4, .ref an5, .int z.2.2.2.2.2.2.1, .int z.2.2.2.2.2.2.2.1, .int z.2.2.2.2.2.2.2.2.1, .int z.2.2.2.2.2.2.2.2.2.1, .int z.2.2.2.2.2.2.2.2.2.2])), (an1, .inl (cy 0, 4, .inl z.2.1)), (an2, .inl (cy 0, 8, .inl z.2.2.1)), (an3, .inl (cy 0, 8, .inl z.2.2.2.1)), (an4, .inl (cy 0, 8, .inl z.2.2.2.2.1)), (an5, .inl (cy 0, 8, .inl z.2.2.2.2.2.1))] A ([.ref ak, .int x1, .int x2] : List Value).toArray s (.returned (some (.int z0))) t := by
    intro z0 N_laws N_kind N_holds N_gone N_tells N_drowned N_count N_course N_told N_z h9 H t ht hP hF
    cases h9
    exact ⟨rfl, by rw [ht]; exact hP, hF⟩
  have hin4 : ∀ w ∈ u_ws RX4 TX4 10, w ∈ wsX6_guest := by decide +kernel
  have hin6 : ∀ w ∈ u_ws RX6 TX6 9, w ∈ wsX6_guest := by decide +kernel
  have fl10 := hts (.fieldLink RX6 10 "KinCutlery" "now" "LKinCutlery$Table;") (by decide +kernel)
  have fl89 := hts (.fieldLink RX6 89 "KinCutlery$Table" "count" "I") (by decide +kernel)
  have hl := lv_entry ([.ref ak, .int x1, .int x2]) (n := 3) (Nat.le_of_ble_eq_true rfl)
  rw [lg_entry_eq]
  generalize (lg_sl ([.ref ak, .int x1, .int x2]) ++ List.replicate (3 - (lg_sl ([.ref ak, .int x1, .int x2])).length) Slot.unset).toArray = ls at hl ⊢
  have hl : lv_has ls 3 [(0, .ref ak), (1, .int x1), (2, .int x2)] := hl
  have hf : ((fX6_within n x1 (0 : Int32) (5 : Int32)).bind fun r3 => if r3 = 0 then (some ((-1 : Int32), (N_laws, N_kind, N_holds, N_gone, N_tells, N_drowned, N_count, N_course, N_told, N_z))) else ((fX6_within n x2 (0 : Int32) (7 : Int32)).bind fun r13 => if r13 = 0 then (some ((-1 : Int32), (N_laws, N_kind, N_holds, N_gone, N_tells, N_drowned, N_count, N_course, N_told, N_z))) else (if (8 : Int32) ≤ N_count then (some ((-2 : Int32), (N_laws, N_kind, N_holds, N_gone, N_tells, N_drowned, N_count, N_course, N_told, N_z))) else ((fX4_seat n (N_laws, N_kind, N_holds, N_gone, N_tells, N_drowned, N_count, N_course, N_told, N_z) x1 x2).bind fun r39 => some (r39.1, r39.2))))) = some z := hf
  refine lv_iload_n hx hb dX6_guest_0 rfl (lv_at hl 1 rfl) ?_
  refine lv_iconst (v := (0 : Int32)) hx hb dX6_guest_1 (by decide) ?_
  refine lv_iconst (v := (5 : Int32)) hx hb dX6_guest_2 (by decide) ?_
  obtain ⟨r3, hc3, hf⟩ := zb hf
  refine zsr (o := some (.int r3)) (As := [.int x1, .int (0 : Int32), .int (5 : Int32)]) (rest := []) (stk := [.int r3]) ⟨hx, hb, hml, hown, hts⟩ (mX6_within l D cy st sk sv B  n x1 (0 : Int32) (5 : Int32) r3 hc3) (va_cwS 3 hts gX6_guest_X6_within rfl rfl rfl (by decide +kernel) ⟨Nat.le_of_ble_eq_true rfl, Nat.le_of_ble_eq_true rfl⟩) hG hS hAB hP [] rfl rfl hl.1 rfl (Nat.le_of_ble_eq_true rfl) dX6_guest_3 rfl ?_
  refine lv_if_eq (tgt := 19) hx hb dX6_guest_6 (by decide) (fun c_6 => ?_) (fun c_6 => ?_)
  · have hf := zp hf c_6
    refine lv_iconst (v := (-1 : Int32)) hx hb dX6_guest_19 (by decide) ?_
    exact W.iret hx hb hr (fun t ht hW => hfin (-1 : Int32) N_laws N_kind N_holds N_gone N_tells N_drowned N_count N_course N_told N_z hf _ t ht hP (hS.F ht)) hS.2.2 dX6_guest_20
  · have hf := zn hf c_6
    refine lv_iload_n hx hb dX6_guest_9 rfl (lv_at hl 2 rfl) ?_
    refine lv_iconst (v := (0 : Int32)) hx hb dX6_guest_10 (by decide) ?_
    refine lv_bipush (v := (7 : Int32)) hx hb dX6_guest_11 (by decide) ?_
    obtain ⟨r13, hc13, hf⟩ := zb hf
    refine zsr (o := some (.int r13)) (As := [.int x2, .int (0 : Int32), .int (7 : Int32)]) (rest := []) (stk := [.int r13]) ⟨hx, hb, hml, hown, hts⟩ (mX6_within l D cy st sk sv B  n x2 (0 : Int32) (7 : Int32) r13 hc13) (va_cwS 3 hts gX6_guest_X6_within rfl rfl rfl (by decide +kernel) ⟨Nat.le_of_ble_eq_true rfl, Nat.le_of_ble_eq_true rfl⟩) hG hS hAB hP [] rfl rfl hl.1 rfl (Nat.le_of_ble_eq_true rfl) dX6_guest_13 rfl ?_
    refine lv_if_ne (tgt := 21) hx hb dX6_guest_16 (by decide) (fun c_16 => ?_) (fun c_16 => ?_)
    · have hf := zn hf c_16
      refine lv_aload_n hx hb dX6_guest_21 rfl (lv_at hl 0 rfl) ?_
      refine va_get (D := D) (ci := 6) (v := .ref an0) (C := RX6) (T := TX6) (N := 9) hx hb hts hin6 hown hK hP 0 rfl rfl 0 (by decide) fl10 (fun _ h9 => h9) rfl dX6_guest_22 ?_
      refine va_get (D := D) (ci := 4) (v := .int N_count) (C := RX4) (T := TX4) (N := 10) hx hb hts hin4 hown hK hP 1 rfl rfl 6 (by decide) fl89 (fun _ h9 => h9) rfl dX6_guest_25 ?_
      refine lv_bipush (v := (8 : Int32)) hx hb dX6_guest_28 (by decide) ?_
      refine lv_icmp_ge (tgt := 45) hx hb dX6_guest_30 (by decide) (fun c_30 => ?_) (fun c_30 => ?_)
      · have hf := zp hf c_30
        refine lv_bipush (v := (-2 : Int32)) hx hb dX6_guest_45 (by decide) ?_
        exact W.iret hx hb hr (fun t ht hW => hfin (-2 : Int32) N_laws N_kind N_holds N_gone N_tells N_drowned N_count N_course N_told N_z hf _ t ht hP (hS.F ht)) hS.2.2 dX6_guest_47
      · have hf := zn hf c_30
        refine lv_aload_n hx hb dX6_guest_33 rfl (lv_at hl 0 rfl) ?_
        refine va_get (D := D) (ci := 6) (v := .ref an0) (C := RX6) (T := TX6) (N := 9) hx hb hts hin6 hown hK hP 0 rfl rfl 0 (by decide) fl10 (fun _ h9 => h9) rfl dX6_guest_34 ?_
        refine lv_iload_n hx hb dX6_guest_37 rfl (lv_at hl 1 rfl) ?_
        refine lv_iload_n hx hb dX6_guest_38 rfl (lv_at hl 2 rfl) ?_
        obtain ⟨r39, hc39, hf⟩ := zb hf
        refine zvw (o := some (.int r39.1)) (As := [.int x1, .int x2]) (rest := []) (stk := [.int r39.1]) ⟨hx, hb, hml, hown, hts⟩ (mX4_seat l D cy st sk sv B an0 an1 an2 an3 an4 an5 _ n N_laws N_kind N_holds N_gone N_tells N_drowned N_count N_course N_told N_z x1 x2 r39 hc39) (cwV 2 hts gX6_guest_X4_seat rfl rfl rfl (by decide +kernel) ⟨Nat.le_of_ble_eq_true rfl, Nat.le_of_ble_eq_true rfl⟩) hG hS hAB hA hP hD [1, 2, 3, 4, 5, 6] (by decide) rfl rfl rfl rfl 0 4 rfl rfl rfl rfl hl.1 rfl (Nat.le_of_ble_eq_true rfl) dX6_guest_39 rfl (fun H locs hP hD hS => ?_)
        have hP : va_P D vwCl [(ak, .inr (6, [.ref an0, .ref ay0, .ref ae0, .int uK, .ref aa0, .ref aw0, .ref as0, .ref af0, .ref ag0])), (an0, .inr (4, [.ref an1, .ref an2, .ref an3, .ref an4, .ref an5, .int r39.2.2.2.2.2.2.1, .int r39.2.2.2.2.2.2.2.1, .int r39.2.2.2.2.2.2.2.2.1, .int r39.2.2.2.2.2.2.2.2.2.1, .int r39.2.2.2.2.2.2.2.2.2.2])), (an1, .inl (cy 0, 4, .inl r39.2.1)), (an2, .inl (cy 0, 8, .inl r39.2.2.1)), (an3, .inl (cy 0, 8, .inl r39.2.2.2.1)), (an4, .inl (cy 0, 8, .inl r39.2.2.2.2.1)), (an5, .inl (cy 0, 8, .inl r39.2.2.2.2.2.1))] H := hP
        have hD : va_D A [(ak, .inr (6, [.ref an0, .ref ay0, .ref ae0, .int uK, .ref aa0, .ref aw0, .ref as0, .ref af0, .ref ag0])), (an0, .inr (4, [.ref an1, .ref an2, .ref an3, .ref an4, .ref an5, .int r39.2.2.2.2.2.2.1, .int r39.2.2.2.2.2.2.2.1, .int r39.2.2.2.2.2.2.2.2.1, .int r39.2.2.2.2.2.2.2.2.2.1, .int r39.2.2.2.2.2.2.2.2.2.2])), (an1, .inl (cy 0, 4, .inl r39.2.1)), (an2, .inl (cy 0, 8, .inl r39.2.2.1)), (an3, .inl (cy 0, 8, .inl r39.2.2.2.1)), (an4, .inl (cy 0, 8, .inl r39.2.2.2.2.1)), (an5, .inl (cy 0, 8, .inl r39.2.2.2.2.2.1))] := hD
        refine lv_goto (tgt := 47) hx hb dX6_guest_42 (by decide) ?_
        exact W.iret hx hb hr (fun t ht hW => hfin r39.1 r39.2.1 r39.2.2.1 r39.2.2.2.1 r39.2.2.2.2.1 r39.2.2.2.2.2.1 r39.2.2.2.2.2.2.1 r39.2.2.2.2.2.2.2.1 r39.2.2.2.2.2.2.2.2.1 r39.2.2.2.2.2.2.2.2.2.1 r39.2.2.2.2.2.2.2.2.2.2 hf _ t ht hP (hS.F ht)) hS.2.2 dX6_guest_47
    · have hf := zp hf c_16
      refine lv_iconst (v := (-1 : Int32)) hx hb dX6_guest_19 (by decide) ?_
      exact W.iret hx hb hr (fun t ht hW => hfin (-1 : Int32) N_laws N_kind N_holds N_gone N_tells N_drowned N_count N_course N_told N_z hf _ t ht hP (hS.F ht)) hS.2.2 dX6_guest_20
set_option maxRecDepth 100000 in
set_option maxHeartbeats 100000000 in
theorem mX6_of (l : Launch) (D : va_G) (cy : Nat → ClassId) (st sk sv : Nat → Nat) (B : Nat) (ak : Nat) (an0 : Nat) (ay0 : Nat) (ae0 : Nat) (aa0 : Nat) (aw0 : Nat) (as0 : Nat) (af0 : Nat) (ag0 : Nat) (an1 : Nat) (an2 : Nat) (an3 : Nat) (an4 : Nat) (an5 : Nat) (n : Nat) (uK : Int32) (N_laws : (Nat → Int32)) (N_kind : (Nat → Int32)) (N_holds : (Nat → Int32)) (N_gone : (Nat → Int32)) (N_tells : (Nat → Int32)) (N_drowned : Int32) (N_count : Int32) (N_course : Int32) (N_told : Int32) (N_z : Int32) (x1 : Int32) (x2 : Int32) (z : Int32) (hf : fX6_of n uK (N_laws, N_kind, N_holds, N_gone, N_tells, N_drowned, N_count, N_course, N_told, N_z) x1 x2 = some z) : Met l yX6_of wsX6_of ({ frames := 2, cells := 0, slots := 0, locals := 43 }) (PcR [.ref ak, .int x1, .int x2] D cy st sk sv B [(ak, .inr (6, [.ref an0, .ref ay0, .ref ae0, .int uK, .ref aa0, .ref aw0, .ref as0, .ref af0, .ref ag0])), (an0, .inr (4, [.ref an1, .ref an2, .ref an3, .ref an4, .ref an5, .int N_drowned, .int N_count, .int N_course, .int N_told, .int N_z])), (an1, .inl (cy 0, 4, .inl N_laws)), (an2, .inl (cy 0, 8, .inl N_kind)), (an3, .inl (cy 0, 8, .inl N_holds)), (an4, .inl (cy 0, 8, .inl N_gone)), (an5, .inl (cy 0, 8, .inl N_tells))]) (Qr (some (.int z))) 0 0 (fun _ => False) := by
  refine Met.ofW (cc := cX6_of) (maxL := 3) (ret := (some .int)) (by decide) rfl ?_
  intro p e s m args below meth c s₁ Bd hml hv
  obtain ⟨rfl, hP, hG⟩ := hv
  have hx := Bd.exec
  have hb := Bd.bytes
  have hr := Bd.returns
  have hts := atoms_spec (ws := wsX6_of) Bd.pre
  have hown : s.vm.findClass RX6 = some m.cls := findClass_of_methodNamed Bd.named
  have hlocks := Bd.notSynchronized
  have hK := hG.1
  have hS : va_S (fun q => B ≤ q) s.heap s.heap [] := va_S.rf
  have hAB : ∀ q, (fun q => B ≤ q) q → B ≤ q := fun _ h => h
  have hin4 : ∀ w ∈ u_ws RX4 TX4 10, w ∈ wsX6_of := by decide +kernel
  have hin6 : ∀ w ∈ u_ws RX6 TX6 9, w ∈ wsX6_of := by decide +kernel
  have fl10 := hts (.fieldLink RX6 10 "KinCutlery" "now" "LKinCutlery$Table;") (by decide +kernel)
  have fl105 := hts (.fieldLink RX6 105 "KinCutlery$Table" "kind" "[I") (by decide +kernel)
  have fl108 := hts (.fieldLink RX6 108 "KinCutlery$Table" "holds" "[I") (by decide +kernel)
  have fl111 := hts (.fieldLink RX6 111 "KinCutlery$Table" "gone" "[I") (by decide +kernel)
  have fl114 := hts (.fieldLink RX6 114 "KinCutlery$Table" "tells" "[I") (by decide +kernel)
  have hl := lv_entry ([.ref ak, .int x1, .int x2]) (n := 3) (Nat.le_of_ble_eq_true rfl)
  rw [lg_entry_eq]
  generalize (lg_sl ([.ref ak, .int x1, .int x2]) ++ List.replicate (3 - (lg_sl ([.ref ak, .int x1, .int x2])).length) Slot.unset).toArray = ls at hl ⊢
  have hl : lv_has ls 3 [(0, .ref ak), (1, .int x1), (2, .int x2)] := hl
  have hf : ((fX4_has n (N_laws, N_kind, N_holds, N_gone, N_tells, N_drowned, N_count, N_course, N_told, N_z) x1).bind fun r5 => if r5 = 0 then (some (-1 : Int32)) else (if x2 = (0 : Int32) then (if x1 < 0 ∨ 8 ≤ x1.toNatClampNeg then none else some (N_kind x1.toNatClampNeg)) else if x2 = (1 : Int32) then (if x1 < 0 ∨ 8 ≤ x1.toNatClampNeg then none else some (N_holds x1.toNatClampNeg)) else if x2 = (2 : Int32) then (if x1 < 0 ∨ 8 ≤ x1.toNatClampNeg then none else some (N_gone x1.toNatClampNeg)) else if x2 = (3 : Int32) then (if x1 < 0 ∨ 8 ≤ x1.toNatClampNeg then none else some (N_tells x1.toNatClampNeg)) else if x2 = (4 : Int32) then ((fX4_isDrowned n (N_laws, N_kind, N_holds, N_gone, N_tells, N_drowned, N_count, N_course, N_told, N_z) x1).bind fun r93 => if r93 = 0 then (some (0 : Int32)) else (some (1 : Int32))) else  (some (-1 : Int32)))) = some z := hf
  refine lv_aload_n hx hb dX6_of_0 rfl (lv_at hl 0 rfl) ?_
  refine va_get (D := D) (ci := 6) (v := .ref an0) (C := RX6) (T := TX6) (N := 9) hx hb hts hin6 hown hK hP 0 rfl rfl 0 (by decide) fl10 (fun _ h9 => h9) rfl dX6_of_1 ?_
  refine lv_iload_n hx hb dX6_of_4 rfl (lv_at hl 1 rfl) ?_
  obtain ⟨r5, hc5, hf⟩ := zb hf
  refine zvr (o := some (.int r5)) (As := [.int x1]) (rest := []) (stk := [.int r5]) ⟨hx, hb, hml, hown, hts⟩ (mX4_has l D cy st sk sv B an0 an1 an2 an3 an4 an5 n N_laws N_kind N_holds N_gone N_tells N_drowned N_count N_course N_told N_z x1 r5 hc5) (cwV 1 hts gX6_of_X4_has rfl rfl rfl (by decide +kernel) ⟨Nat.le_of_ble_eq_true rfl, Nat.le_of_ble_eq_true rfl⟩) hG hS hAB hP [1, 2, 3, 4, 5, 6] rfl 0 4 rfl rfl rfl rfl hl.1 rfl (Nat.le_of_ble_eq_true rfl) dX6_of_5 rfl ?_
  refine lv_if_ne (tgt := 13) hx hb dX6_of_8 (by decide) (fun c_8 => ?_) (fun c_8 => ?_)
  · have hf := zn hf c_8
    refine lv_iload_n hx hb dX6_of_13 rfl (lv_at hl 2 rfl) ?_
    by_cases c_14_0 : x2 = (0 : Int32)
    · have hf := zp hf c_14_0
      refine lv_tableIn (tgt := 48) hx hb dX6_of_14 (by rw [c_14_0]; decide) (by rw [c_14_0]; decide) (by rw [c_14_0]; rfl) (by decide) ?_
      refine lv_aload_n hx hb dX6_of_48 rfl (lv_at hl 0 rfl) ?_
      refine va_get (D := D) (ci := 6) (v := .ref an0) (C := RX6) (T := TX6) (N := 9) hx hb hts hin6 hown hK hP 0 rfl rfl 0 (by decide) fl10 (fun _ h9 => h9) rfl dX6_of_49 ?_
      refine va_get (D := D) (ci := 4) (v := .ref an2) (C := RX4) (T := TX4) (N := 10) hx hb hts hin4 hown hK hP 1 rfl rfl 1 (by decide) fl105 (fun _ h9 => h9) rfl dX6_of_52 ?_
      refine lv_iload_n hx hb dX6_of_55 rfl (lv_at hl 1 rfl) ?_
      obtain ⟨h_56, hf⟩ := zg hf
      refine va_iald hx hb hK hP 3 0 rfl rfl h_56 dX6_of_56 ?_
      cases hf
      exact W.iret hx hb hr (fun t ht hW => ⟨rfl, ht⟩) (fun q h => absurd h List.not_mem_nil) dX6_of_57
    have hf := zn hf c_14_0
    by_cases c_14_1 : x2 = (1 : Int32)
    · have hf := zp hf c_14_1
      refine lv_tableIn (tgt := 58) hx hb dX6_of_14 (by rw [c_14_1]; decide) (by rw [c_14_1]; decide) (by rw [c_14_1]; rfl) (by decide) ?_
      refine lv_aload_n hx hb dX6_of_58 rfl (lv_at hl 0 rfl) ?_
      refine va_get (D := D) (ci := 6) (v := .ref an0) (C := RX6) (T := TX6) (N := 9) hx hb hts hin6 hown hK hP 0 rfl rfl 0 (by decide) fl10 (fun _ h9 => h9) rfl dX6_of_59 ?_
      refine va_get (D := D) (ci := 4) (v := .ref an3) (C := RX4) (T := TX4) (N := 10) hx hb hts hin4 hown hK hP 1 rfl rfl 2 (by decide) fl108 (fun _ h9 => h9) rfl dX6_of_62 ?_
      refine lv_iload_n hx hb dX6_of_65 rfl (lv_at hl 1 rfl) ?_
      obtain ⟨h_66, hf⟩ := zg hf
      refine va_iald hx hb hK hP 4 0 rfl rfl h_66 dX6_of_66 ?_
      cases hf
      exact W.iret hx hb hr (fun t ht hW => ⟨rfl, ht⟩) (fun q h => absurd h List.not_mem_nil) dX6_of_67
    have hf := zn hf c_14_1
    by_cases c_14_2 : x2 = (2 : Int32)
    · have hf := zp hf c_14_2
      refine lv_tableIn (tgt := 68) hx hb dX6_of_14 (by rw [c_14_2]; decide) (by rw [c_14_2]; decide) (by rw [c_14_2]; rfl) (by decide) ?_
      refine lv_aload_n hx hb dX6_of_68 rfl (lv_at hl 0 rfl) ?_
      refine va_get (D := D) (ci := 6) (v := .ref an0) (C := RX6) (T := TX6) (N := 9) hx hb hts hin6 hown hK hP 0 rfl rfl 0 (by decide) fl10 (fun _ h9 => h9) rfl dX6_of_69 ?_
      refine va_get (D := D) (ci := 4) (v := .ref an4) (C := RX4) (T := TX4) (N := 10) hx hb hts hin4 hown hK hP 1 rfl rfl 3 (by decide) fl111 (fun _ h9 => h9) rfl dX6_of_72 ?_
      refine lv_iload_n hx hb dX6_of_75 rfl (lv_at hl 1 rfl) ?_
      obtain ⟨h_76, hf⟩ := zg hf
      refine va_iald hx hb hK hP 5 0 rfl rfl h_76 dX6_of_76 ?_
      cases hf
      exact W.iret hx hb hr (fun t ht hW => ⟨rfl, ht⟩) (fun q h => absurd h List.not_mem_nil) dX6_of_77
    have hf := zn hf c_14_2
    by_cases c_14_3 : x2 = (3 : Int32)
    · have hf := zp hf c_14_3
      refine lv_tableIn (tgt := 78) hx hb dX6_of_14 (by rw [c_14_3]; decide) (by rw [c_14_3]; decide) (by rw [c_14_3]; rfl) (by decide) ?_
      refine lv_aload_n hx hb dX6_of_78 rfl (lv_at hl 0 rfl) ?_
      refine va_get (D := D) (ci := 6) (v := .ref an0) (C := RX6) (T := TX6) (N := 9) hx hb hts hin6 hown hK hP 0 rfl rfl 0 (by decide) fl10 (fun _ h9 => h9) rfl dX6_of_79 ?_
      refine va_get (D := D) (ci := 4) (v := .ref an5) (C := RX4) (T := TX4) (N := 10) hx hb hts hin4 hown hK hP 1 rfl rfl 4 (by decide) fl114 (fun _ h9 => h9) rfl dX6_of_82 ?_
      refine lv_iload_n hx hb dX6_of_85 rfl (lv_at hl 1 rfl) ?_
      obtain ⟨h_86, hf⟩ := zg hf
      refine va_iald hx hb hK hP 6 0 rfl rfl h_86 dX6_of_86 ?_
      cases hf
      exact W.iret hx hb hr (fun t ht hW => ⟨rfl, ht⟩) (fun q h => absurd h List.not_mem_nil) dX6_of_87
    have hf := zn hf c_14_3
    by_cases c_14_4 : x2 = (4 : Int32)
    · have hf := zp hf c_14_4
      refine lv_tableIn (tgt := 88) hx hb dX6_of_14 (by rw [c_14_4]; decide) (by rw [c_14_4]; decide) (by rw [c_14_4]; rfl) (by decide) ?_
      refine lv_aload_n hx hb dX6_of_88 rfl (lv_at hl 0 rfl) ?_
      refine va_get (D := D) (ci := 6) (v := .ref an0) (C := RX6) (T := TX6) (N := 9) hx hb hts hin6 hown hK hP 0 rfl rfl 0 (by decide) fl10 (fun _ h9 => h9) rfl dX6_of_89 ?_
      refine lv_iload_n hx hb dX6_of_92 rfl (lv_at hl 1 rfl) ?_
      obtain ⟨r93, hc93, hf⟩ := zb hf
      refine zvr (o := some (.int r93)) (As := [.int x1]) (rest := []) (stk := [.int r93]) ⟨hx, hb, hml, hown, hts⟩ (mX4_isDrowned l D cy st sk sv B an0 an1 an2 an3 an4 an5 n N_laws N_kind N_holds N_gone N_tells N_drowned N_count N_course N_told N_z x1 r93 hc93) (cwV 1 hts gX6_of_X4_isDrowned rfl rfl rfl (by decide +kernel) ⟨Nat.le_of_ble_eq_true rfl, Nat.le_of_ble_eq_true rfl⟩) hG hS hAB hP [1, 2, 3, 4, 5, 6] rfl 0 4 rfl rfl rfl rfl hl.1 rfl (Nat.le_of_ble_eq_true rfl) dX6_of_93 rfl ?_
      refine lv_if_eq (tgt := 103) hx hb dX6_of_96 (by decide) (fun c_96 => ?_) (fun c_96 => ?_)
      · have hf := zp hf c_96
        refine lv_iconst (v := (0 : Int32)) hx hb dX6_of_103 (by decide) ?_
        cases hf
        exact W.iret hx hb hr (fun t ht hW => ⟨rfl, ht⟩) (fun q h => absurd h List.not_mem_nil) dX6_of_104
      · have hf := zn hf c_96
        refine lv_iconst (v := (1 : Int32)) hx hb dX6_of_99 (by decide) ?_
        refine lv_goto (tgt := 104) hx hb dX6_of_100 (by decide) ?_
        cases hf
        exact W.iret hx hb hr (fun t ht hW => ⟨rfl, ht⟩) (fun q h => absurd h List.not_mem_nil) dX6_of_104
    have hf := zn hf c_14_4
    have e_14_0 : ¬ x2.toInt = 0 := fun h => c_14_0 (Int32.toInt_inj.mp (h.trans (by decide)))
    have e_14_1 : ¬ x2.toInt = 1 := fun h => c_14_1 (Int32.toInt_inj.mp (h.trans (by decide)))
    have e_14_2 : ¬ x2.toInt = 2 := fun h => c_14_2 (Int32.toInt_inj.mp (h.trans (by decide)))
    have e_14_3 : ¬ x2.toInt = 3 := fun h => c_14_3 (Int32.toInt_inj.mp (h.trans (by decide)))
    have e_14_4 : ¬ x2.toInt = 4 := fun h => c_14_4 (Int32.toInt_inj.mp (h.trans (by decide)))
    refine lv_tableOut (tgt := 105) hx hb dX6_of_14 (by omega) (by decide) ?_
    refine lv_iconst (v := (-1 : Int32)) hx hb dX6_of_105 (by decide) ?_
    cases hf
    exact W.iret hx hb hr (fun t ht hW => ⟨rfl, ht⟩) (fun q h => absurd h List.not_mem_nil) dX6_of_106
  · have hf := zp hf c_8
    refine lv_iconst (v := (-1 : Int32)) hx hb dX6_of_11 (by decide) ?_
    cases hf
    exact W.iret hx hb hr (fun t ht hW => ⟨rfl, ht⟩) (fun q h => absurd h List.not_mem_nil) dX6_of_12
set_option maxRecDepth 100000 in
set_option maxHeartbeats 100000000 in
theorem mX6_does (l : Launch) (D : va_G) (cy : Nat → ClassId) (st sk sv : Nat → Nat) (B : Nat) (ak : Nat) (an0 : Nat) (ay0 : Nat) (ae0 : Nat) (aa0 : Nat) (aw0 : Nat) (as0 : Nat) (af0 : Nat) (ag0 : Nat) (an1 : Nat) (an2 : Nat) (an3 : Nat) (an4 : Nat) (an5 : Nat) (n : Nat) (uK : Int32) (N_laws : (Nat → Int32)) (N_kind : (Nat → Int32)) (N_holds : (Nat → Int32)) (N_gone : (Nat → Int32)) (N_tells : (Nat → Int32)) (N_drowned : Int32) (N_count : Int32) (N_course : Int32) (N_told : Int32) (N_z : Int32) (x1 : Int32) (x2 : Int32) (z : Int32) (hf : fX6_does n uK (N_laws, N_kind, N_holds, N_gone, N_tells, N_drowned, N_count, N_course, N_told, N_z) x1 x2 = some z) : Met l yX6_does wsX6_does ({ frames := 2, cells := 0, slots := 0, locals := 43 }) (PcR [.ref ak, .int x1, .int x2] D cy st sk sv B [(ak, .inr (6, [.ref an0, .ref ay0, .ref ae0, .int uK, .ref aa0, .ref aw0, .ref as0, .ref af0, .ref ag0])), (an0, .inr (4, [.ref an1, .ref an2, .ref an3, .ref an4, .ref an5, .int N_drowned, .int N_count, .int N_course, .int N_told, .int N_z])), (an1, .inl (cy 0, 4, .inl N_laws)), (an2, .inl (cy 0, 8, .inl N_kind)), (an3, .inl (cy 0, 8, .inl N_holds)), (an4, .inl (cy 0, 8, .inl N_gone)), (an5, .inl (cy 0, 8, .inl N_tells))]) (Qr (some (.int z))) 0 0 (fun _ => False) := by
  refine Met.ofW (cc := cX6_does) (maxL := 3) (ret := (some .int)) (by decide) rfl ?_
  intro p e s m args below meth c s₁ Bd hml hv
  obtain ⟨rfl, hP, hG⟩ := hv
  have hx := Bd.exec
  have hb := Bd.bytes
  have hr := Bd.returns
  have hts := atoms_spec (ws := wsX6_does) Bd.pre
  have hown : s.vm.findClass RX6 = some m.cls := findClass_of_methodNamed Bd.named
  have hlocks := Bd.notSynchronized
  have hK := hG.1
  have hS : va_S (fun q => B ≤ q) s.heap s.heap [] := va_S.rf
  have hAB : ∀ q, (fun q => B ≤ q) q → B ≤ q := fun _ h => h
  have hin6 : ∀ w ∈ u_ws RX6 TX6 9, w ∈ wsX6_does := by decide +kernel
  have fl10 := hts (.fieldLink RX6 10 "KinCutlery" "now" "LKinCutlery$Table;") (by decide +kernel)
  have hl := lv_entry ([.ref ak, .int x1, .int x2]) (n := 3) (Nat.le_of_ble_eq_true rfl)
  rw [lg_entry_eq]
  generalize (lg_sl ([.ref ak, .int x1, .int x2]) ++ List.replicate (3 - (lg_sl ([.ref ak, .int x1, .int x2])).length) Slot.unset).toArray = ls at hl ⊢
  have hl : lv_has ls 3 [(0, .ref ak), (1, .int x1), (2, .int x2)] := hl
  have hf : ((fX4_has n (N_laws, N_kind, N_holds, N_gone, N_tells, N_drowned, N_count, N_course, N_told, N_z) x1).bind fun r5 => if r5 = 0 then (some (-1 : Int32)) else (if x2 = (0 : Int32) then ((fX4_takes n (N_laws, N_kind, N_holds, N_gone, N_tells, N_drowned, N_count, N_course, N_told, N_z) x1).bind fun r48 => some ((1000 : Int32) + r48)) else if x2 = (1 : Int32) then ((fX4_needs n (N_laws, N_kind, N_holds, N_gone, N_tells, N_drowned, N_count, N_course, N_told, N_z) x1).bind fun r61 => some ((1000 : Int32) + r61)) else if x2 = (2 : Int32) then ((fX4_costs n (N_laws, N_kind, N_holds, N_gone, N_tells, N_drowned, N_count, N_course, N_told, N_z) x1).bind fun r74 => some ((1000 : Int32) + r74)) else  (some (-1 : Int32)))) = some z := hf
  refine lv_aload_n hx hb dX6_does_0 rfl (lv_at hl 0 rfl) ?_
  refine va_get (D := D) (ci := 6) (v := .ref an0) (C := RX6) (T := TX6) (N := 9) hx hb hts hin6 hown hK hP 0 rfl rfl 0 (by decide) fl10 (fun _ h9 => h9) rfl dX6_does_1 ?_
  refine lv_iload_n hx hb dX6_does_4 rfl (lv_at hl 1 rfl) ?_
  obtain ⟨r5, hc5, hf⟩ := zb hf
  refine zvr (o := some (.int r5)) (As := [.int x1]) (rest := []) (stk := [.int r5]) ⟨hx, hb, hml, hown, hts⟩ (mX4_has l D cy st sk sv B an0 an1 an2 an3 an4 an5 n N_laws N_kind N_holds N_gone N_tells N_drowned N_count N_course N_told N_z x1 r5 hc5) (cwV 1 hts gX6_does_X4_has rfl rfl rfl (by decide +kernel) ⟨Nat.le_of_ble_eq_true rfl, Nat.le_of_ble_eq_true rfl⟩) hG hS hAB hP [1, 2, 3, 4, 5, 6] rfl 0 4 rfl rfl rfl rfl hl.1 rfl (Nat.le_of_ble_eq_true rfl) dX6_does_5 rfl ?_
  refine lv_if_ne (tgt := 13) hx hb dX6_does_8 (by decide) (fun c_8 => ?_) (fun c_8 => ?_)
  · have hf := zn hf c_8
    refine lv_iload_n hx hb dX6_does_13 rfl (lv_at hl 2 rfl) ?_
    by_cases c_14_0 : x2 = (0 : Int32)
    · have hf := zp hf c_14_0
      refine lv_tableIn (tgt := 40) hx hb dX6_does_14 (by rw [c_14_0]; decide) (by rw [c_14_0]; decide) (by rw [c_14_0]; rfl) (by decide) ?_
      refine lv_sipush (v := (1000 : Int32)) hx hb dX6_does_40 (by decide) ?_
      refine lv_aload_n hx hb dX6_does_43 rfl (lv_at hl 0 rfl) ?_
      refine va_get (D := D) (ci := 6) (v := .ref an0) (C := RX6) (T := TX6) (N := 9) hx hb hts hin6 hown hK hP 0 rfl rfl 0 (by decide) fl10 (fun _ h9 => h9) rfl dX6_does_44 ?_
      refine lv_iload_n hx hb dX6_does_47 rfl (lv_at hl 1 rfl) ?_
      obtain ⟨r48, hc48, hf⟩ := zb hf
      refine zvr (o := some (.int r48)) (As := [.int x1]) (rest := [.int (1000 : Int32)]) (stk := [.int r48, .int (1000 : Int32)]) ⟨hx, hb, hml, hown, hts⟩ (mX4_takes l D cy st sk sv B an0 an1 an2 an3 an4 an5 n N_laws N_kind N_holds N_gone N_tells N_drowned N_count N_course N_told N_z x1 r48 hc48) (cwV 1 hts gX6_does_X4_takes rfl rfl rfl (by decide +kernel) ⟨Nat.le_of_ble_eq_true rfl, Nat.le_of_ble_eq_true rfl⟩) hG hS hAB hP [1, 2, 3, 4, 5, 6] rfl 0 4 rfl rfl rfl rfl hl.1 rfl (Nat.le_of_ble_eq_true rfl) dX6_does_48 rfl ?_
      refine lv_iadd hx hb dX6_does_51 ?_
      cases hf
      exact W.iret hx hb hr (fun t ht hW => ⟨rfl, ht⟩) (fun q h => absurd h List.not_mem_nil) dX6_does_52
    have hf := zn hf c_14_0
    by_cases c_14_1 : x2 = (1 : Int32)
    · have hf := zp hf c_14_1
      refine lv_tableIn (tgt := 53) hx hb dX6_does_14 (by rw [c_14_1]; decide) (by rw [c_14_1]; decide) (by rw [c_14_1]; rfl) (by decide) ?_
      refine lv_sipush (v := (1000 : Int32)) hx hb dX6_does_53 (by decide) ?_
      refine lv_aload_n hx hb dX6_does_56 rfl (lv_at hl 0 rfl) ?_
      refine va_get (D := D) (ci := 6) (v := .ref an0) (C := RX6) (T := TX6) (N := 9) hx hb hts hin6 hown hK hP 0 rfl rfl 0 (by decide) fl10 (fun _ h9 => h9) rfl dX6_does_57 ?_
      refine lv_iload_n hx hb dX6_does_60 rfl (lv_at hl 1 rfl) ?_
      obtain ⟨r61, hc61, hf⟩ := zb hf
      refine zvr (o := some (.int r61)) (As := [.int x1]) (rest := [.int (1000 : Int32)]) (stk := [.int r61, .int (1000 : Int32)]) ⟨hx, hb, hml, hown, hts⟩ (mX4_needs l D cy st sk sv B an0 an1 an2 an3 an4 an5 n N_laws N_kind N_holds N_gone N_tells N_drowned N_count N_course N_told N_z x1 r61 hc61) (cwV 1 hts gX6_does_X4_needs rfl rfl rfl (by decide +kernel) ⟨Nat.le_of_ble_eq_true rfl, Nat.le_of_ble_eq_true rfl⟩) hG hS hAB hP [1, 2, 3, 4, 5, 6] rfl 0 4 rfl rfl rfl rfl hl.1 rfl (Nat.le_of_ble_eq_true rfl) dX6_does_61 rfl ?_
      refine lv_iadd hx hb dX6_does_64 ?_
      cases hf
      exact W.iret hx hb hr (fun t ht hW => ⟨rfl, ht⟩) (fun q h => absurd h List.not_mem_nil) dX6_does_65
    have hf := zn hf c_14_1
    by_cases c_14_2 : x2 = (2 : Int32)
    · have hf := zp hf c_14_2
      refine lv_tableIn (tgt := 66) hx hb dX6_does_14 (by rw [c_14_2]; decide) (by rw [c_14_2]; decide) (by rw [c_14_2]; rfl) (by decide) ?_
      refine lv_sipush (v := (1000 : Int32)) hx hb dX6_does_66 (by decide) ?_
      refine lv_aload_n hx hb dX6_does_69 rfl (lv_at hl 0 rfl) ?_
      refine va_get (D := D) (ci := 6) (v := .ref an0) (C := RX6) (T := TX6) (N := 9) hx hb hts hin6 hown hK hP 0 rfl rfl 0 (by decide) fl10 (fun _ h9 => h9) rfl dX6_does_70 ?_
      refine lv_iload_n hx hb dX6_does_73 rfl (lv_at hl 1 rfl) ?_
      obtain ⟨r74, hc74, hf⟩ := zb hf
      refine zvr (o := some (.int r74)) (As := [.int x1]) (rest := [.int (1000 : Int32)]) (stk := [.int r74, .int (1000 : Int32)]) ⟨hx, hb, hml, hown, hts⟩ (mX4_costs l D cy st sk sv B an0 an1 an2 an3 an4 an5 n N_laws N_kind N_holds N_gone N_tells N_drowned N_count N_course N_told N_z x1 r74 hc74) (cwV 1 hts gX6_does_X4_costs rfl rfl rfl (by decide +kernel) ⟨Nat.le_of_ble_eq_true rfl, Nat.le_of_ble_eq_true rfl⟩) hG hS hAB hP [1, 2, 3, 4, 5, 6] rfl 0 4 rfl rfl rfl rfl hl.1 rfl (Nat.le_of_ble_eq_true rfl) dX6_does_74 rfl ?_
      refine lv_iadd hx hb dX6_does_77 ?_
      cases hf
      exact W.iret hx hb hr (fun t ht hW => ⟨rfl, ht⟩) (fun q h => absurd h List.not_mem_nil) dX6_does_78
    have hf := zn hf c_14_2
    have e_14_0 : ¬ x2.toInt = 0 := fun h => c_14_0 (Int32.toInt_inj.mp (h.trans (by decide)))
    have e_14_1 : ¬ x2.toInt = 1 := fun h => c_14_1 (Int32.toInt_inj.mp (h.trans (by decide)))
    have e_14_2 : ¬ x2.toInt = 2 := fun h => c_14_2 (Int32.toInt_inj.mp (h.trans (by decide)))
    refine lv_tableOut (tgt := 79) hx hb dX6_does_14 (by omega) (by decide) ?_
    refine lv_iconst (v := (-1 : Int32)) hx hb dX6_does_79 (by decide) ?_
    cases hf
    exact W.iret hx hb hr (fun t ht hW => ⟨rfl, ht⟩) (fun q h => absurd h List.not_mem_nil) dX6_does_80
  · have hf := zp hf c_8
    refine lv_iconst (v := (-1 : Int32)) hx hb dX6_does_11 (by decide) ?_
    cases hf
    exact W.iret hx hb hr (fun t ht hW => ⟨rfl, ht⟩) (fun q h => absurd h List.not_mem_nil) dX6_does_12
set_option maxRecDepth 100000 in
set_option maxHeartbeats 100000000 in
theorem mX6_mind (l : Launch) (D : va_G) (cy : Nat → ClassId) (st sk sv : Nat → Nat) (B : Nat) (ak : Nat) (an0 : Nat) (ay0 : Nat) (ae0 : Nat) (aa0 : Nat) (aw0 : Nat) (as0 : Nat) (af0 : Nat) (ag0 : Nat) (an1 : Nat) (an2 : Nat) (an3 : Nat) (an4 : Nat) (an5 : Nat) (sz : Nat) (n : Nat) (uK : Int32) (N_laws : (Nat → Int32)) (N_kind : (Nat → Int32)) (N_holds : (Nat → Int32)) (N_gone : (Nat → Int32)) (N_tells : (Nat → Int32)) (N_drowned : Int32) (N_count : Int32) (N_course : Int32) (N_told : Int32) (N_z : Int32) (x1 : Int32) (x2 : Int32) (z : Int32 × TB) (hf : fX6_mind n uK (N_laws, N_kind, N_holds, N_gone, N_tells, N_drowned, N_count, N_course, N_told, N_z) x1 x2 = some z) : Met l yX6_mind wsX6_mind ({ frames := 2, cells := 0, slots := 0, locals := 43 }) (PcW [.ref ak, .int x1, .int x2] D cy st sk sv B sz [(ak, .inr (6, [.ref an0, .ref ay0, .ref ae0, .int uK, .ref aa0, .ref aw0, .ref as0, .ref af0, .ref ag0])), (an0, .inr (4, [.ref an1, .ref an2, .ref an3, .ref an4, .ref an5, .int N_drowned, .int N_count, .int N_course, .int N_told, .int N_z])), (an1, .inl (cy 0, 4, .inl N_laws)), (an2, .inl (cy 0, 8, .inl N_kind)), (an3, .inl (cy 0, 8, .inl N_holds)), (an4, .inl (cy 0, 8, .inl N_gone)), (an5, .inl (cy 0, 8, .inl N_tells))]) (Qw (some (.int z.1)) D [(ak, .inr (6, [.ref an0, .ref ay0, .ref ae0, .int uK, .ref aa0, .ref aw0, .ref as0, .ref af0, .ref ag0])), (an0, .inr (4, [.ref an1, .ref an2, .ref an3, .ref an4, .ref an5, .int z.2.2.2.2.2.2.1, .int z.2.2.2.2.2.2.2.1, .int z.2.2.2.2.2.2.2.2.1, .int z.2.2.2.2.2.2.2.2.2.1, .int z.2.2.2.2.2.2.2.2.2.2])), (an1, .inl (cy 0, 4, .inl z.2.1)), (an2, .inl (cy 0, 8, .inl z.2.2.1)), (an3, .inl (cy 0, 8, .inl z.2.2.2.1)), (an4, .inl (cy 0, 8, .inl z.2.2.2.2.1)), (an5, .inl (cy 0, 8, .inl z.2.2.2.2.2.1))] (va_A [(ak, .inr (6, [.ref an0, .ref ay0, .ref ae0, .int uK, .ref aa0, .ref aw0, .ref as0, .ref af0, .ref ag0])), (an0, .inr (4, [.ref an1, .ref an2, .ref an3, .ref an4, .ref an5, .int N_drowned, .int N_count, .int N_course, .int N_told, .int N_z])), (an1, .inl (cy 0, 4, .inl N_laws)), (an2, .inl (cy 0, 8, .inl N_kind)), (an3, .inl (cy 0, 8, .inl N_holds)), (an4, .inl (cy 0, 8, .inl N_gone)), (an5, .inl (cy 0, 8, .inl N_tells))] sz)) 0 0 (va_A [(ak, .inr (6, [.ref an0, .ref ay0, .ref ae0, .int uK, .ref aa0, .ref aw0, .ref as0, .ref af0, .ref ag0])), (an0, .inr (4, [.ref an1, .ref an2, .ref an3, .ref an4, .ref an5, .int N_drowned, .int N_count, .int N_course, .int N_told, .int N_z])), (an1, .inl (cy 0, 4, .inl N_laws)), (an2, .inl (cy 0, 8, .inl N_kind)), (an3, .inl (cy 0, 8, .inl N_holds)), (an4, .inl (cy 0, 8, .inl N_gone)), (an5, .inl (cy 0, 8, .inl N_tells))] sz) := by
  refine Met.ofW (cc := cX6_mind) (maxL := 4) (ret := (some .int)) (by decide) rfl ?_
  intro p e s m args below meth c s₁ Bd hml hv
  obtain ⟨rfl, hsz, hP, hD0, hBs, hG⟩ := hv
  have hx := Bd.exec
  have hb := Bd.bytes
  have hr := Bd.returns
  have hts := atoms_spec (ws := wsX6_mind) Bd.pre
  have hown : s.vm.findClass RX6 = some m.cls := findClass_of_methodNamed Bd.named
  have hlocks := Bd.notSynchronized
  have hK := hG.1
  subst hsz
  have hD := hD0.self (sz := s.heap.size)
  have hAB0 := zA hD0 hBs
  generalize hAe : va_A [(ak, .inr (6, [.ref an0, .ref ay0, .ref ae0, .int uK, .ref aa0, .ref aw0, .ref as0, .ref af0, .ref ag0])), (an0, .inr (4, [.ref an1, .ref an2, .ref an3, .ref an4, .ref an5, .int N_drowned, .int N_count, .int N_course, .int N_told, .int N_z])), (an1, .inl (cy 0, 4, .inl N_laws)), (an2, .inl (cy 0, 8, .inl N_kind)), (an3, .inl (cy 0, 8, .inl N_holds)), (an4, .inl (cy 0, 8, .inl N_gone)), (an5, .inl (cy 0, 8, .inl N_tells))] s.heap.size = A at hD hAB0 ⊢
  have hA : ∀ q : Nat, s.heap.size ≤ q → A q := fun q h => by rw [← hAe]; exact Or.inr h
  have hAB : ∀ q, A q → B ≤ q := hAB0
  have hS : va_S A s.heap s.heap [] := va_S.rf
  have hfin : ∀ (z0 : Int32) (N_laws : (Nat → Int32)) (N_kind : (Nat → Int32)) (N_holds : (Nat → Int32)) (N_gone : (Nat → Int32)) (N_tells : (Nat → Int32)) (N_drowned : Int32) (N_count : Int32) (N_course : Int32) (N_told : Int32) (N_z : Int32), some (z0, (N_laws, N_kind, N_holds, N_gone, N_tells, N_drowned, N_count, N_course, N_told, N_z)) = some z → ∀ (H : Heap) (t : State), t.heap = H → va_P D vwCl [(ak, .inr (6, [.ref an0, .ref ay0, .ref ae0, .int uK, .ref aa0, .ref aw0, .ref as0, .ref af0, .ref ag0])), (an0, .inr (4, [.ref an1, .ref an2, .ref an3, .ref an4, .ref an5, .int N_drowned, .int N_count, .int N_course, .int N_told, .int N_z])), (an1, .inl (cy 0, 4, .inl N_laws)), (an2, .inl (cy 0, 8, .inl N_kind)), (an3, .inl (cy 0, 8, .inl N_holds)), (an4, .inl (cy 0, 8, .inl N_gone)), (an5, .inl (cy 0, 8, .inl N_tells))] H → va_F A s t → Qw (some (.int z.1)) D [(ak, .inr (6, [.ref an0, .ref ay0, .ref ae0, .int uK, .ref aa0, .ref aw0, .ref as0, .ref af0, .ref ag0])), (an0, .inr (4, [.ref an1, .ref an2, .ref an3, .ref an4, .ref an5, .int z.2.2.2.2.2.2.1, .int z.2.2.2.2.2.2.2.1, .int z.2.2.2.2.2.2.2.2.1, .int z.2.2.2.2.2.2.2.2.2.1, .int z.2.2.2.2.2.2.2.2.2.2])), (an1, .inl (cy 0, 4, .inl z.2.1)), (an2, .inl (cy 0, 8, .inl z.2.2.1)), (an3, .inl (cy 0, 8, .inl z.2.2.2.1)), (an4, .inl (cy 0, 8, .inl z.2.2.2.2.1)), (an5, .inl (cy 0, 8, .inl z.2.2.2.2.2.1))] A ([.ref ak, .int x1, .int x2] : List Value).toArray s (.returned (some (.int z0))) t := by
    intro z0 N_laws N_kind N_holds N_gone N_tells N_drowned N_count N_course N_told N_z h9 H t ht hP hF
    cases h9
    exact ⟨rfl, by rw [ht]; exact hP, hF⟩
  have hin4 : ∀ w ∈ u_ws RX4 TX4 10, w ∈ wsX6_mind := by decide +kernel
  have hin6 : ∀ w ∈ u_ws RX6 TX6 9, w ∈ wsX6_mind := by decide +kernel
  have fl10 := hts (.fieldLink RX6 10 "KinCutlery" "now" "LKinCutlery$Table;") (by decide +kernel)
  have fl105 := hts (.fieldLink RX6 105 "KinCutlery$Table" "kind" "[I") (by decide +kernel)
  have hl := lv_entry ([.ref ak, .int x1, .int x2]) (n := 4) (Nat.le_of_ble_eq_true rfl)
  rw [lg_entry_eq]
  generalize (lg_sl ([.ref ak, .int x1, .int x2]) ++ List.replicate (4 - (lg_sl ([.ref ak, .int x1, .int x2])).length) Slot.unset).toArray = ls at hl ⊢
  have hl : lv_has ls 4 [(0, .ref ak), (1, .int x1), (2, .int x2)] := hl
  have hf : ((fX4_has n (N_laws, N_kind, N_holds, N_gone, N_tells, N_drowned, N_count, N_course, N_told, N_z) x1).bind fun r5 => if r5 = 0 then (some ((-1 : Int32), (N_laws, N_kind, N_holds, N_gone, N_tells, N_drowned, N_count, N_course, N_told, N_z))) else ((fX6_within n x2 (0 : Int32) (5 : Int32)).bind fun r14 => if r14 = 0 then (some ((-1 : Int32), (N_laws, N_kind, N_holds, N_gone, N_tells, N_drowned, N_count, N_course, N_told, N_z))) else (if x1 < 0 ∨ 8 ≤ x1.toNatClampNeg then none else if x1 < 0 ∨ 8 ≤ x1.toNatClampNeg then none else some ((N_kind x1.toNatClampNeg), (N_laws, (upd N_kind x1.toNatClampNeg x2), N_holds, N_gone, N_tells, N_drowned, N_count, N_course, N_told, N_z))))) = some z := hf
  refine lv_aload_n hx hb dX6_mind_0 rfl (lv_at hl 0 rfl) ?_
  refine va_get (D := D) (ci := 6) (v := .ref an0) (C := RX6) (T := TX6) (N := 9) hx hb hts hin6 hown hK hP 0 rfl rfl 0 (by decide) fl10 (fun _ h9 => h9) rfl dX6_mind_1 ?_
  refine lv_iload_n hx hb dX6_mind_4 rfl (lv_at hl 1 rfl) ?_
  obtain ⟨r5, hc5, hf⟩ := zb hf
  refine zvr (o := some (.int r5)) (As := [.int x1]) (rest := []) (stk := [.int r5]) ⟨hx, hb, hml, hown, hts⟩ (mX4_has l D cy st sk sv B an0 an1 an2 an3 an4 an5 n N_laws N_kind N_holds N_gone N_tells N_drowned N_count N_course N_told N_z x1 r5 hc5) (cwV 1 hts gX6_mind_X4_has rfl rfl rfl (by decide +kernel) ⟨Nat.le_of_ble_eq_true rfl, Nat.le_of_ble_eq_true rfl⟩) hG hS hAB hP [1, 2, 3, 4, 5, 6] rfl 0 4 rfl rfl rfl rfl hl.1 rfl (Nat.le_of_ble_eq_true rfl) dX6_mind_5 rfl ?_
  refine lv_if_eq (tgt := 20) hx hb dX6_mind_8 (by decide) (fun c_8 => ?_) (fun c_8 => ?_)
  · have hf := zp hf c_8
    refine lv_iconst (v := (-1 : Int32)) hx hb dX6_mind_20 (by decide) ?_
    exact W.iret hx hb hr (fun t ht hW => hfin (-1 : Int32) N_laws N_kind N_holds N_gone N_tells N_drowned N_count N_course N_told N_z hf _ t ht hP (hS.F ht)) hS.2.2 dX6_mind_21
  · have hf := zn hf c_8
    refine lv_iload_n hx hb dX6_mind_11 rfl (lv_at hl 2 rfl) ?_
    refine lv_iconst (v := (0 : Int32)) hx hb dX6_mind_12 (by decide) ?_
    refine lv_iconst (v := (5 : Int32)) hx hb dX6_mind_13 (by decide) ?_
    obtain ⟨r14, hc14, hf⟩ := zb hf
    refine zsr (o := some (.int r14)) (As := [.int x2, .int (0 : Int32), .int (5 : Int32)]) (rest := []) (stk := [.int r14]) ⟨hx, hb, hml, hown, hts⟩ (mX6_within l D cy st sk sv B  n x2 (0 : Int32) (5 : Int32) r14 hc14) (va_cwS 3 hts gX6_mind_X6_within rfl rfl rfl (by decide +kernel) ⟨Nat.le_of_ble_eq_true rfl, Nat.le_of_ble_eq_true rfl⟩) hG hS hAB hP [] rfl rfl hl.1 rfl (Nat.le_of_ble_eq_true rfl) dX6_mind_14 rfl ?_
    refine lv_if_ne (tgt := 22) hx hb dX6_mind_17 (by decide) (fun c_17 => ?_) (fun c_17 => ?_)
    · have hf := zn hf c_17
      refine lv_aload_n hx hb dX6_mind_22 rfl (lv_at hl 0 rfl) ?_
      refine va_get (D := D) (ci := 6) (v := .ref an0) (C := RX6) (T := TX6) (N := 9) hx hb hts hin6 hown hK hP 0 rfl rfl 0 (by decide) fl10 (fun _ h9 => h9) rfl dX6_mind_23 ?_
      refine va_get (D := D) (ci := 4) (v := .ref an2) (C := RX4) (T := TX4) (N := 10) hx hb hts hin4 hown hK hP 1 rfl rfl 1 (by decide) fl105 (fun _ h9 => h9) rfl dX6_mind_26 ?_
      refine lv_iload_n hx hb dX6_mind_29 rfl (lv_at hl 1 rfl) ?_
      obtain ⟨h_30, hf⟩ := zg hf
      refine va_iald hx hb hK hP 3 0 rfl rfl h_30 dX6_mind_30 ?_
      refine lv_istore_n (lv' := [(3, .int (N_kind x1.toNatClampNeg)), (0, .ref ak), (1, .int x1), (2, .int x2)]) hx hb dX6_mind_31 rfl hl (by decide) rfl (fun ls hl => ?_)
      refine lv_aload_n hx hb dX6_mind_32 rfl (lv_at hl 1 rfl) ?_
      refine va_get (D := D) (ci := 6) (v := .ref an0) (C := RX6) (T := TX6) (N := 9) hx hb hts hin6 hown hK hP 0 rfl rfl 0 (by decide) fl10 (fun _ h9 => h9) rfl dX6_mind_33 ?_
      refine va_get (D := D) (ci := 4) (v := .ref an2) (C := RX4) (T := TX4) (N := 10) hx hb hts hin4 hown hK hP 1 rfl rfl 1 (by decide) fl105 (fun _ h9 => h9) rfl dX6_mind_36 ?_
      refine lv_iload_n hx hb dX6_mind_39 rfl (lv_at hl 2 rfl) ?_
      refine lv_iload_n hx hb dX6_mind_40 rfl (lv_at hl 3 rfl) ?_
      obtain ⟨h_41, hf⟩ := zg hf
      refine va_iast hx hb hK hP hD hS 3 0 rfl rfl h_41 dX6_mind_41 (fun H locs hP hD hS => ?_)
      have hP : va_P D vwCl [(ak, .inr (6, [.ref an0, .ref ay0, .ref ae0, .int uK, .ref aa0, .ref aw0, .ref as0, .ref af0, .ref ag0])), (an0, .inr (4, [.ref an1, .ref an2, .ref an3, .ref an4, .ref an5, .int N_drowned, .int N_count, .int N_course, .int N_told, .int N_z])), (an1, .inl (cy 0, 4, .inl N_laws)), (an2, .inl (cy 0, 8, .inl (upd N_kind x1.toNatClampNeg x2))), (an3, .inl (cy 0, 8, .inl N_holds)), (an4, .inl (cy 0, 8, .inl N_gone)), (an5, .inl (cy 0, 8, .inl N_tells))] H := hP
      have hD : va_D A [(ak, .inr (6, [.ref an0, .ref ay0, .ref ae0, .int uK, .ref aa0, .ref aw0, .ref as0, .ref af0, .ref ag0])), (an0, .inr (4, [.ref an1, .ref an2, .ref an3, .ref an4, .ref an5, .int N_drowned, .int N_count, .int N_course, .int N_told, .int N_z])), (an1, .inl (cy 0, 4, .inl N_laws)), (an2, .inl (cy 0, 8, .inl (upd N_kind x1.toNatClampNeg x2))), (an3, .inl (cy 0, 8, .inl N_holds)), (an4, .inl (cy 0, 8, .inl N_gone)), (an5, .inl (cy 0, 8, .inl N_tells))] := hD
      refine lv_iload_n hx hb dX6_mind_42 rfl (lv_at hl 0 rfl) ?_
      exact W.iret hx hb hr (fun t ht hW => hfin (N_kind x1.toNatClampNeg) N_laws (upd N_kind x1.toNatClampNeg x2) N_holds N_gone N_tells N_drowned N_count N_course N_told N_z hf _ t ht hP (hS.F ht)) hS.2.2 dX6_mind_43
    · have hf := zp hf c_17
      refine lv_iconst (v := (-1 : Int32)) hx hb dX6_mind_20 (by decide) ?_
      exact W.iret hx hb hr (fun t ht hW => hfin (-1 : Int32) N_laws N_kind N_holds N_gone N_tells N_drowned N_count N_course N_told N_z hf _ t ht hP (hS.F ht)) hS.2.2 dX6_mind_21
set_option maxRecDepth 100000 in
set_option maxHeartbeats 100000000 in
theorem mX6_give (l : Launch) (D : va_G) (cy : Nat → ClassId) (st sk sv : Nat → Nat) (B : Nat) (ak : Nat) (an0 : Nat) (ay0 : Nat) (ae0 : Nat) (aa0 : Nat) (aw0 : Nat) (as0 : Nat) (af0 : Nat) (ag0 : Nat) (an1 : Nat) (an2 : Nat) (an3 : Nat) (an4 : Nat) (an5 : Nat) (sz : Nat) (n : Nat) (uK : Int32) (N_laws : (Nat → Int32)) (N_kind : (Nat → Int32)) (N_holds : (Nat → Int32)) (N_gone : (Nat → Int32)) (N_tells : (Nat → Int32)) (N_drowned : Int32) (N_count : Int32) (N_course : Int32) (N_told : Int32) (N_z : Int32) (x1 : Int32) (x2 : Int32) (z : Int32 × TB) (hf : fX6_give n uK (N_laws, N_kind, N_holds, N_gone, N_tells, N_drowned, N_count, N_course, N_told, N_z) x1 x2 = some z) : Met l yX6_give wsX6_give ({ frames := 2, cells := 0, slots := 0, locals := 43 }) (PcW [.ref ak, .int x1, .int x2] D cy st sk sv B sz [(ak, .inr (6, [.ref an0, .ref ay0, .ref ae0, .int uK, .ref aa0, .ref aw0, .ref as0, .ref af0, .ref ag0])), (an0, .inr (4, [.ref an1, .ref an2, .ref an3, .ref an4, .ref an5, .int N_drowned, .int N_count, .int N_course, .int N_told, .int N_z])), (an1, .inl (cy 0, 4, .inl N_laws)), (an2, .inl (cy 0, 8, .inl N_kind)), (an3, .inl (cy 0, 8, .inl N_holds)), (an4, .inl (cy 0, 8, .inl N_gone)), (an5, .inl (cy 0, 8, .inl N_tells))]) (Qw (some (.int z.1)) D [(ak, .inr (6, [.ref an0, .ref ay0, .ref ae0, .int uK, .ref aa0, .ref aw0, .ref as0, .ref af0, .ref ag0])), (an0, .inr (4, [.ref an1, .ref an2, .ref an3, .ref an4, .ref an5, .int z.2.2.2.2.2.2.1, .int z.2.2.2.2.2.2.2.1, .int z.2.2.2.2.2.2.2.2.1, .int z.2.2.2.2.2.2.2.2.2.1, .int z.2.2.2.2.2.2.2.2.2.2])), (an1, .inl (cy 0, 4, .inl z.2.1)), (an2, .inl (cy 0, 8, .inl z.2.2.1)), (an3, .inl (cy 0, 8, .inl z.2.2.2.1)), (an4, .inl (cy 0, 8, .inl z.2.2.2.2.1)), (an5, .inl (cy 0, 8, .inl z.2.2.2.2.2.1))] (va_A [(ak, .inr (6, [.ref an0, .ref ay0, .ref ae0, .int uK, .ref aa0, .ref aw0, .ref as0, .ref af0, .ref ag0])), (an0, .inr (4, [.ref an1, .ref an2, .ref an3, .ref an4, .ref an5, .int N_drowned, .int N_count, .int N_course, .int N_told, .int N_z])), (an1, .inl (cy 0, 4, .inl N_laws)), (an2, .inl (cy 0, 8, .inl N_kind)), (an3, .inl (cy 0, 8, .inl N_holds)), (an4, .inl (cy 0, 8, .inl N_gone)), (an5, .inl (cy 0, 8, .inl N_tells))] sz)) 0 0 (va_A [(ak, .inr (6, [.ref an0, .ref ay0, .ref ae0, .int uK, .ref aa0, .ref aw0, .ref as0, .ref af0, .ref ag0])), (an0, .inr (4, [.ref an1, .ref an2, .ref an3, .ref an4, .ref an5, .int N_drowned, .int N_count, .int N_course, .int N_told, .int N_z])), (an1, .inl (cy 0, 4, .inl N_laws)), (an2, .inl (cy 0, 8, .inl N_kind)), (an3, .inl (cy 0, 8, .inl N_holds)), (an4, .inl (cy 0, 8, .inl N_gone)), (an5, .inl (cy 0, 8, .inl N_tells))] sz) := by
  refine Met.ofW (cc := cX6_give) (maxL := 4) (ret := (some .int)) (by decide) rfl ?_
  intro p e s m args below meth c s₁ Bd hml hv
  obtain ⟨rfl, hsz, hP, hD0, hBs, hG⟩ := hv
  have hx := Bd.exec
  have hb := Bd.bytes
  have hr := Bd.returns
  have hts := atoms_spec (ws := wsX6_give) Bd.pre
  have hown : s.vm.findClass RX6 = some m.cls := findClass_of_methodNamed Bd.named
  have hlocks := Bd.notSynchronized
  have hK := hG.1
  subst hsz
  have hD := hD0.self (sz := s.heap.size)
  have hAB0 := zA hD0 hBs
  generalize hAe : va_A [(ak, .inr (6, [.ref an0, .ref ay0, .ref ae0, .int uK, .ref aa0, .ref aw0, .ref as0, .ref af0, .ref ag0])), (an0, .inr (4, [.ref an1, .ref an2, .ref an3, .ref an4, .ref an5, .int N_drowned, .int N_count, .int N_course, .int N_told, .int N_z])), (an1, .inl (cy 0, 4, .inl N_laws)), (an2, .inl (cy 0, 8, .inl N_kind)), (an3, .inl (cy 0, 8, .inl N_holds)), (an4, .inl (cy 0, 8, .inl N_gone)), (an5, .inl (cy 0, 8, .inl N_tells))] s.heap.size = A at hD hAB0 ⊢
  have hA : ∀ q : Nat, s.heap.size ≤ q → A q := fun q h => by rw [← hAe]; exact Or.inr h
  have hAB : ∀ q, A q → B ≤ q := hAB0
  have hS : va_S A s.heap s.heap [] := va_S.rf
  have hfin : ∀ (z0 : Int32) (N_laws : (Nat → Int32)) (N_kind : (Nat → Int32)) (N_holds : (Nat → Int32)) (N_gone : (Nat → Int32)) (N_tells : (Nat → Int32)) (N_drowned : Int32) (N_count : Int32) (N_course : Int32) (N_told : Int32) (N_z : Int32), some (z0, (N_laws, N_kind, N_holds, N_gone, N_tells, N_drowned, N_count, N_course, N_told, N_z)) = some z → ∀ (H : Heap) (t : State), t.heap = H → va_P D vwCl [(ak, .inr (6, [.ref an0, .ref ay0, .ref ae0, .int uK, .ref aa0, .ref aw0, .ref as0, .ref af0, .ref ag0])), (an0, .inr (4, [.ref an1, .ref an2, .ref an3, .ref an4, .ref an5, .int N_drowned, .int N_count, .int N_course, .int N_told, .int N_z])), (an1, .inl (cy 0, 4, .inl N_laws)), (an2, .inl (cy 0, 8, .inl N_kind)), (an3, .inl (cy 0, 8, .inl N_holds)), (an4, .inl (cy 0, 8, .inl N_gone)), (an5, .inl (cy 0, 8, .inl N_tells))] H → va_F A s t → Qw (some (.int z.1)) D [(ak, .inr (6, [.ref an0, .ref ay0, .ref ae0, .int uK, .ref aa0, .ref aw0, .ref as0, .ref af0, .ref ag0])), (an0, .inr (4, [.ref an1, .ref an2, .ref an3, .ref an4, .ref an5, .int z.2.2.2.2.2.2.1, .int z.2.2.2.2.2.2.2.1, .int z.2.2.2.2.2.2.2.2.1, .int z.2.2.2.2.2.2.2.2.2.1, .int z.2.2.2.2.2.2.2.2.2.2])), (an1, .inl (cy 0, 4, .inl z.2.1)), (an2, .inl (cy 0, 8, .inl z.2.2.1)), (an3, .inl (cy 0, 8, .inl z.2.2.2.1)), (an4, .inl (cy 0, 8, .inl z.2.2.2.2.1)), (an5, .inl (cy 0, 8, .inl z.2.2.2.2.2.1))] A ([.ref ak, .int x1, .int x2] : List Value).toArray s (.returned (some (.int z0))) t := by
    intro z0 N_laws N_kind N_holds N_gone N_tells N_drowned N_count N_course N_told N_z h9 H t ht hP hF
    cases h9
    exact ⟨rfl, by rw [ht]; exact hP, hF⟩
  have hin4 : ∀ w ∈ u_ws RX4 TX4 10, w ∈ wsX6_give := by decide +kernel
  have hin6 : ∀ w ∈ u_ws RX6 TX6 9, w ∈ wsX6_give := by decide +kernel
  have fl10 := hts (.fieldLink RX6 10 "KinCutlery" "now" "LKinCutlery$Table;") (by decide +kernel)
  have fl108 := hts (.fieldLink RX6 108 "KinCutlery$Table" "holds" "[I") (by decide +kernel)
  have hl := lv_entry ([.ref ak, .int x1, .int x2]) (n := 4) (Nat.le_of_ble_eq_true rfl)
  rw [lg_entry_eq]
  generalize (lg_sl ([.ref ak, .int x1, .int x2]) ++ List.replicate (4 - (lg_sl ([.ref ak, .int x1, .int x2])).length) Slot.unset).toArray = ls at hl ⊢
  have hl : lv_has ls 4 [(0, .ref ak), (1, .int x1), (2, .int x2)] := hl
  have hf : ((fX4_has n (N_laws, N_kind, N_holds, N_gone, N_tells, N_drowned, N_count, N_course, N_told, N_z) x1).bind fun r5 => if r5 = 0 then (some ((-1 : Int32), (N_laws, N_kind, N_holds, N_gone, N_tells, N_drowned, N_count, N_course, N_told, N_z))) else ((fX6_within n x2 (0 : Int32) (7 : Int32)).bind fun r15 => if r15 = 0 then (some ((-1 : Int32), (N_laws, N_kind, N_holds, N_gone, N_tells, N_drowned, N_count, N_course, N_told, N_z))) else (if x1 < 0 ∨ 8 ≤ x1.toNatClampNeg then none else if x1 < 0 ∨ 8 ≤ x1.toNatClampNeg then none else some ((N_holds x1.toNatClampNeg), (N_laws, N_kind, (upd N_holds x1.toNatClampNeg x2), N_gone, N_tells, N_drowned, N_count, N_course, N_told, N_z))))) = some z := hf
  refine lv_aload_n hx hb dX6_give_0 rfl (lv_at hl 0 rfl) ?_
  refine va_get (D := D) (ci := 6) (v := .ref an0) (C := RX6) (T := TX6) (N := 9) hx hb hts hin6 hown hK hP 0 rfl rfl 0 (by decide) fl10 (fun _ h9 => h9) rfl dX6_give_1 ?_
  refine lv_iload_n hx hb dX6_give_4 rfl (lv_at hl 1 rfl) ?_
  obtain ⟨r5, hc5, hf⟩ := zb hf
  refine zvr (o := some (.int r5)) (As := [.int x1]) (rest := []) (stk := [.int r5]) ⟨hx, hb, hml, hown, hts⟩ (mX4_has l D cy st sk sv B an0 an1 an2 an3 an4 an5 n N_laws N_kind N_holds N_gone N_tells N_drowned N_count N_course N_told N_z x1 r5 hc5) (cwV 1 hts gX6_give_X4_has rfl rfl rfl (by decide +kernel) ⟨Nat.le_of_ble_eq_true rfl, Nat.le_of_ble_eq_true rfl⟩) hG hS hAB hP [1, 2, 3, 4, 5, 6] rfl 0 4 rfl rfl rfl rfl hl.1 rfl (Nat.le_of_ble_eq_true rfl) dX6_give_5 rfl ?_
  refine lv_if_eq (tgt := 21) hx hb dX6_give_8 (by decide) (fun c_8 => ?_) (fun c_8 => ?_)
  · have hf := zp hf c_8
    refine lv_iconst (v := (-1 : Int32)) hx hb dX6_give_21 (by decide) ?_
    exact W.iret hx hb hr (fun t ht hW => hfin (-1 : Int32) N_laws N_kind N_holds N_gone N_tells N_drowned N_count N_course N_told N_z hf _ t ht hP (hS.F ht)) hS.2.2 dX6_give_22
  · have hf := zn hf c_8
    refine lv_iload_n hx hb dX6_give_11 rfl (lv_at hl 2 rfl) ?_
    refine lv_iconst (v := (0 : Int32)) hx hb dX6_give_12 (by decide) ?_
    refine lv_bipush (v := (7 : Int32)) hx hb dX6_give_13 (by decide) ?_
    obtain ⟨r15, hc15, hf⟩ := zb hf
    refine zsr (o := some (.int r15)) (As := [.int x2, .int (0 : Int32), .int (7 : Int32)]) (rest := []) (stk := [.int r15]) ⟨hx, hb, hml, hown, hts⟩ (mX6_within l D cy st sk sv B  n x2 (0 : Int32) (7 : Int32) r15 hc15) (va_cwS 3 hts gX6_give_X6_within rfl rfl rfl (by decide +kernel) ⟨Nat.le_of_ble_eq_true rfl, Nat.le_of_ble_eq_true rfl⟩) hG hS hAB hP [] rfl rfl hl.1 rfl (Nat.le_of_ble_eq_true rfl) dX6_give_15 rfl ?_
    refine lv_if_ne (tgt := 23) hx hb dX6_give_18 (by decide) (fun c_18 => ?_) (fun c_18 => ?_)
    · have hf := zn hf c_18
      refine lv_aload_n hx hb dX6_give_23 rfl (lv_at hl 0 rfl) ?_
      refine va_get (D := D) (ci := 6) (v := .ref an0) (C := RX6) (T := TX6) (N := 9) hx hb hts hin6 hown hK hP 0 rfl rfl 0 (by decide) fl10 (fun _ h9 => h9) rfl dX6_give_24 ?_
      refine va_get (D := D) (ci := 4) (v := .ref an3) (C := RX4) (T := TX4) (N := 10) hx hb hts hin4 hown hK hP 1 rfl rfl 2 (by decide) fl108 (fun _ h9 => h9) rfl dX6_give_27 ?_
      refine lv_iload_n hx hb dX6_give_30 rfl (lv_at hl 1 rfl) ?_
      obtain ⟨h_31, hf⟩ := zg hf
      refine va_iald hx hb hK hP 4 0 rfl rfl h_31 dX6_give_31 ?_
      refine lv_istore_n (lv' := [(3, .int (N_holds x1.toNatClampNeg)), (0, .ref ak), (1, .int x1), (2, .int x2)]) hx hb dX6_give_32 rfl hl (by decide) rfl (fun ls hl => ?_)
      refine lv_aload_n hx hb dX6_give_33 rfl (lv_at hl 1 rfl) ?_
      refine va_get (D := D) (ci := 6) (v := .ref an0) (C := RX6) (T := TX6) (N := 9) hx hb hts hin6 hown hK hP 0 rfl rfl 0 (by decide) fl10 (fun _ h9 => h9) rfl dX6_give_34 ?_
      refine va_get (D := D) (ci := 4) (v := .ref an3) (C := RX4) (T := TX4) (N := 10) hx hb hts hin4 hown hK hP 1 rfl rfl 2 (by decide) fl108 (fun _ h9 => h9) rfl dX6_give_37 ?_
      refine lv_iload_n hx hb dX6_give_40 rfl (lv_at hl 2 rfl) ?_
      refine lv_iload_n hx hb dX6_give_41 rfl (lv_at hl 3 rfl) ?_
      obtain ⟨h_42, hf⟩ := zg hf
      refine va_iast hx hb hK hP hD hS 4 0 rfl rfl h_42 dX6_give_42 (fun H locs hP hD hS => ?_)
      have hP : va_P D vwCl [(ak, .inr (6, [.ref an0, .ref ay0, .ref ae0, .int uK, .ref aa0, .ref aw0, .ref as0, .ref af0, .ref ag0])), (an0, .inr (4, [.ref an1, .ref an2, .ref an3, .ref an4, .ref an5, .int N_drowned, .int N_count, .int N_course, .int N_told, .int N_z])), (an1, .inl (cy 0, 4, .inl N_laws)), (an2, .inl (cy 0, 8, .inl N_kind)), (an3, .inl (cy 0, 8, .inl (upd N_holds x1.toNatClampNeg x2))), (an4, .inl (cy 0, 8, .inl N_gone)), (an5, .inl (cy 0, 8, .inl N_tells))] H := hP
      have hD : va_D A [(ak, .inr (6, [.ref an0, .ref ay0, .ref ae0, .int uK, .ref aa0, .ref aw0, .ref as0, .ref af0, .ref ag0])), (an0, .inr (4, [.ref an1, .ref an2, .ref an3, .ref an4, .ref an5, .int N_drowned, .int N_count, .int N_course, .int N_told, .int N_z])), (an1, .inl (cy 0, 4, .inl N_laws)), (an2, .inl (cy 0, 8, .inl N_kind)), (an3, .inl (cy 0, 8, .inl (upd N_holds x1.toNatClampNeg x2))), (an4, .inl (cy 0, 8, .inl N_gone)), (an5, .inl (cy 0, 8, .inl N_tells))] := hD
      refine lv_iload_n hx hb dX6_give_43 rfl (lv_at hl 0 rfl) ?_
      exact W.iret hx hb hr (fun t ht hW => hfin (N_holds x1.toNatClampNeg) N_laws N_kind (upd N_holds x1.toNatClampNeg x2) N_gone N_tells N_drowned N_count N_course N_told N_z hf _ t ht hP (hS.F ht)) hS.2.2 dX6_give_44
    · have hf := zp hf c_18
      refine lv_iconst (v := (-1 : Int32)) hx hb dX6_give_21 (by decide) ?_
      exact W.iret hx hb hr (fun t ht hW => hfin (-1 : Int32) N_laws N_kind N_holds N_gone N_tells N_drowned N_count N_course N_told N_z hf _ t ht hP (hS.F ht)) hS.2.2 dX6_give_22
