set_option maxRecDepth 100000 in
set_option maxHeartbeats 100000000 in
theorem mX6_minds (l : Launch) (D : va_G) (cy : Nat → ClassId) (st sk sv : Nat → Nat) (B : Nat) (ak : Nat) (an0 : Nat) (ay0 : Nat) (ae0 : Nat) (aa0 : Nat) (aw0 : Nat) (as0 : Nat) (af0 : Nat) (ag0 : Nat) (an1 : Nat) (an2 : Nat) (an3 : Nat) (an4 : Nat) (an5 : Nat) (aS : Nat → Nat) (aI : Nat → Nat) (sz : Nat) (n : Nat) (uK : Int32) (N_laws : (Nat → Int32)) (N_kind : (Nat → Int32)) (N_holds : (Nat → Int32)) (N_gone : (Nat → Int32)) (N_tells : (Nat → Int32)) (N_drowned : Int32) (N_count : Int32) (N_course : Int32) (N_told : Int32) (N_z : Int32) (S_items : (Nat → Nat → Int64)) (S_sort : (Nat → Int32)) (S_length : (Nat → Int32)) (x1 : Int32) (x2 : Int32) (x3 : Int32) (x4 : Int32) (z : Int32 × TB) (hf : fX6_minds n uK (N_laws, N_kind, N_holds, N_gone, N_tells, N_drowned, N_count, N_course, N_told, N_z) (S_items, S_sort, S_length) x1 x2 x3 x4 = some z) : Met l yX6_minds wsX6_minds ({ frames := 2, cells := 0, slots := 0, locals := 50 }) (PcW [.ref ak, .int x1, .int x2, .int x3, .int x4] D cy st sk sv B sz [(ak, .inr (6, [.ref an0, .ref ay0, .ref ae0, .int uK, .ref aa0, .ref aw0, .ref as0, .ref af0, .ref ag0])), (an0, .inr (4, [.ref an1, .ref an2, .ref an3, .ref an4, .ref an5, .int N_drowned, .int N_count, .int N_course, .int N_told, .int N_z])), (an1, .inl (cy 0, 4, .inl N_laws)), (an2, .inl (cy 0, 8, .inl N_kind)), (an3, .inl (cy 0, 8, .inl N_holds)), (an4, .inl (cy 0, 8, .inl N_gone)), (an5, .inl (cy 0, 8, .inl N_tells)), (as0, .inl (cy 3, 4, .inr (.inr (.inr (.inr (fun j => some (aS j))))))), ((aS 0), .inr (1, [.ref (aI 0), .int (S_sort 0), .int (S_length 0)])), ((aI 0), .inl (cy 2, 40, .inr (.inl (S_items 0)))), ((aS 1), .inr (1, [.ref (aI 1), .int (S_sort 1), .int (S_length 1)])), ((aI 1), .inl (cy 2, 40, .inr (.inl (S_items 1)))), ((aS 2), .inr (1, [.ref (aI 2), .int (S_sort 2), .int (S_length 2)])), ((aI 2), .inl (cy 2, 40, .inr (.inl (S_items 2)))), ((aS 3), .inr (1, [.ref (aI 3), .int (S_sort 3), .int (S_length 3)])), ((aI 3), .inl (cy 2, 40, .inr (.inl (S_items 3))))]) (Qw (some (.int z.1)) D [(ak, .inr (6, [.ref an0, .ref ay0, .ref ae0, .int uK, .ref aa0, .ref aw0, .ref as0, .ref af0, .ref ag0])), (an0, .inr (4, [.ref an1, .ref an2, .ref an3, .ref an4, .ref an5, .int z.2.2.2.2.2.2.1, .int z.2.2.2.2.2.2.2.1, .int z.2.2.2.2.2.2.2.2.1, .int z.2.2.2.2.2.2.2.2.2.1, .int z.2.2.2.2.2.2.2.2.2.2])), (an1, .inl (cy 0, 4, .inl z.2.1)), (an2, .inl (cy 0, 8, .inl z.2.2.1)), (an3, .inl (cy 0, 8, .inl z.2.2.2.1)), (an4, .inl (cy 0, 8, .inl z.2.2.2.2.1)), (an5, .inl (cy 0, 8, .inl z.2.2.2.2.2.1)), (as0, .inl (cy 3, 4, .inr (.inr (.inr (.inr (fun j => some (aS j))))))), ((aS 0), .inr (1, [.ref (aI 0), .int (S_sort 0), .int (S_length 0)])), ((aI 0), .inl (cy 2, 40, .inr (.inl (S_items 0)))), ((aS 1), .inr (1, [.ref (aI 1), .int (S_sort 1), .int (S_length 1)])), ((aI 1), .inl (cy 2, 40, .inr (.inl (S_items 1)))), ((aS 2), .inr (1, [.ref (aI 2), .int (S_sort 2), .int (S_length 2)])), ((aI 2), .inl (cy 2, 40, .inr (.inl (S_items 2)))), ((aS 3), .inr (1, [.ref (aI 3), .int (S_sort 3), .int (S_length 3)])), ((aI 3), .inl (cy 2, 40, .inr (.inl (S_items 3))))] (va_A [(ak, .inr (6, [.ref an0, .ref ay0, .ref ae0, .int uK, .ref aa0, .ref aw0, .ref as0, .ref af0, .ref ag0])), (an0, .inr (4, [.ref an1, .ref an2, .ref an3, .ref an4, .ref an5, .int N_drowned, .int N_count, .int N_course, .int N_told, .int N_z])), (an1, .inl (cy 0, 4, .inl N_laws)), (an2, .inl (cy 0, 8, .inl N_kind)), (an3, .inl (cy 0, 8, .inl N_holds)), (an4, .inl (cy 0, 8, .inl N_gone)), (an5, .inl (cy 0, 8, .inl N_tells)), (as0, .inl (cy 3, 4, .inr (.inr (.inr (.inr (fun j => some (aS j))))))), ((aS 0), .inr (1, [.ref (aI 0), .int (S_sort 0), .int (S_length 0)])), ((aI 0), .inl (cy 2, 40, .inr (.inl (S_items 0)))), ((aS 1), .inr (1, [.ref (aI 1), .int (S_sort 1), .int (S_length 1)])), ((aI 1), .inl (cy 2, 40, .inr (.inl (S_items 1)))), ((aS 2), .inr (1, [.ref (aI 2), .int (S_sort 2), .int (S_length 2)])), ((aI 2), .inl (cy 2, 40, .inr (.inl (S_items 2)))), ((aS 3), .inr (1, [.ref (aI 3), .int (S_sort 3), .int (S_length 3)])), ((aI 3), .inl (cy 2, 40, .inr (.inl (S_items 3))))] sz)) 0 0 (va_A [(ak, .inr (6, [.ref an0, .ref ay0, .ref ae0, .int uK, .ref aa0, .ref aw0, .ref as0, .ref af0, .ref ag0])), (an0, .inr (4, [.ref an1, .ref an2, .ref an3, .ref an4, .ref an5, .int N_drowned, .int N_count, .int N_course, .int N_told, .int N_z])), (an1, .inl (cy 0, 4, .inl N_laws)), (an2, .inl (cy 0, 8, .inl N_kind)), (an3, .inl (cy 0, 8, .inl N_holds)), (an4, .inl (cy 0, 8, .inl N_gone)), (an5, .inl (cy 0, 8, .inl N_tells)), (as0, .inl (cy 3, 4, .inr (.inr (.inr (.inr (fun j => some (aS j))))))), ((aS 0), .inr (1, [.ref (aI 0), .int (S_sort 0), .int (S_length 0)])), ((aI 0), .inl (cy 2, 40, .inr (.inl (S_items 0)))), ((aS 1), .inr (1, [.ref (aI 1), .int (S_sort 1), .int (S_length 1)])), ((aI 1), .inl (cy 2, 40, .inr (.inl (S_items 1)))), ((aS 2), .inr (1, [.ref (aI 2), .int (S_sort 2), .int (S_length 2)])), ((aI 2), .inl (cy 2, 40, .inr (.inl (S_items 2)))), ((aS 3), .inr (1, [.ref (aI 3), .int (S_sort 3), .int (S_length 3)])), ((aI 3), .inl (cy 2, 40, .inr (.inl (S_items 3))))] sz) := by
  refine Met.ofW (cc := cX6_minds) (maxL := 7) (ret := (some .int)) (by decide) rfl ?_
  intro p e s m args below meth c s₁ Bd hml hv
  obtain ⟨rfl, hsz, hP, hD0, hBs, hG⟩ := hv
  have hx := Bd.exec
  have hb := Bd.bytes
  have hr := Bd.returns
  have hts := atoms_spec (ws := wsX6_minds) Bd.pre
  have hown : s.vm.findClass RX6 = some m.cls := findClass_of_methodNamed Bd.named
  have hlocks := Bd.notSynchronized
  have hK := hG.1
  subst hsz
  have hD := hD0.self (sz := s.heap.size)
  have hAB0 := zA hD0 hBs
  generalize hAe : va_A [(ak, .inr (6, [.ref an0, .ref ay0, .ref ae0, .int uK, .ref aa0, .ref aw0, .ref as0, .ref af0, .ref ag0])), (an0, .inr (4, [.ref an1, .ref an2, .ref an3, .ref an4, .ref an5, .int N_drowned, .int N_count, .int N_course, .int N_told, .int N_z])), (an1, .inl (cy 0, 4, .inl N_laws)), (an2, .inl (cy 0, 8, .inl N_kind)), (an3, .inl (cy 0, 8, .inl N_holds)), (an4, .inl (cy 0, 8, .inl N_gone)), (an5, .inl (cy 0, 8, .inl N_tells)), (as0, .inl (cy 3, 4, .inr (.inr (.inr (.inr (fun j => some (aS j))))))), ((aS 0), .inr (1, [.ref (aI 0), .int (S_sort 0), .int (S_length 0)])), ((aI 0), .inl (cy 2, 40, .inr (.inl (S_items 0)))), ((aS 1), .inr (1, [.ref (aI 1), .int (S_sort 1), .int (S_length 1)])), ((aI 1), .inl (cy 2, 40, .inr (.inl (S_items 1)))), ((aS 2), .inr (1, [.ref (aI 2), .int (S_sort 2), .int (S_length 2)])), ((aI 2), .inl (cy 2, 40, .inr (.inl (S_items 2)))), ((aS 3), .inr (1, [.ref (aI 3), .int (S_sort 3), .int (S_length 3)])), ((aI 3), .inl (cy 2, 40, .inr (.inl (S_items 3))))] s.heap.size = A at hD hAB0 ⊢
  have hA : ∀ q : Nat, s.heap.size ≤ q → A q := fun q h => by rw [← hAe]; exact Or.inr h
  have hAB : ∀ q, A q → B ≤ q := hAB0
  have hS : va_S A s.heap s.heap [] := va_S.rf
  have hfin : ∀ (z0 : Int32) (N_laws : (Nat → Int32)) (N_kind : (Nat → Int32)) (N_holds : (Nat → Int32)) (N_gone : (Nat → Int32)) (N_tells : (Nat → Int32)) (N_drowned : Int32) (N_count : Int32) (N_course : Int32) (N_told : Int32) (N_z : Int32), some (z0, (N_laws, N_kind, N_holds, N_gone, N_tells, N_drowned, N_count, N_course, N_told, N_z)) = some z → ∀ (H : Heap) (t : State), t.heap = H → va_P D vwCl [(ak, .inr (6, [.ref an0, .ref ay0, .ref ae0, .int uK, .ref aa0, .ref aw0, .ref as0, .ref af0, .ref ag0])), (an0, .inr (4, [.ref an1, .ref an2, .ref an3, .ref an4, .ref an5, .int N_drowned, .int N_count, .int N_course, .int N_told, .int N_z])), (an1, .inl (cy 0, 4, .inl N_laws)), (an2, .inl (cy 0, 8, .inl N_kind)), (an3, .inl (cy 0, 8, .inl N_holds)), (an4, .inl (cy 0, 8, .inl N_gone)), (an5, .inl (cy 0, 8, .inl N_tells)), (as0, .inl (cy 3, 4, .inr (.inr (.inr (.inr (fun j => some (aS j))))))), ((aS 0), .inr (1, [.ref (aI 0), .int (S_sort 0), .int (S_length 0)])), ((aI 0), .inl (cy 2, 40, .inr (.inl (S_items 0)))), ((aS 1), .inr (1, [.ref (aI 1), .int (S_sort 1), .int (S_length 1)])), ((aI 1), .inl (cy 2, 40, .inr (.inl (S_items 1)))), ((aS 2), .inr (1, [.ref (aI 2), .int (S_sort 2), .int (S_length 2)])), ((aI 2), .inl (cy 2, 40, .inr (.inl (S_items 2)))), ((aS 3), .inr (1, [.ref (aI 3), .int (S_sort 3), .int (S_length 3)])), ((aI 3), .inl (cy 2, 40, .inr (.inl (S_items 3))))] H → va_F A s t → Qw (some (.int z.1)) D [(ak, .inr (6, [.ref an0, .ref ay0, .ref ae0, .int uK, .ref aa0, .ref aw0, .ref as0, .ref af0, .ref ag0])), (an0, .inr (4, [.ref an1, .ref an2, .ref an3, .ref an4, .ref an5, .int z.2.2.2.2.2.2.1, .int z.2.2.2.2.2.2.2.1, .int z.2.2.2.2.2.2.2.2.1, .int z.2.2.2.2.2.2.2.2.2.1, .int z.2.2.2.2.2.2.2.2.2.2])), (an1, .inl (cy 0, 4, .inl z.2.1)), (an2, .inl (cy 0, 8, .inl z.2.2.1)), (an3, .inl (cy 0, 8, .inl z.2.2.2.1)), (an4, .inl (cy 0, 8, .inl z.2.2.2.2.1)), (an5, .inl (cy 0, 8, .inl z.2.2.2.2.2.1)), (as0, .inl (cy 3, 4, .inr (.inr (.inr (.inr (fun j => some (aS j))))))), ((aS 0), .inr (1, [.ref (aI 0), .int (S_sort 0), .int (S_length 0)])), ((aI 0), .inl (cy 2, 40, .inr (.inl (S_items 0)))), ((aS 1), .inr (1, [.ref (aI 1), .int (S_sort 1), .int (S_length 1)])), ((aI 1), .inl (cy 2, 40, .inr (.inl (S_items 1)))), ((aS 2), .inr (1, [.ref (aI 2), .int (S_sort 2), .int (S_length 2)])), ((aI 2), .inl (cy 2, 40, .inr (.inl (S_items 2)))), ((aS 3), .inr (1, [.ref (aI 3), .int (S_sort 3), .int (S_length 3)])), ((aI 3), .inl (cy 2, 40, .inr (.inl (S_items 3))))] A ([.ref ak, .int x1, .int x2, .int x3, .int x4] : List Value).toArray s (.returned (some (.int z0))) t := by
    intro z0 N_laws N_kind N_holds N_gone N_tells N_drowned N_count N_course N_told N_z h9 H t ht hP hF
    cases h9
    exact ⟨rfl, by rw [ht]; exact hP, hF⟩
  have hin1 : ∀ w ∈ u_ws RX1 TX1 3, w ∈ wsX6_minds := by decide +kernel
  have hin4 : ∀ w ∈ u_ws RX4 TX4 10, w ∈ wsX6_minds := by decide +kernel
  have hin6 : ∀ w ∈ u_ws RX6 TX6 9, w ∈ wsX6_minds := by decide +kernel
  have fl10 := hts (.fieldLink RX6 10 "KinCutlery" "now" "LKinCutlery$Table;") (by decide +kernel)
  have fl38 := hts (.fieldLink RX6 38 "KinCutlery" "sheets" "[LKinCutlery$Sheet;") (by decide +kernel)
  have fl89 := hts (.fieldLink RX6 89 "KinCutlery$Table" "count" "I") (by decide +kernel)
  have fl111 := hts (.fieldLink RX6 111 "KinCutlery$Table" "gone" "[I") (by decide +kernel)
  have fl203 := hts (.fieldLink RX6 203 "KinCutlery$Sheet" "sort" "I") (by decide +kernel)
  have fl210 := hts (.fieldLink RX6 210 "KinCutlery$Sheet" "length" "I") (by decide +kernel)
  have fl211 := hts (.fieldLink RX6 211 "KinCutlery$Sheet" "items" "[J") (by decide +kernel)
  have hL109 : ∀ (n0 : Nat) (N_laws : (Nat → Int32)) (N_kind : (Nat → Int32)) (N_holds : (Nat → Int32)) (N_gone : (Nat → Int32)) (N_tells : (Nat → Int32)) (N_drowned : Int32) (N_count : Int32) (N_course : Int32) (N_told : Int32) (N_z : Int32) (y5 : Nat) (y6 : Int32), lpF (fX6_minds_F109 n uK (S_items, S_sort, S_length) x1 x2 x3 x4 ) n0 ((N_laws, N_kind, N_holds, N_gone, N_tells, N_drowned, N_count, N_course, N_told, N_z), y5, y6) = some z → y5 < 4 → ∀ (H : Heap) (locs : List Loc), va_P D vwCl [(ak, .inr (6, [.ref an0, .ref ay0, .ref ae0, .int uK, .ref aa0, .ref aw0, .ref as0, .ref af0, .ref ag0])), (an0, .inr (4, [.ref an1, .ref an2, .ref an3, .ref an4, .ref an5, .int N_drowned, .int N_count, .int N_course, .int N_told, .int N_z])), (an1, .inl (cy 0, 4, .inl N_laws)), (an2, .inl (cy 0, 8, .inl N_kind)), (an3, .inl (cy 0, 8, .inl N_holds)), (an4, .inl (cy 0, 8, .inl N_gone)), (an5, .inl (cy 0, 8, .inl N_tells)), (as0, .inl (cy 3, 4, .inr (.inr (.inr (.inr (fun j => some (aS j))))))), ((aS 0), .inr (1, [.ref (aI 0), .int (S_sort 0), .int (S_length 0)])), ((aI 0), .inl (cy 2, 40, .inr (.inl (S_items 0)))), ((aS 1), .inr (1, [.ref (aI 1), .int (S_sort 1), .int (S_length 1)])), ((aI 1), .inl (cy 2, 40, .inr (.inl (S_items 1)))), ((aS 2), .inr (1, [.ref (aI 2), .int (S_sort 2), .int (S_length 2)])), ((aI 2), .inl (cy 2, 40, .inr (.inl (S_items 2)))), ((aS 3), .inr (1, [.ref (aI 3), .int (S_sort 3), .int (S_length 3)])), ((aI 3), .inl (cy 2, 40, .inr (.inl (S_items 3))))] H → va_D A [(ak, .inr (6, [.ref an0, .ref ay0, .ref ae0, .int uK, .ref aa0, .ref aw0, .ref as0, .ref af0, .ref ag0])), (an0, .inr (4, [.ref an1, .ref an2, .ref an3, .ref an4, .ref an5, .int N_drowned, .int N_count, .int N_course, .int N_told, .int N_z])), (an1, .inl (cy 0, 4, .inl N_laws)), (an2, .inl (cy 0, 8, .inl N_kind)), (an3, .inl (cy 0, 8, .inl N_holds)), (an4, .inl (cy 0, 8, .inl N_gone)), (an5, .inl (cy 0, 8, .inl N_tells)), (as0, .inl (cy 3, 4, .inr (.inr (.inr (.inr (fun j => some (aS j))))))), ((aS 0), .inr (1, [.ref (aI 0), .int (S_sort 0), .int (S_length 0)])), ((aI 0), .inl (cy 2, 40, .inr (.inl (S_items 0)))), ((aS 1), .inr (1, [.ref (aI 1), .int (S_sort 1), .int (S_length 1)])), ((aI 1), .inl (cy 2, 40, .inr (.inl (S_items 1)))), ((aS 2), .inr (1, [.ref (aI 2), .int (S_sort 2), .int (S_length 2)])), ((aI 2), .inl (cy 2, 40, .inr (.inl (S_items 2)))), ((aS 3), .inr (1, [.ref (aI 3), .int (S_sort 3), .int (S_length 3)])), ((aI 3), .inl (cy 2, 40, .inr (.inl (S_items 3))))] → va_S A s.heap H locs → ∀ (ls : Array Slot), lv_has ls 7 [(0, .ref ak), (1, .int x1), (2, .int x2), (3, .int x3), (4, .int x4), (5, .ref (aS y5)), (6, .int y6)] → W p l e (headSpec wsX6_minds ({ frames := 2, cells := 0, slots := 0, locals := 50 })).room s m ([.ref ak, .int x1, .int x2, .int x3, .int x4] : List Value).toArray below meth c H locs 0 0 (MQ below (Qw (some (.int z.1)) D [(ak, .inr (6, [.ref an0, .ref ay0, .ref ae0, .int uK, .ref aa0, .ref aw0, .ref as0, .ref af0, .ref ag0])), (an0, .inr (4, [.ref an1, .ref an2, .ref an3, .ref an4, .ref an5, .int z.2.2.2.2.2.2.1, .int z.2.2.2.2.2.2.2.1, .int z.2.2.2.2.2.2.2.2.1, .int z.2.2.2.2.2.2.2.2.2.1, .int z.2.2.2.2.2.2.2.2.2.2])), (an1, .inl (cy 0, 4, .inl z.2.1)), (an2, .inl (cy 0, 8, .inl z.2.2.1)), (an3, .inl (cy 0, 8, .inl z.2.2.2.1)), (an4, .inl (cy 0, 8, .inl z.2.2.2.2.1)), (an5, .inl (cy 0, 8, .inl z.2.2.2.2.2.1)), (as0, .inl (cy 3, 4, .inr (.inr (.inr (.inr (fun j => some (aS j))))))), ((aS 0), .inr (1, [.ref (aI 0), .int (S_sort 0), .int (S_length 0)])), ((aI 0), .inl (cy 2, 40, .inr (.inl (S_items 0)))), ((aS 1), .inr (1, [.ref (aI 1), .int (S_sort 1), .int (S_length 1)])), ((aI 1), .inl (cy 2, 40, .inr (.inl (S_items 1)))), ((aS 2), .inr (1, [.ref (aI 2), .int (S_sort 2), .int (S_length 2)])), ((aI 2), .inl (cy 2, 40, .inr (.inl (S_items 2)))), ((aS 3), .inr (1, [.ref (aI 3), .int (S_sort 3), .int (S_length 3)])), ((aI 3), .inl (cy 2, 40, .inr (.inl (S_items 3))))] A) ([.ref ak, .int x1, .int x2, .int x3, .int x4] : List Value).toArray s 0 0 A) (F0 m 109 ls []) := by
    have key : ∀ (n0 : Nat) (v109 : TB × Nat × Int32), lpF (fX6_minds_F109 n uK (S_items, S_sort, S_length) x1 x2 x3 x4 ) n0 v109 = some z → v109.2.1 < 4 → ∀ (H : Heap) (locs : List Loc), va_P D vwCl [(ak, .inr (6, [.ref an0, .ref ay0, .ref ae0, .int uK, .ref aa0, .ref aw0, .ref as0, .ref af0, .ref ag0])), (an0, .inr (4, [.ref an1, .ref an2, .ref an3, .ref an4, .ref an5, .int v109.1.2.2.2.2.2.1, .int v109.1.2.2.2.2.2.2.1, .int v109.1.2.2.2.2.2.2.2.1, .int v109.1.2.2.2.2.2.2.2.2.1, .int v109.1.2.2.2.2.2.2.2.2.2])), (an1, .inl (cy 0, 4, .inl v109.1.1)), (an2, .inl (cy 0, 8, .inl v109.1.2.1)), (an3, .inl (cy 0, 8, .inl v109.1.2.2.1)), (an4, .inl (cy 0, 8, .inl v109.1.2.2.2.1)), (an5, .inl (cy 0, 8, .inl v109.1.2.2.2.2.1)), (as0, .inl (cy 3, 4, .inr (.inr (.inr (.inr (fun j => some (aS j))))))), ((aS 0), .inr (1, [.ref (aI 0), .int (S_sort 0), .int (S_length 0)])), ((aI 0), .inl (cy 2, 40, .inr (.inl (S_items 0)))), ((aS 1), .inr (1, [.ref (aI 1), .int (S_sort 1), .int (S_length 1)])), ((aI 1), .inl (cy 2, 40, .inr (.inl (S_items 1)))), ((aS 2), .inr (1, [.ref (aI 2), .int (S_sort 2), .int (S_length 2)])), ((aI 2), .inl (cy 2, 40, .inr (.inl (S_items 2)))), ((aS 3), .inr (1, [.ref (aI 3), .int (S_sort 3), .int (S_length 3)])), ((aI 3), .inl (cy 2, 40, .inr (.inl (S_items 3))))] H → va_D A [(ak, .inr (6, [.ref an0, .ref ay0, .ref ae0, .int uK, .ref aa0, .ref aw0, .ref as0, .ref af0, .ref ag0])), (an0, .inr (4, [.ref an1, .ref an2, .ref an3, .ref an4, .ref an5, .int v109.1.2.2.2.2.2.1, .int v109.1.2.2.2.2.2.2.1, .int v109.1.2.2.2.2.2.2.2.1, .int v109.1.2.2.2.2.2.2.2.2.1, .int v109.1.2.2.2.2.2.2.2.2.2])), (an1, .inl (cy 0, 4, .inl v109.1.1)), (an2, .inl (cy 0, 8, .inl v109.1.2.1)), (an3, .inl (cy 0, 8, .inl v109.1.2.2.1)), (an4, .inl (cy 0, 8, .inl v109.1.2.2.2.1)), (an5, .inl (cy 0, 8, .inl v109.1.2.2.2.2.1)), (as0, .inl (cy 3, 4, .inr (.inr (.inr (.inr (fun j => some (aS j))))))), ((aS 0), .inr (1, [.ref (aI 0), .int (S_sort 0), .int (S_length 0)])), ((aI 0), .inl (cy 2, 40, .inr (.inl (S_items 0)))), ((aS 1), .inr (1, [.ref (aI 1), .int (S_sort 1), .int (S_length 1)])), ((aI 1), .inl (cy 2, 40, .inr (.inl (S_items 1)))), ((aS 2), .inr (1, [.ref (aI 2), .int (S_sort 2), .int (S_length 2)])), ((aI 2), .inl (cy 2, 40, .inr (.inl (S_items 2)))), ((aS 3), .inr (1, [.ref (aI 3), .int (S_sort 3), .int (S_length 3)])), ((aI 3), .inl (cy 2, 40, .inr (.inl (S_items 3))))] → va_S A s.heap H locs → ∀ (ls : Array Slot), lv_has ls 7 [(0, .ref ak), (1, .int x1), (2, .int x2), (3, .int x3), (4, .int x4), (5, .ref (aS v109.2.1)), (6, .int v109.2.2)] → W p l e (headSpec wsX6_minds ({ frames := 2, cells := 0, slots := 0, locals := 50 })).room s m ([.ref ak, .int x1, .int x2, .int x3, .int x4] : List Value).toArray below meth c H locs 0 0 (MQ below (Qw (some (.int z.1)) D [(ak, .inr (6, [.ref an0, .ref ay0, .ref ae0, .int uK, .ref aa0, .ref aw0, .ref as0, .ref af0, .ref ag0])), (an0, .inr (4, [.ref an1, .ref an2, .ref an3, .ref an4, .ref an5, .int z.2.2.2.2.2.2.1, .int z.2.2.2.2.2.2.2.1, .int z.2.2.2.2.2.2.2.2.1, .int z.2.2.2.2.2.2.2.2.2.1, .int z.2.2.2.2.2.2.2.2.2.2])), (an1, .inl (cy 0, 4, .inl z.2.1)), (an2, .inl (cy 0, 8, .inl z.2.2.1)), (an3, .inl (cy 0, 8, .inl z.2.2.2.1)), (an4, .inl (cy 0, 8, .inl z.2.2.2.2.1)), (an5, .inl (cy 0, 8, .inl z.2.2.2.2.2.1)), (as0, .inl (cy 3, 4, .inr (.inr (.inr (.inr (fun j => some (aS j))))))), ((aS 0), .inr (1, [.ref (aI 0), .int (S_sort 0), .int (S_length 0)])), ((aI 0), .inl (cy 2, 40, .inr (.inl (S_items 0)))), ((aS 1), .inr (1, [.ref (aI 1), .int (S_sort 1), .int (S_length 1)])), ((aI 1), .inl (cy 2, 40, .inr (.inl (S_items 1)))), ((aS 2), .inr (1, [.ref (aI 2), .int (S_sort 2), .int (S_length 2)])), ((aI 2), .inl (cy 2, 40, .inr (.inl (S_items 2)))), ((aS 3), .inr (1, [.ref (aI 3), .int (S_sort 3), .int (S_length 3)])), ((aI 3), .inl (cy 2, 40, .inr (.inl (S_items 3))))] A) ([.ref ak, .int x1, .int x2, .int x3, .int x4] : List Value).toArray s 0 0 A) (F0 m 109 ls []) := by
      refine lpW ?_
      intro k109 hk1090
      have hk109 : ∀ (N_laws : (Nat → Int32)) (N_kind : (Nat → Int32)) (N_holds : (Nat → Int32)) (N_gone : (Nat → Int32)) (N_tells : (Nat → Int32)) (N_drowned : Int32) (N_count : Int32) (N_course : Int32) (N_told : Int32) (N_z : Int32) (y5 : Nat) (y6 : Int32), k109 ((N_laws, N_kind, N_holds, N_gone, N_tells, N_drowned, N_count, N_course, N_told, N_z), y5, y6) = some z → y5 < 4 → ∀ (H : Heap) (locs : List Loc), va_P D vwCl [(ak, .inr (6, [.ref an0, .ref ay0, .ref ae0, .int uK, .ref aa0, .ref aw0, .ref as0, .ref af0, .ref ag0])), (an0, .inr (4, [.ref an1, .ref an2, .ref an3, .ref an4, .ref an5, .int N_drowned, .int N_count, .int N_course, .int N_told, .int N_z])), (an1, .inl (cy 0, 4, .inl N_laws)), (an2, .inl (cy 0, 8, .inl N_kind)), (an3, .inl (cy 0, 8, .inl N_holds)), (an4, .inl (cy 0, 8, .inl N_gone)), (an5, .inl (cy 0, 8, .inl N_tells)), (as0, .inl (cy 3, 4, .inr (.inr (.inr (.inr (fun j => some (aS j))))))), ((aS 0), .inr (1, [.ref (aI 0), .int (S_sort 0), .int (S_length 0)])), ((aI 0), .inl (cy 2, 40, .inr (.inl (S_items 0)))), ((aS 1), .inr (1, [.ref (aI 1), .int (S_sort 1), .int (S_length 1)])), ((aI 1), .inl (cy 2, 40, .inr (.inl (S_items 1)))), ((aS 2), .inr (1, [.ref (aI 2), .int (S_sort 2), .int (S_length 2)])), ((aI 2), .inl (cy 2, 40, .inr (.inl (S_items 2)))), ((aS 3), .inr (1, [.ref (aI 3), .int (S_sort 3), .int (S_length 3)])), ((aI 3), .inl (cy 2, 40, .inr (.inl (S_items 3))))] H → va_D A [(ak, .inr (6, [.ref an0, .ref ay0, .ref ae0, .int uK, .ref aa0, .ref aw0, .ref as0, .ref af0, .ref ag0])), (an0, .inr (4, [.ref an1, .ref an2, .ref an3, .ref an4, .ref an5, .int N_drowned, .int N_count, .int N_course, .int N_told, .int N_z])), (an1, .inl (cy 0, 4, .inl N_laws)), (an2, .inl (cy 0, 8, .inl N_kind)), (an3, .inl (cy 0, 8, .inl N_holds)), (an4, .inl (cy 0, 8, .inl N_gone)), (an5, .inl (cy 0, 8, .inl N_tells)), (as0, .inl (cy 3, 4, .inr (.inr (.inr (.inr (fun j => some (aS j))))))), ((aS 0), .inr (1, [.ref (aI 0), .int (S_sort 0), .int (S_length 0)])), ((aI 0), .inl (cy 2, 40, .inr (.inl (S_items 0)))), ((aS 1), .inr (1, [.ref (aI 1), .int (S_sort 1), .int (S_length 1)])), ((aI 1), .inl (cy 2, 40, .inr (.inl (S_items 1)))), ((aS 2), .inr (1, [.ref (aI 2), .int (S_sort 2), .int (S_length 2)])), ((aI 2), .inl (cy 2, 40, .inr (.inl (S_items 2)))), ((aS 3), .inr (1, [.ref (aI 3), .int (S_sort 3), .int (S_length 3)])), ((aI 3), .inl (cy 2, 40, .inr (.inl (S_items 3))))] → va_S A s.heap H locs → ∀ (ls : Array Slot), lv_has ls 7 [(0, .ref ak), (1, .int x1), (2, .int x2), (3, .int x3), (4, .int x4), (5, .ref (aS y5)), (6, .int y6)] → W p l e (headSpec wsX6_minds ({ frames := 2, cells := 0, slots := 0, locals := 50 })).room s m ([.ref ak, .int x1, .int x2, .int x3, .int x4] : List Value).toArray below meth c H locs 0 0 (MQ below (Qw (some (.int z.1)) D [(ak, .inr (6, [.ref an0, .ref ay0, .ref ae0, .int uK, .ref aa0, .ref aw0, .ref as0, .ref af0, .ref ag0])), (an0, .inr (4, [.ref an1, .ref an2, .ref an3, .ref an4, .ref an5, .int z.2.2.2.2.2.2.1, .int z.2.2.2.2.2.2.2.1, .int z.2.2.2.2.2.2.2.2.1, .int z.2.2.2.2.2.2.2.2.2.1, .int z.2.2.2.2.2.2.2.2.2.2])), (an1, .inl (cy 0, 4, .inl z.2.1)), (an2, .inl (cy 0, 8, .inl z.2.2.1)), (an3, .inl (cy 0, 8, .inl z.2.2.2.1)), (an4, .inl (cy 0, 8, .inl z.2.2.2.2.1)), (an5, .inl (cy 0, 8, .inl z.2.2.2.2.2.1)), (as0, .inl (cy 3, 4, .inr (.inr (.inr (.inr (fun j => some (aS j))))))), ((aS 0), .inr (1, [.ref (aI 0), .int (S_sort 0), .int (S_length 0)])), ((aI 0), .inl (cy 2, 40, .inr (.inl (S_items 0)))), ((aS 1), .inr (1, [.ref (aI 1), .int (S_sort 1), .int (S_length 1)])), ((aI 1), .inl (cy 2, 40, .inr (.inl (S_items 1)))), ((aS 2), .inr (1, [.ref (aI 2), .int (S_sort 2), .int (S_length 2)])), ((aI 2), .inl (cy 2, 40, .inr (.inl (S_items 2)))), ((aS 3), .inr (1, [.ref (aI 3), .int (S_sort 3), .int (S_length 3)])), ((aI 3), .inl (cy 2, 40, .inr (.inl (S_items 3))))] A) ([.ref ak, .int x1, .int x2, .int x3, .int x4] : List Value).toArray s 0 0 A) (F0 m 109 ls []) := fun N_laws N_kind N_holds N_gone N_tells N_drowned N_count N_course N_told N_z y5 y6 h9 => hk1090 ((N_laws, N_kind, N_holds, N_gone, N_tells, N_drowned, N_count, N_course, N_told, N_z), y5, y6) h9
      have hstep : ∀ (N_laws : (Nat → Int32)) (N_kind : (Nat → Int32)) (N_holds : (Nat → Int32)) (N_gone : (Nat → Int32)) (N_tells : (Nat → Int32)) (N_drowned : Int32) (N_count : Int32) (N_course : Int32) (N_told : Int32) (N_z : Int32) (y5 : Nat) (y6 : Int32), fX6_minds_F109 n uK (S_items, S_sort, S_length) x1 x2 x3 x4  k109 ((N_laws, N_kind, N_holds, N_gone, N_tells, N_drowned, N_count, N_course, N_told, N_z), y5, y6) = some z → y5 < 4 → ∀ (H : Heap) (locs : List Loc), va_P D vwCl [(ak, .inr (6, [.ref an0, .ref ay0, .ref ae0, .int uK, .ref aa0, .ref aw0, .ref as0, .ref af0, .ref ag0])), (an0, .inr (4, [.ref an1, .ref an2, .ref an3, .ref an4, .ref an5, .int N_drowned, .int N_count, .int N_course, .int N_told, .int N_z])), (an1, .inl (cy 0, 4, .inl N_laws)), (an2, .inl (cy 0, 8, .inl N_kind)), (an3, .inl (cy 0, 8, .inl N_holds)), (an4, .inl (cy 0, 8, .inl N_gone)), (an5, .inl (cy 0, 8, .inl N_tells)), (as0, .inl (cy 3, 4, .inr (.inr (.inr (.inr (fun j => some (aS j))))))), ((aS 0), .inr (1, [.ref (aI 0), .int (S_sort 0), .int (S_length 0)])), ((aI 0), .inl (cy 2, 40, .inr (.inl (S_items 0)))), ((aS 1), .inr (1, [.ref (aI 1), .int (S_sort 1), .int (S_length 1)])), ((aI 1), .inl (cy 2, 40, .inr (.inl (S_items 1)))), ((aS 2), .inr (1, [.ref (aI 2), .int (S_sort 2), .int (S_length 2)])), ((aI 2), .inl (cy 2, 40, .inr (.inl (S_items 2)))), ((aS 3), .inr (1, [.ref (aI 3), .int (S_sort 3), .int (S_length 3)])), ((aI 3), .inl (cy 2, 40, .inr (.inl (S_items 3))))] H → va_D A [(ak, .inr (6, [.ref an0, .ref ay0, .ref ae0, .int uK, .ref aa0, .ref aw0, .ref as0, .ref af0, .ref ag0])), (an0, .inr (4, [.ref an1, .ref an2, .ref an3, .ref an4, .ref an5, .int N_drowned, .int N_count, .int N_course, .int N_told, .int N_z])), (an1, .inl (cy 0, 4, .inl N_laws)), (an2, .inl (cy 0, 8, .inl N_kind)), (an3, .inl (cy 0, 8, .inl N_holds)), (an4, .inl (cy 0, 8, .inl N_gone)), (an5, .inl (cy 0, 8, .inl N_tells)), (as0, .inl (cy 3, 4, .inr (.inr (.inr (.inr (fun j => some (aS j))))))), ((aS 0), .inr (1, [.ref (aI 0), .int (S_sort 0), .int (S_length 0)])), ((aI 0), .inl (cy 2, 40, .inr (.inl (S_items 0)))), ((aS 1), .inr (1, [.ref (aI 1), .int (S_sort 1), .int (S_length 1)])), ((aI 1), .inl (cy 2, 40, .inr (.inl (S_items 1)))), ((aS 2), .inr (1, [.ref (aI 2), .int (S_sort 2), .int (S_length 2)])), ((aI 2), .inl (cy 2, 40, .inr (.inl (S_items 2)))), ((aS 3), .inr (1, [.ref (aI 3), .int (S_sort 3), .int (S_length 3)])), ((aI 3), .inl (cy 2, 40, .inr (.inl (S_items 3))))] → va_S A s.heap H locs → ∀ (ls : Array Slot), lv_has ls 7 [(0, .ref ak), (1, .int x1), (2, .int x2), (3, .int x3), (4, .int x4), (5, .ref (aS y5)), (6, .int y6)] → W p l e (headSpec wsX6_minds ({ frames := 2, cells := 0, slots := 0, locals := 50 })).room s m ([.ref ak, .int x1, .int x2, .int x3, .int x4] : List Value).toArray below meth c H locs 0 0 (MQ below (Qw (some (.int z.1)) D [(ak, .inr (6, [.ref an0, .ref ay0, .ref ae0, .int uK, .ref aa0, .ref aw0, .ref as0, .ref af0, .ref ag0])), (an0, .inr (4, [.ref an1, .ref an2, .ref an3, .ref an4, .ref an5, .int z.2.2.2.2.2.2.1, .int z.2.2.2.2.2.2.2.1, .int z.2.2.2.2.2.2.2.2.1, .int z.2.2.2.2.2.2.2.2.2.1, .int z.2.2.2.2.2.2.2.2.2.2])), (an1, .inl (cy 0, 4, .inl z.2.1)), (an2, .inl (cy 0, 8, .inl z.2.2.1)), (an3, .inl (cy 0, 8, .inl z.2.2.2.1)), (an4, .inl (cy 0, 8, .inl z.2.2.2.2.1)), (an5, .inl (cy 0, 8, .inl z.2.2.2.2.2.1)), (as0, .inl (cy 3, 4, .inr (.inr (.inr (.inr (fun j => some (aS j))))))), ((aS 0), .inr (1, [.ref (aI 0), .int (S_sort 0), .int (S_length 0)])), ((aI 0), .inl (cy 2, 40, .inr (.inl (S_items 0)))), ((aS 1), .inr (1, [.ref (aI 1), .int (S_sort 1), .int (S_length 1)])), ((aI 1), .inl (cy 2, 40, .inr (.inl (S_items 1)))), ((aS 2), .inr (1, [.ref (aI 2), .int (S_sort 2), .int (S_length 2)])), ((aI 2), .inl (cy 2, 40, .inr (.inl (S_items 2)))), ((aS 3), .inr (1, [.ref (aI 3), .int (S_sort 3), .int (S_length 3)])), ((aI 3), .inl (cy 2, 40, .inr (.inl (S_items 3))))] A) ([.ref ak, .int x1, .int x2, .int x3, .int x4] : List Value).toArray s 0 0 A) (F0 m 109 ls []) := by
        intro N_laws N_kind N_holds N_gone N_tells N_drowned N_count N_course N_told N_z y5 y6 hf hj_y5 H locs hP hD hS ls hl
        have hf : (if x4 ≤ y6 then (some (x4, (N_laws, N_kind, N_holds, N_gone, N_tells, N_drowned, N_count, N_course, N_told, N_z))) else (if (x2 + y6) < 0 ∨ 40 ≤ (x2 + y6).toNatClampNeg then none else (fX6_held n (((S_items y5) (x2 + y6).toNatClampNeg).toInt32)).bind fun r138 => if (x3 + y6) < 0 ∨ 8 ≤ (x3 + y6).toNatClampNeg then none else k109 ((N_laws, N_kind, N_holds, (upd N_gone (x3 + y6).toNatClampNeg r138), N_tells, N_drowned, N_count, N_course, N_told, N_z), y5, (y6 + (1 : Int32))))) = some z := hf
        rcases zc4n hj_y5 with rfl | rfl | rfl | rfl
        · have hl := hl
          refine lv_iload hx hb dX6_minds_109 (lv_at hl 6 rfl) ?_
          refine lv_iload hx hb dX6_minds_111 (lv_at hl 4 rfl) ?_
          refine lv_icmp_ge (tgt := 148) hx hb dX6_minds_113 (by decide) (fun c_113 => ?_) (fun c_113 => ?_)
          · have hf := zp hf c_113
            refine lv_iload hx hb dX6_minds_148 (lv_at hl 4 rfl) ?_
            exact W.iret hx hb hr (fun t ht hW => hfin x4 N_laws N_kind N_holds N_gone N_tells N_drowned N_count N_course N_told N_z hf _ t ht hP (hS.F ht)) hS.2.2 dX6_minds_150
          · have hf := zn hf c_113
            refine lv_aload_n hx hb dX6_minds_116 rfl (lv_at hl 0 rfl) ?_
            refine va_get (D := D) (ci := 6) (v := .ref an0) (C := RX6) (T := TX6) (N := 9) hx hb hts hin6 hown hK hP 0 rfl rfl 0 (by decide) fl10 (fun _ h9 => h9) rfl dX6_minds_117 ?_
            refine va_get (D := D) (ci := 4) (v := .ref an4) (C := RX4) (T := TX4) (N := 10) hx hb hts hin4 hown hK hP 1 rfl rfl 3 (by decide) fl111 (fun _ h9 => h9) rfl dX6_minds_120 ?_
            refine lv_iload_n hx hb dX6_minds_123 rfl (lv_at hl 3 rfl) ?_
            refine lv_iload hx hb dX6_minds_124 (lv_at hl 6 rfl) ?_
            refine lv_iadd hx hb dX6_minds_126 ?_
            refine lv_aload hx hb dX6_minds_127 (lv_at hl 5 rfl) ?_
            refine va_get (D := D) (ci := 1) (v := .ref (aI 0)) (C := RX1) (T := TX1) (N := 3) hx hb hts hin1 hown hK hP 8 rfl rfl 0 (by decide) fl211 (fun _ h9 => h9) rfl dX6_minds_129 ?_
            refine lv_iload_n hx hb dX6_minds_132 rfl (lv_at hl 2 rfl) ?_
            refine lv_iload hx hb dX6_minds_133 (lv_at hl 6 rfl) ?_
            refine lv_iadd hx hb dX6_minds_135 ?_
            obtain ⟨h_136, hf⟩ := zg hf
            refine va_lald hx hb hK hP 9 2 rfl rfl h_136 dX6_minds_136 ?_
            refine lv_l2i hx hb dX6_minds_137 rfl ?_
            obtain ⟨r138, hc138, hf⟩ := zb hf
            refine zsr (o := some (.int r138)) (As := [.int ((S_items 0) (x2 + y6).toNatClampNeg).toInt32]) (rest := [.int (x3 + y6), .ref an4]) (stk := [.int r138, .int (x3 + y6), .ref an4]) ⟨hx, hb, hml, hown, hts⟩ (mX6_held l D cy st sk sv B  n (((S_items 0) (x2 + y6).toNatClampNeg).toInt32) r138 hc138) (va_cwS 1 hts gX6_minds_X6_held rfl rfl rfl (by decide +kernel) ⟨Nat.le_of_ble_eq_true rfl, Nat.le_of_ble_eq_true rfl⟩) hG hS hAB hP [] rfl rfl hl.1 rfl (Nat.le_of_ble_eq_true rfl) dX6_minds_138 rfl ?_
            obtain ⟨h_141, hf⟩ := zg hf
            refine va_iast hx hb hK hP hD hS 5 0 rfl rfl h_141 dX6_minds_141 (fun H locs hP hD hS => ?_)
            have hP : va_P D vwCl [(ak, .inr (6, [.ref an0, .ref ay0, .ref ae0, .int uK, .ref aa0, .ref aw0, .ref as0, .ref af0, .ref ag0])), (an0, .inr (4, [.ref an1, .ref an2, .ref an3, .ref an4, .ref an5, .int N_drowned, .int N_count, .int N_course, .int N_told, .int N_z])), (an1, .inl (cy 0, 4, .inl N_laws)), (an2, .inl (cy 0, 8, .inl N_kind)), (an3, .inl (cy 0, 8, .inl N_holds)), (an4, .inl (cy 0, 8, .inl (upd N_gone (x3 + y6).toNatClampNeg r138))), (an5, .inl (cy 0, 8, .inl N_tells)), (as0, .inl (cy 3, 4, .inr (.inr (.inr (.inr (fun j => some (aS j))))))), ((aS 0), .inr (1, [.ref (aI 0), .int (S_sort 0), .int (S_length 0)])), ((aI 0), .inl (cy 2, 40, .inr (.inl (S_items 0)))), ((aS 1), .inr (1, [.ref (aI 1), .int (S_sort 1), .int (S_length 1)])), ((aI 1), .inl (cy 2, 40, .inr (.inl (S_items 1)))), ((aS 2), .inr (1, [.ref (aI 2), .int (S_sort 2), .int (S_length 2)])), ((aI 2), .inl (cy 2, 40, .inr (.inl (S_items 2)))), ((aS 3), .inr (1, [.ref (aI 3), .int (S_sort 3), .int (S_length 3)])), ((aI 3), .inl (cy 2, 40, .inr (.inl (S_items 3))))] H := hP
            have hD : va_D A [(ak, .inr (6, [.ref an0, .ref ay0, .ref ae0, .int uK, .ref aa0, .ref aw0, .ref as0, .ref af0, .ref ag0])), (an0, .inr (4, [.ref an1, .ref an2, .ref an3, .ref an4, .ref an5, .int N_drowned, .int N_count, .int N_course, .int N_told, .int N_z])), (an1, .inl (cy 0, 4, .inl N_laws)), (an2, .inl (cy 0, 8, .inl N_kind)), (an3, .inl (cy 0, 8, .inl N_holds)), (an4, .inl (cy 0, 8, .inl (upd N_gone (x3 + y6).toNatClampNeg r138))), (an5, .inl (cy 0, 8, .inl N_tells)), (as0, .inl (cy 3, 4, .inr (.inr (.inr (.inr (fun j => some (aS j))))))), ((aS 0), .inr (1, [.ref (aI 0), .int (S_sort 0), .int (S_length 0)])), ((aI 0), .inl (cy 2, 40, .inr (.inl (S_items 0)))), ((aS 1), .inr (1, [.ref (aI 1), .int (S_sort 1), .int (S_length 1)])), ((aI 1), .inl (cy 2, 40, .inr (.inl (S_items 1)))), ((aS 2), .inr (1, [.ref (aI 2), .int (S_sort 2), .int (S_length 2)])), ((aI 2), .inl (cy 2, 40, .inr (.inl (S_items 2)))), ((aS 3), .inr (1, [.ref (aI 3), .int (S_sort 3), .int (S_length 3)])), ((aI 3), .inl (cy 2, 40, .inr (.inl (S_items 3))))] := hD
            refine lv_iinc (v := (y6 + (1 : Int32))) (lv' := [(6, .int (y6 + (1 : Int32))), (0, .ref ak), (1, .int x1), (2, .int x2), (3, .int x3), (4, .int x4), (5, .ref (aS 0))]) hx hb dX6_minds_142 hl (k := 6) rfl rfl (by decide) rfl (fun ls hl => ?_)
            refine lv_goto (tgt := 109) hx hb dX6_minds_145 (by decide) ?_
            exact hk109 N_laws N_kind N_holds (upd N_gone (x3 + y6).toNatClampNeg r138) N_tells N_drowned N_count N_course N_told N_z 0 (y6 + (1 : Int32)) hf (by decide) _ _ hP hD hS _ (lv_sub hl [1, 2, 3, 4, 5, 6, 0] rfl)
        · have hl := hl
          refine lv_iload hx hb dX6_minds_109 (lv_at hl 6 rfl) ?_
          refine lv_iload hx hb dX6_minds_111 (lv_at hl 4 rfl) ?_
          refine lv_icmp_ge (tgt := 148) hx hb dX6_minds_113 (by decide) (fun c_113 => ?_) (fun c_113 => ?_)
          · have hf := zp hf c_113
            refine lv_iload hx hb dX6_minds_148 (lv_at hl 4 rfl) ?_
            exact W.iret hx hb hr (fun t ht hW => hfin x4 N_laws N_kind N_holds N_gone N_tells N_drowned N_count N_course N_told N_z hf _ t ht hP (hS.F ht)) hS.2.2 dX6_minds_150
          · have hf := zn hf c_113
            refine lv_aload_n hx hb dX6_minds_116 rfl (lv_at hl 0 rfl) ?_
            refine va_get (D := D) (ci := 6) (v := .ref an0) (C := RX6) (T := TX6) (N := 9) hx hb hts hin6 hown hK hP 0 rfl rfl 0 (by decide) fl10 (fun _ h9 => h9) rfl dX6_minds_117 ?_
            refine va_get (D := D) (ci := 4) (v := .ref an4) (C := RX4) (T := TX4) (N := 10) hx hb hts hin4 hown hK hP 1 rfl rfl 3 (by decide) fl111 (fun _ h9 => h9) rfl dX6_minds_120 ?_
            refine lv_iload_n hx hb dX6_minds_123 rfl (lv_at hl 3 rfl) ?_
            refine lv_iload hx hb dX6_minds_124 (lv_at hl 6 rfl) ?_
            refine lv_iadd hx hb dX6_minds_126 ?_
            refine lv_aload hx hb dX6_minds_127 (lv_at hl 5 rfl) ?_
            refine va_get (D := D) (ci := 1) (v := .ref (aI 1)) (C := RX1) (T := TX1) (N := 3) hx hb hts hin1 hown hK hP 10 rfl rfl 0 (by decide) fl211 (fun _ h9 => h9) rfl dX6_minds_129 ?_
            refine lv_iload_n hx hb dX6_minds_132 rfl (lv_at hl 2 rfl) ?_
            refine lv_iload hx hb dX6_minds_133 (lv_at hl 6 rfl) ?_
            refine lv_iadd hx hb dX6_minds_135 ?_
            obtain ⟨h_136, hf⟩ := zg hf
            refine va_lald hx hb hK hP 11 2 rfl rfl h_136 dX6_minds_136 ?_
            refine lv_l2i hx hb dX6_minds_137 rfl ?_
            obtain ⟨r138, hc138, hf⟩ := zb hf
            refine zsr (o := some (.int r138)) (As := [.int ((S_items 1) (x2 + y6).toNatClampNeg).toInt32]) (rest := [.int (x3 + y6), .ref an4]) (stk := [.int r138, .int (x3 + y6), .ref an4]) ⟨hx, hb, hml, hown, hts⟩ (mX6_held l D cy st sk sv B  n (((S_items 1) (x2 + y6).toNatClampNeg).toInt32) r138 hc138) (va_cwS 1 hts gX6_minds_X6_held rfl rfl rfl (by decide +kernel) ⟨Nat.le_of_ble_eq_true rfl, Nat.le_of_ble_eq_true rfl⟩) hG hS hAB hP [] rfl rfl hl.1 rfl (Nat.le_of_ble_eq_true rfl) dX6_minds_138 rfl ?_
            obtain ⟨h_141, hf⟩ := zg hf
            refine va_iast hx hb hK hP hD hS 5 0 rfl rfl h_141 dX6_minds_141 (fun H locs hP hD hS => ?_)
            have hP : va_P D vwCl [(ak, .inr (6, [.ref an0, .ref ay0, .ref ae0, .int uK, .ref aa0, .ref aw0, .ref as0, .ref af0, .ref ag0])), (an0, .inr (4, [.ref an1, .ref an2, .ref an3, .ref an4, .ref an5, .int N_drowned, .int N_count, .int N_course, .int N_told, .int N_z])), (an1, .inl (cy 0, 4, .inl N_laws)), (an2, .inl (cy 0, 8, .inl N_kind)), (an3, .inl (cy 0, 8, .inl N_holds)), (an4, .inl (cy 0, 8, .inl (upd N_gone (x3 + y6).toNatClampNeg r138))), (an5, .inl (cy 0, 8, .inl N_tells)), (as0, .inl (cy 3, 4, .inr (.inr (.inr (.inr (fun j => some (aS j))))))), ((aS 0), .inr (1, [.ref (aI 0), .int (S_sort 0), .int (S_length 0)])), ((aI 0), .inl (cy 2, 40, .inr (.inl (S_items 0)))), ((aS 1), .inr (1, [.ref (aI 1), .int (S_sort 1), .int (S_length 1)])), ((aI 1), .inl (cy 2, 40, .inr (.inl (S_items 1)))), ((aS 2), .inr (1, [.ref (aI 2), .int (S_sort 2), .int (S_length 2)])), ((aI 2), .inl (cy 2, 40, .inr (.inl (S_items 2)))), ((aS 3), .inr (1, [.ref (aI 3), .int (S_sort 3), .int (S_length 3)])), ((aI 3), .inl (cy 2, 40, .inr (.inl (S_items 3))))] H := hP
            have hD : va_D A [(ak, .inr (6, [.ref an0, .ref ay0, .ref ae0, .int uK, .ref aa0, .ref aw0, .ref as0, .ref af0, .ref ag0])), (an0, .inr (4, [.ref an1, .ref an2, .ref an3, .ref an4, .ref an5, .int N_drowned, .int N_count, .int N_course, .int N_told, .int N_z])), (an1, .inl (cy 0, 4, .inl N_laws)), (an2, .inl (cy 0, 8, .inl N_kind)), (an3, .inl (cy 0, 8, .inl N_holds)), (an4, .inl (cy 0, 8, .inl (upd N_gone (x3 + y6).toNatClampNeg r138))), (an5, .inl (cy 0, 8, .inl N_tells)), (as0, .inl (cy 3, 4, .inr (.inr (.inr (.inr (fun j => some (aS j))))))), ((aS 0), .inr (1, [.ref (aI 0), .int (S_sort 0), .int (S_length 0)])), ((aI 0), .inl (cy 2, 40, .inr (.inl (S_items 0)))), ((aS 1), .inr (1, [.ref (aI 1), .int (S_sort 1), .int (S_length 1)])), ((aI 1), .inl (cy 2, 40, .inr (.inl (S_items 1)))), ((aS 2), .inr (1, [.ref (aI 2), .int (S_sort 2), .int (S_length 2)])), ((aI 2), .inl (cy 2, 40, .inr (.inl (S_items 2)))), ((aS 3), .inr (1, [.ref (aI 3), .int (S_sort 3), .int (S_length 3)])), ((aI 3), .inl (cy 2, 40, .inr (.inl (S_items 3))))] := hD
            refine lv_iinc (v := (y6 + (1 : Int32))) (lv' := [(6, .int (y6 + (1 : Int32))), (0, .ref ak), (1, .int x1), (2, .int x2), (3, .int x3), (4, .int x4), (5, .ref (aS 1))]) hx hb dX6_minds_142 hl (k := 6) rfl rfl (by decide) rfl (fun ls hl => ?_)
            refine lv_goto (tgt := 109) hx hb dX6_minds_145 (by decide) ?_
            exact hk109 N_laws N_kind N_holds (upd N_gone (x3 + y6).toNatClampNeg r138) N_tells N_drowned N_count N_course N_told N_z 1 (y6 + (1 : Int32)) hf (by decide) _ _ hP hD hS _ (lv_sub hl [1, 2, 3, 4, 5, 6, 0] rfl)
        · have hl := hl
          refine lv_iload hx hb dX6_minds_109 (lv_at hl 6 rfl) ?_
          refine lv_iload hx hb dX6_minds_111 (lv_at hl 4 rfl) ?_
          refine lv_icmp_ge (tgt := 148) hx hb dX6_minds_113 (by decide) (fun c_113 => ?_) (fun c_113 => ?_)
          · have hf := zp hf c_113
            refine lv_iload hx hb dX6_minds_148 (lv_at hl 4 rfl) ?_
            exact W.iret hx hb hr (fun t ht hW => hfin x4 N_laws N_kind N_holds N_gone N_tells N_drowned N_count N_course N_told N_z hf _ t ht hP (hS.F ht)) hS.2.2 dX6_minds_150
          · have hf := zn hf c_113
            refine lv_aload_n hx hb dX6_minds_116 rfl (lv_at hl 0 rfl) ?_
            refine va_get (D := D) (ci := 6) (v := .ref an0) (C := RX6) (T := TX6) (N := 9) hx hb hts hin6 hown hK hP 0 rfl rfl 0 (by decide) fl10 (fun _ h9 => h9) rfl dX6_minds_117 ?_
            refine va_get (D := D) (ci := 4) (v := .ref an4) (C := RX4) (T := TX4) (N := 10) hx hb hts hin4 hown hK hP 1 rfl rfl 3 (by decide) fl111 (fun _ h9 => h9) rfl dX6_minds_120 ?_
            refine lv_iload_n hx hb dX6_minds_123 rfl (lv_at hl 3 rfl) ?_
            refine lv_iload hx hb dX6_minds_124 (lv_at hl 6 rfl) ?_
            refine lv_iadd hx hb dX6_minds_126 ?_
            refine lv_aload hx hb dX6_minds_127 (lv_at hl 5 rfl) ?_
            refine va_get (D := D) (ci := 1) (v := .ref (aI 2)) (C := RX1) (T := TX1) (N := 3) hx hb hts hin1 hown hK hP 12 rfl rfl 0 (by decide) fl211 (fun _ h9 => h9) rfl dX6_minds_129 ?_
            refine lv_iload_n hx hb dX6_minds_132 rfl (lv_at hl 2 rfl) ?_
            refine lv_iload hx hb dX6_minds_133 (lv_at hl 6 rfl) ?_
            refine lv_iadd hx hb dX6_minds_135 ?_
            obtain ⟨h_136, hf⟩ := zg hf
            refine va_lald hx hb hK hP 13 2 rfl rfl h_136 dX6_minds_136 ?_
            refine lv_l2i hx hb dX6_minds_137 rfl ?_
            obtain ⟨r138, hc138, hf⟩ := zb hf
            refine zsr (o := some (.int r138)) (As := [.int ((S_items 2) (x2 + y6).toNatClampNeg).toInt32]) (rest := [.int (x3 + y6), .ref an4]) (stk := [.int r138, .int (x3 + y6), .ref an4]) ⟨hx, hb, hml, hown, hts⟩ (mX6_held l D cy st sk sv B  n (((S_items 2) (x2 + y6).toNatClampNeg).toInt32) r138 hc138) (va_cwS 1 hts gX6_minds_X6_held rfl rfl rfl (by decide +kernel) ⟨Nat.le_of_ble_eq_true rfl, Nat.le_of_ble_eq_true rfl⟩) hG hS hAB hP [] rfl rfl hl.1 rfl (Nat.le_of_ble_eq_true rfl) dX6_minds_138 rfl ?_
            obtain ⟨h_141, hf⟩ := zg hf
            refine va_iast hx hb hK hP hD hS 5 0 rfl rfl h_141 dX6_minds_141 (fun H locs hP hD hS => ?_)
            have hP : va_P D vwCl [(ak, .inr (6, [.ref an0, .ref ay0, .ref ae0, .int uK, .ref aa0, .ref aw0, .ref as0, .ref af0, .ref ag0])), (an0, .inr (4, [.ref an1, .ref an2, .ref an3, .ref an4, .ref an5, .int N_drowned, .int N_count, .int N_course, .int N_told, .int N_z])), (an1, .inl (cy 0, 4, .inl N_laws)), (an2, .inl (cy 0, 8, .inl N_kind)), (an3, .inl (cy 0, 8, .inl N_holds)), (an4, .inl (cy 0, 8, .inl (upd N_gone (x3 + y6).toNatClampNeg r138))), (an5, .inl (cy 0, 8, .inl N_tells)), (as0, .inl (cy 3, 4, .inr (.inr (.inr (.inr (fun j => some (aS j))))))), ((aS 0), .inr (1, [.ref (aI 0), .int (S_sort 0), .int (S_length 0)])), ((aI 0), .inl (cy 2, 40, .inr (.inl (S_items 0)))), ((aS 1), .inr (1, [.ref (aI 1), .int (S_sort 1), .int (S_length 1)])), ((aI 1), .inl (cy 2, 40, .inr (.inl (S_items 1)))), ((aS 2), .inr (1, [.ref (aI 2), .int (S_sort 2), .int (S_length 2)])), ((aI 2), .inl (cy 2, 40, .inr (.inl (S_items 2)))), ((aS 3), .inr (1, [.ref (aI 3), .int (S_sort 3), .int (S_length 3)])), ((aI 3), .inl (cy 2, 40, .inr (.inl (S_items 3))))] H := hP
            have hD : va_D A [(ak, .inr (6, [.ref an0, .ref ay0, .ref ae0, .int uK, .ref aa0, .ref aw0, .ref as0, .ref af0, .ref ag0])), (an0, .inr (4, [.ref an1, .ref an2, .ref an3, .ref an4, .ref an5, .int N_drowned, .int N_count, .int N_course, .int N_told, .int N_z])), (an1, .inl (cy 0, 4, .inl N_laws)), (an2, .inl (cy 0, 8, .inl N_kind)), (an3, .inl (cy 0, 8, .inl N_holds)), (an4, .inl (cy 0, 8, .inl (upd N_gone (x3 + y6).toNatClampNeg r138))), (an5, .inl (cy 0, 8, .inl N_tells)), (as0, .inl (cy 3, 4, .inr (.inr (.inr (.inr (fun j => some (aS j))))))), ((aS 0), .inr (1, [.ref (aI 0), .int (S_sort 0), .int (S_length 0)])), ((aI 0), .inl (cy 2, 40, .inr (.inl (S_items 0)))), ((aS 1), .inr (1, [.ref (aI 1), .int (S_sort 1), .int (S_length 1)])), ((aI 1), .inl (cy 2, 40, .inr (.inl (S_items 1)))), ((aS 2), .inr (1, [.ref (aI 2), .int (S_sort 2), .int (S_length 2)])), ((aI 2), .inl (cy 2, 40, .inr (.inl (S_items 2)))), ((aS 3), .inr (1, [.ref (aI 3), .int (S_sort 3), .int (S_length 3)])), ((aI 3), .inl (cy 2, 40, .inr (.inl (S_items 3))))] := hD
            refine lv_iinc (v := (y6 + (1 : Int32))) (lv' := [(6, .int (y6 + (1 : Int32))), (0, .ref ak), (1, .int x1), (2, .int x2), (3, .int x3), (4, .int x4), (5, .ref (aS 2))]) hx hb dX6_minds_142 hl (k := 6) rfl rfl (by decide) rfl (fun ls hl => ?_)
            refine lv_goto (tgt := 109) hx hb dX6_minds_145 (by decide) ?_
            exact hk109 N_laws N_kind N_holds (upd N_gone (x3 + y6).toNatClampNeg r138) N_tells N_drowned N_count N_course N_told N_z 2 (y6 + (1 : Int32)) hf (by decide) _ _ hP hD hS _ (lv_sub hl [1, 2, 3, 4, 5, 6, 0] rfl)
        · have hl := hl
          refine lv_iload hx hb dX6_minds_109 (lv_at hl 6 rfl) ?_
          refine lv_iload hx hb dX6_minds_111 (lv_at hl 4 rfl) ?_
          refine lv_icmp_ge (tgt := 148) hx hb dX6_minds_113 (by decide) (fun c_113 => ?_) (fun c_113 => ?_)
          · have hf := zp hf c_113
            refine lv_iload hx hb dX6_minds_148 (lv_at hl 4 rfl) ?_
            exact W.iret hx hb hr (fun t ht hW => hfin x4 N_laws N_kind N_holds N_gone N_tells N_drowned N_count N_course N_told N_z hf _ t ht hP (hS.F ht)) hS.2.2 dX6_minds_150
          · have hf := zn hf c_113
            refine lv_aload_n hx hb dX6_minds_116 rfl (lv_at hl 0 rfl) ?_
            refine va_get (D := D) (ci := 6) (v := .ref an0) (C := RX6) (T := TX6) (N := 9) hx hb hts hin6 hown hK hP 0 rfl rfl 0 (by decide) fl10 (fun _ h9 => h9) rfl dX6_minds_117 ?_
            refine va_get (D := D) (ci := 4) (v := .ref an4) (C := RX4) (T := TX4) (N := 10) hx hb hts hin4 hown hK hP 1 rfl rfl 3 (by decide) fl111 (fun _ h9 => h9) rfl dX6_minds_120 ?_
            refine lv_iload_n hx hb dX6_minds_123 rfl (lv_at hl 3 rfl) ?_
            refine lv_iload hx hb dX6_minds_124 (lv_at hl 6 rfl) ?_
            refine lv_iadd hx hb dX6_minds_126 ?_
            refine lv_aload hx hb dX6_minds_127 (lv_at hl 5 rfl) ?_
            refine va_get (D := D) (ci := 1) (v := .ref (aI 3)) (C := RX1) (T := TX1) (N := 3) hx hb hts hin1 hown hK hP 14 rfl rfl 0 (by decide) fl211 (fun _ h9 => h9) rfl dX6_minds_129 ?_
            refine lv_iload_n hx hb dX6_minds_132 rfl (lv_at hl 2 rfl) ?_
            refine lv_iload hx hb dX6_minds_133 (lv_at hl 6 rfl) ?_
            refine lv_iadd hx hb dX6_minds_135 ?_
            obtain ⟨h_136, hf⟩ := zg hf
            refine va_lald hx hb hK hP 15 2 rfl rfl h_136 dX6_minds_136 ?_
            refine lv_l2i hx hb dX6_minds_137 rfl ?_
            obtain ⟨r138, hc138, hf⟩ := zb hf
            refine zsr (o := some (.int r138)) (As := [.int ((S_items 3) (x2 + y6).toNatClampNeg).toInt32]) (rest := [.int (x3 + y6), .ref an4]) (stk := [.int r138, .int (x3 + y6), .ref an4]) ⟨hx, hb, hml, hown, hts⟩ (mX6_held l D cy st sk sv B  n (((S_items 3) (x2 + y6).toNatClampNeg).toInt32) r138 hc138) (va_cwS 1 hts gX6_minds_X6_held rfl rfl rfl (by decide +kernel) ⟨Nat.le_of_ble_eq_true rfl, Nat.le_of_ble_eq_true rfl⟩) hG hS hAB hP [] rfl rfl hl.1 rfl (Nat.le_of_ble_eq_true rfl) dX6_minds_138 rfl ?_
            obtain ⟨h_141, hf⟩ := zg hf
            refine va_iast hx hb hK hP hD hS 5 0 rfl rfl h_141 dX6_minds_141 (fun H locs hP hD hS => ?_)
            have hP : va_P D vwCl [(ak, .inr (6, [.ref an0, .ref ay0, .ref ae0, .int uK, .ref aa0, .ref aw0, .ref as0, .ref af0, .ref ag0])), (an0, .inr (4, [.ref an1, .ref an2, .ref an3, .ref an4, .ref an5, .int N_drowned, .int N_count, .int N_course, .int N_told, .int N_z])), (an1, .inl (cy 0, 4, .inl N_laws)), (an2, .inl (cy 0, 8, .inl N_kind)), (an3, .inl (cy 0, 8, .inl N_holds)), (an4, .inl (cy 0, 8, .inl (upd N_gone (x3 + y6).toNatClampNeg r138))), (an5, .inl (cy 0, 8, .inl N_tells)), (as0, .inl (cy 3, 4, .inr (.inr (.inr (.inr (fun j => some (aS j))))))), ((aS 0), .inr (1, [.ref (aI 0), .int (S_sort 0), .int (S_length 0)])), ((aI 0), .inl (cy 2, 40, .inr (.inl (S_items 0)))), ((aS 1), .inr (1, [.ref (aI 1), .int (S_sort 1), .int (S_length 1)])), ((aI 1), .inl (cy 2, 40, .inr (.inl (S_items 1)))), ((aS 2), .inr (1, [.ref (aI 2), .int (S_sort 2), .int (S_length 2)])), ((aI 2), .inl (cy 2, 40, .inr (.inl (S_items 2)))), ((aS 3), .inr (1, [.ref (aI 3), .int (S_sort 3), .int (S_length 3)])), ((aI 3), .inl (cy 2, 40, .inr (.inl (S_items 3))))] H := hP
            have hD : va_D A [(ak, .inr (6, [.ref an0, .ref ay0, .ref ae0, .int uK, .ref aa0, .ref aw0, .ref as0, .ref af0, .ref ag0])), (an0, .inr (4, [.ref an1, .ref an2, .ref an3, .ref an4, .ref an5, .int N_drowned, .int N_count, .int N_course, .int N_told, .int N_z])), (an1, .inl (cy 0, 4, .inl N_laws)), (an2, .inl (cy 0, 8, .inl N_kind)), (an3, .inl (cy 0, 8, .inl N_holds)), (an4, .inl (cy 0, 8, .inl (upd N_gone (x3 + y6).toNatClampNeg r138))), (an5, .inl (cy 0, 8, .inl N_tells)), (as0, .inl (cy 3, 4, .inr (.inr (.inr (.inr (fun j => some (aS j))))))), ((aS 0), .inr (1, [.ref (aI 0), .int (S_sort 0), .int (S_length 0)])), ((aI 0), .inl (cy 2, 40, .inr (.inl (S_items 0)))), ((aS 1), .inr (1, [.ref (aI 1), .int (S_sort 1), .int (S_length 1)])), ((aI 1), .inl (cy 2, 40, .inr (.inl (S_items 1)))), ((aS 2), .inr (1, [.ref (aI 2), .int (S_sort 2), .int (S_length 2)])), ((aI 2), .inl (cy 2, 40, .inr (.inl (S_items 2)))), ((aS 3), .inr (1, [.ref (aI 3), .int (S_sort 3), .int (S_length 3)])), ((aI 3), .inl (cy 2, 40, .inr (.inl (S_items 3))))] := hD
            refine lv_iinc (v := (y6 + (1 : Int32))) (lv' := [(6, .int (y6 + (1 : Int32))), (0, .ref ak), (1, .int x1), (2, .int x2), (3, .int x3), (4, .int x4), (5, .ref (aS 3))]) hx hb dX6_minds_142 hl (k := 6) rfl rfl (by decide) rfl (fun ls hl => ?_)
            refine lv_goto (tgt := 109) hx hb dX6_minds_145 (by decide) ?_
            exact hk109 N_laws N_kind N_holds (upd N_gone (x3 + y6).toNatClampNeg r138) N_tells N_drowned N_count N_course N_told N_z 3 (y6 + (1 : Int32)) hf (by decide) _ _ hP hD hS _ (lv_sub hl [1, 2, 3, 4, 5, 6, 0] rfl)
      exact fun v109 h9 => hstep v109.1.1 v109.1.2.1 v109.1.2.2.1 v109.1.2.2.2.1 v109.1.2.2.2.2.1 v109.1.2.2.2.2.2.1 v109.1.2.2.2.2.2.2.1 v109.1.2.2.2.2.2.2.2.1 v109.1.2.2.2.2.2.2.2.2.1 v109.1.2.2.2.2.2.2.2.2.2 v109.2.1 v109.2.2 h9
    exact fun n0 N_laws N_kind N_holds N_gone N_tells N_drowned N_count N_course N_told N_z y5 y6 h9 => key n0 ((N_laws, N_kind, N_holds, N_gone, N_tells, N_drowned, N_count, N_course, N_told, N_z), y5, y6) h9
  have hl := lv_entry ([.ref ak, .int x1, .int x2, .int x3, .int x4]) (n := 7) (Nat.le_of_ble_eq_true rfl)
  rw [lg_entry_eq]
  generalize (lg_sl ([.ref ak, .int x1, .int x2, .int x3, .int x4]) ++ List.replicate (7 - (lg_sl ([.ref ak, .int x1, .int x2, .int x3, .int x4])).length) Slot.unset).toArray = ls at hl ⊢
  have hl : lv_has ls 7 [(0, .ref ak), (1, .int x1), (2, .int x2), (3, .int x3), (4, .int x4)] := hl
  have hf : ((fX6_within n x1 (0 : Int32) (3 : Int32)).bind fun r3 => if r3 = 0 then (some ((-1 : Int32), (N_laws, N_kind, N_holds, N_gone, N_tells, N_drowned, N_count, N_course, N_told, N_z))) else ((fX4_has n (N_laws, N_kind, N_holds, N_gone, N_tells, N_drowned, N_count, N_course, N_told, N_z) x3).bind fun r14 => if r14 = 0 then (some ((-1 : Int32), (N_laws, N_kind, N_holds, N_gone, N_tells, N_drowned, N_count, N_course, N_told, N_z))) else ((fX6_within n x4 (0 : Int32) (8 : Int32)).bind fun r25 => if r25 = 0 then (some ((-1 : Int32), (N_laws, N_kind, N_holds, N_gone, N_tells, N_drowned, N_count, N_course, N_told, N_z))) else (if (x3 + x4) ≤ N_count then (if x1 < 0 ∨ 4 ≤ x1.toNatClampNeg then none else if (S_sort x1.toNatClampNeg) = (-1 : Int32) then (some ((-11 : Int32), (N_laws, N_kind, N_holds, N_gone, N_tells, N_drowned, N_count, N_course, N_told, N_z))) else (if (S_sort x1.toNatClampNeg) = 0 then ((fX6_within n x2 (0 : Int32) (S_length x1.toNatClampNeg)).bind fun r85 => if r85 = 0 then (some ((-12 : Int32), (N_laws, N_kind, N_holds, N_gone, N_tells, N_drowned, N_count, N_course, N_told, N_z))) else (if (x2 + x4) ≤ (S_length x1.toNatClampNeg) then (lpF (fX6_minds_F109 n uK (S_items, S_sort, S_length) x1 x2 x3 x4 ) n ((N_laws, N_kind, N_holds, N_gone, N_tells, N_drowned, N_count, N_course, N_told, N_z), x1.toNatClampNeg, (0 : Int32))) else (some ((-12 : Int32), (N_laws, N_kind, N_holds, N_gone, N_tells, N_drowned, N_count, N_course, N_told, N_z))))) else (some ((-13 : Int32), (N_laws, N_kind, N_holds, N_gone, N_tells, N_drowned, N_count, N_course, N_told, N_z))))) else (some ((-1 : Int32), (N_laws, N_kind, N_holds, N_gone, N_tells, N_drowned, N_count, N_course, N_told, N_z))))))) = some z := hf
  refine lv_iload_n hx hb dX6_minds_0 rfl (lv_at hl 1 rfl) ?_
  refine lv_iconst (v := (0 : Int32)) hx hb dX6_minds_1 (by decide) ?_
  refine lv_iconst (v := (3 : Int32)) hx hb dX6_minds_2 (by decide) ?_
  obtain ⟨r3, hc3, hf⟩ := zb hf
  refine zsr (o := some (.int r3)) (As := [.int x1, .int (0 : Int32), .int (3 : Int32)]) (rest := []) (stk := [.int r3]) ⟨hx, hb, hml, hown, hts⟩ (mX6_within l D cy st sk sv B  n x1 (0 : Int32) (3 : Int32) r3 hc3) (va_cwS 3 hts gX6_minds_X6_within rfl rfl rfl (by decide +kernel) ⟨Nat.le_of_ble_eq_true rfl, Nat.le_of_ble_eq_true rfl⟩) hG hS hAB hP [] rfl rfl hl.1 rfl (Nat.le_of_ble_eq_true rfl) dX6_minds_3 rfl ?_
  refine lv_if_eq (tgt := 45) hx hb dX6_minds_6 (by decide) (fun c_6 => ?_) (fun c_6 => ?_)
  · have hf := zp hf c_6
    refine lv_iconst (v := (-1 : Int32)) hx hb dX6_minds_45 (by decide) ?_
    exact W.iret hx hb hr (fun t ht hW => hfin (-1 : Int32) N_laws N_kind N_holds N_gone N_tells N_drowned N_count N_course N_told N_z hf _ t ht hP (hS.F ht)) hS.2.2 dX6_minds_46
  · have hf := zn hf c_6
    refine lv_aload_n hx hb dX6_minds_9 rfl (lv_at hl 0 rfl) ?_
    refine va_get (D := D) (ci := 6) (v := .ref an0) (C := RX6) (T := TX6) (N := 9) hx hb hts hin6 hown hK hP 0 rfl rfl 0 (by decide) fl10 (fun _ h9 => h9) rfl dX6_minds_10 ?_
    refine lv_iload_n hx hb dX6_minds_13 rfl (lv_at hl 3 rfl) ?_
    obtain ⟨r14, hc14, hf⟩ := zb hf
    refine zvr (o := some (.int r14)) (As := [.int x3]) (rest := []) (stk := [.int r14]) ⟨hx, hb, hml, hown, hts⟩ (mX4_has l D cy st sk sv B an0 an1 an2 an3 an4 an5 n N_laws N_kind N_holds N_gone N_tells N_drowned N_count N_course N_told N_z x3 r14 hc14) (cwV 1 hts gX6_minds_X4_has rfl rfl rfl (by decide +kernel) ⟨Nat.le_of_ble_eq_true rfl, Nat.le_of_ble_eq_true rfl⟩) hG hS hAB hP [1, 2, 3, 4, 5, 6] rfl 0 4 rfl rfl rfl rfl hl.1 rfl (Nat.le_of_ble_eq_true rfl) dX6_minds_14 rfl ?_
    refine lv_if_eq (tgt := 45) hx hb dX6_minds_17 (by decide) (fun c_17 => ?_) (fun c_17 => ?_)
    · have hf := zp hf c_17
      refine lv_iconst (v := (-1 : Int32)) hx hb dX6_minds_45 (by decide) ?_
      exact W.iret hx hb hr (fun t ht hW => hfin (-1 : Int32) N_laws N_kind N_holds N_gone N_tells N_drowned N_count N_course N_told N_z hf _ t ht hP (hS.F ht)) hS.2.2 dX6_minds_46
    · have hf := zn hf c_17
      refine lv_iload hx hb dX6_minds_20 (lv_at hl 4 rfl) ?_
      refine lv_iconst (v := (0 : Int32)) hx hb dX6_minds_22 (by decide) ?_
      refine lv_bipush (v := (8 : Int32)) hx hb dX6_minds_23 (by decide) ?_
      obtain ⟨r25, hc25, hf⟩ := zb hf
      refine zsr (o := some (.int r25)) (As := [.int x4, .int (0 : Int32), .int (8 : Int32)]) (rest := []) (stk := [.int r25]) ⟨hx, hb, hml, hown, hts⟩ (mX6_within l D cy st sk sv B  n x4 (0 : Int32) (8 : Int32) r25 hc25) (va_cwS 3 hts gX6_minds_X6_within rfl rfl rfl (by decide +kernel) ⟨Nat.le_of_ble_eq_true rfl, Nat.le_of_ble_eq_true rfl⟩) hG hS hAB hP [] rfl rfl hl.1 rfl (Nat.le_of_ble_eq_true rfl) dX6_minds_25 rfl ?_
      refine lv_if_eq (tgt := 45) hx hb dX6_minds_28 (by decide) (fun c_28 => ?_) (fun c_28 => ?_)
      · have hf := zp hf c_28
        refine lv_iconst (v := (-1 : Int32)) hx hb dX6_minds_45 (by decide) ?_
        exact W.iret hx hb hr (fun t ht hW => hfin (-1 : Int32) N_laws N_kind N_holds N_gone N_tells N_drowned N_count N_course N_told N_z hf _ t ht hP (hS.F ht)) hS.2.2 dX6_minds_46
      · have hf := zn hf c_28
        refine lv_iload_n hx hb dX6_minds_31 rfl (lv_at hl 3 rfl) ?_
        refine lv_iload hx hb dX6_minds_32 (lv_at hl 4 rfl) ?_
        refine lv_iadd hx hb dX6_minds_34 ?_
        refine lv_aload_n hx hb dX6_minds_35 rfl (lv_at hl 0 rfl) ?_
        refine va_get (D := D) (ci := 6) (v := .ref an0) (C := RX6) (T := TX6) (N := 9) hx hb hts hin6 hown hK hP 0 rfl rfl 0 (by decide) fl10 (fun _ h9 => h9) rfl dX6_minds_36 ?_
        refine va_get (D := D) (ci := 4) (v := .int N_count) (C := RX4) (T := TX4) (N := 10) hx hb hts hin4 hown hK hP 1 rfl rfl 6 (by decide) fl89 (fun _ h9 => h9) rfl dX6_minds_39 ?_
        refine lv_icmp_le (tgt := 47) hx hb dX6_minds_42 (by decide) (fun c_42 => ?_) (fun c_42 => ?_)
        · have hf := zp hf c_42
          refine lv_aload_n hx hb dX6_minds_47 rfl (lv_at hl 0 rfl) ?_
          refine va_get (D := D) (ci := 6) (v := .ref as0) (C := RX6) (T := TX6) (N := 9) hx hb hts hin6 hown hK hP 0 rfl rfl 6 (by decide) fl38 (fun _ h9 => h9) rfl dX6_minds_48 ?_
          refine lv_iload_n hx hb dX6_minds_51 rfl (lv_at hl 1 rfl) ?_
          obtain ⟨hi_x1, hf⟩ := zg hf
          rcases zc4 hi_x1 with hj_x1 | hj_x1 | hj_x1 | hj_x1
          · rw [hj_x1] at hf
            refine va_aldq hx hb hK hP 7 3 rfl rfl hi_x1 dX6_minds_52 ?_
            rw [hj_x1]
            refine W.eq (g2 := F0 m 53 ls [.ref (aS 0)]) rfl ?_
            refine lv_astore (lv' := [(5, .ref (aS 0)), (0, .ref ak), (1, .int x1), (2, .int x2), (3, .int x3), (4, .int x4)]) hx hb dX6_minds_53 hl (by decide) rfl (fun ls hl => ?_)
            refine lv_aload hx hb dX6_minds_55 (lv_at hl 0 rfl) ?_
            refine va_get (D := D) (ci := 1) (v := .int (S_sort 0)) (C := RX1) (T := TX1) (N := 3) hx hb hts hin1 hown hK hP 8 rfl rfl 1 (by decide) fl203 (fun _ h9 => h9) rfl dX6_minds_57 ?_
            refine lv_iconst (v := (-1 : Int32)) hx hb dX6_minds_60 (by decide) ?_
            refine lv_icmp_ne (tgt := 67) hx hb dX6_minds_61 (by decide) (fun c_61 => ?_) (fun c_61 => ?_)
            · have hf := zn hf c_61
              refine lv_aload hx hb dX6_minds_67 (lv_at hl 0 rfl) ?_
              refine va_get (D := D) (ci := 1) (v := .int (S_sort 0)) (C := RX1) (T := TX1) (N := 3) hx hb hts hin1 hown hK hP 8 rfl rfl 1 (by decide) fl203 (fun _ h9 => h9) rfl dX6_minds_69 ?_
              refine lv_if_eq (tgt := 78) hx hb dX6_minds_72 (by decide) (fun c_72 => ?_) (fun c_72 => ?_)
              · have hf := zp hf c_72
                refine lv_iload_n hx hb dX6_minds_78 rfl (lv_at hl 3 rfl) ?_
                refine lv_iconst (v := (0 : Int32)) hx hb dX6_minds_79 (by decide) ?_
                refine lv_aload hx hb dX6_minds_80 (lv_at hl 0 rfl) ?_
                refine va_get (D := D) (ci := 1) (v := .int (S_length 0)) (C := RX1) (T := TX1) (N := 3) hx hb hts hin1 hown hK hP 8 rfl rfl 2 (by decide) fl210 (fun _ h9 => h9) rfl dX6_minds_82 ?_
                obtain ⟨r85, hc85, hf⟩ := zb hf
                refine zsr (o := some (.int r85)) (As := [.int x2, .int (0 : Int32), .int (S_length 0)]) (rest := []) (stk := [.int r85]) ⟨hx, hb, hml, hown, hts⟩ (mX6_within l D cy st sk sv B  n x2 (0 : Int32) (S_length 0) r85 hc85) (va_cwS 3 hts gX6_minds_X6_within rfl rfl rfl (by decide +kernel) ⟨Nat.le_of_ble_eq_true rfl, Nat.le_of_ble_eq_true rfl⟩) hG hS hAB hP [] rfl rfl hl.1 rfl (Nat.le_of_ble_eq_true rfl) dX6_minds_85 rfl ?_
                refine lv_if_eq (tgt := 103) hx hb dX6_minds_88 (by decide) (fun c_88 => ?_) (fun c_88 => ?_)
                · have hf := zp hf c_88
                  refine lv_bipush (v := (-12 : Int32)) hx hb dX6_minds_103 (by decide) ?_
                  exact W.iret hx hb hr (fun t ht hW => hfin (-12 : Int32) N_laws N_kind N_holds N_gone N_tells N_drowned N_count N_course N_told N_z hf _ t ht hP (hS.F ht)) hS.2.2 dX6_minds_105
                · have hf := zn hf c_88
                  refine lv_iload_n hx hb dX6_minds_91 rfl (lv_at hl 3 rfl) ?_
                  refine lv_iload hx hb dX6_minds_92 (lv_at hl 5 rfl) ?_
                  refine lv_iadd hx hb dX6_minds_94 ?_
                  refine lv_aload hx hb dX6_minds_95 (lv_at hl 0 rfl) ?_
                  refine va_get (D := D) (ci := 1) (v := .int (S_length 0)) (C := RX1) (T := TX1) (N := 3) hx hb hts hin1 hown hK hP 8 rfl rfl 2 (by decide) fl210 (fun _ h9 => h9) rfl dX6_minds_97 ?_
                  refine lv_icmp_le (tgt := 106) hx hb dX6_minds_100 (by decide) (fun c_100 => ?_) (fun c_100 => ?_)
                  · have hf := zp hf c_100
                    refine lv_iconst (v := (0 : Int32)) hx hb dX6_minds_106 (by decide) ?_
                    refine lv_istore (lv' := [(6, .int (0 : Int32)), (5, .ref (aS 0)), (0, .ref ak), (1, .int x1), (2, .int x2), (3, .int x3), (4, .int x4)]) hx hb dX6_minds_107 hl (by decide) rfl (fun ls hl => ?_)
                    exact hL109 n N_laws N_kind N_holds N_gone N_tells N_drowned N_count N_course N_told N_z 0 (0 : Int32) hf (by decide) _ _ hP hD hS _ (lv_sub hl [2, 3, 4, 5, 6, 1, 0] rfl)
                  · have hf := zn hf c_100
                    refine lv_bipush (v := (-12 : Int32)) hx hb dX6_minds_103 (by decide) ?_
                    exact W.iret hx hb hr (fun t ht hW => hfin (-12 : Int32) N_laws N_kind N_holds N_gone N_tells N_drowned N_count N_course N_told N_z hf _ t ht hP (hS.F ht)) hS.2.2 dX6_minds_105
              · have hf := zn hf c_72
                refine lv_bipush (v := (-13 : Int32)) hx hb dX6_minds_75 (by decide) ?_
                exact W.iret hx hb hr (fun t ht hW => hfin (-13 : Int32) N_laws N_kind N_holds N_gone N_tells N_drowned N_count N_course N_told N_z hf _ t ht hP (hS.F ht)) hS.2.2 dX6_minds_77
            · have hf := zp hf c_61
              refine lv_bipush (v := (-11 : Int32)) hx hb dX6_minds_64 (by decide) ?_
              exact W.iret hx hb hr (fun t ht hW => hfin (-11 : Int32) N_laws N_kind N_holds N_gone N_tells N_drowned N_count N_course N_told N_z hf _ t ht hP (hS.F ht)) hS.2.2 dX6_minds_66
          · rw [hj_x1] at hf
            refine va_aldq hx hb hK hP 7 3 rfl rfl hi_x1 dX6_minds_52 ?_
            rw [hj_x1]
            refine W.eq (g2 := F0 m 53 ls [.ref (aS 1)]) rfl ?_
            refine lv_astore (lv' := [(5, .ref (aS 1)), (0, .ref ak), (1, .int x1), (2, .int x2), (3, .int x3), (4, .int x4)]) hx hb dX6_minds_53 hl (by decide) rfl (fun ls hl => ?_)
            refine lv_aload hx hb dX6_minds_55 (lv_at hl 0 rfl) ?_
            refine va_get (D := D) (ci := 1) (v := .int (S_sort 1)) (C := RX1) (T := TX1) (N := 3) hx hb hts hin1 hown hK hP 10 rfl rfl 1 (by decide) fl203 (fun _ h9 => h9) rfl dX6_minds_57 ?_
            refine lv_iconst (v := (-1 : Int32)) hx hb dX6_minds_60 (by decide) ?_
            refine lv_icmp_ne (tgt := 67) hx hb dX6_minds_61 (by decide) (fun c_61 => ?_) (fun c_61 => ?_)
            · have hf := zn hf c_61
              refine lv_aload hx hb dX6_minds_67 (lv_at hl 0 rfl) ?_
              refine va_get (D := D) (ci := 1) (v := .int (S_sort 1)) (C := RX1) (T := TX1) (N := 3) hx hb hts hin1 hown hK hP 10 rfl rfl 1 (by decide) fl203 (fun _ h9 => h9) rfl dX6_minds_69 ?_
              refine lv_if_eq (tgt := 78) hx hb dX6_minds_72 (by decide) (fun c_72 => ?_) (fun c_72 => ?_)
              · have hf := zp hf c_72
                refine lv_iload_n hx hb dX6_minds_78 rfl (lv_at hl 3 rfl) ?_
                refine lv_iconst (v := (0 : Int32)) hx hb dX6_minds_79 (by decide) ?_
                refine lv_aload hx hb dX6_minds_80 (lv_at hl 0 rfl) ?_
                refine va_get (D := D) (ci := 1) (v := .int (S_length 1)) (C := RX1) (T := TX1) (N := 3) hx hb hts hin1 hown hK hP 10 rfl rfl 2 (by decide) fl210 (fun _ h9 => h9) rfl dX6_minds_82 ?_
                obtain ⟨r85, hc85, hf⟩ := zb hf
                refine zsr (o := some (.int r85)) (As := [.int x2, .int (0 : Int32), .int (S_length 1)]) (rest := []) (stk := [.int r85]) ⟨hx, hb, hml, hown, hts⟩ (mX6_within l D cy st sk sv B  n x2 (0 : Int32) (S_length 1) r85 hc85) (va_cwS 3 hts gX6_minds_X6_within rfl rfl rfl (by decide +kernel) ⟨Nat.le_of_ble_eq_true rfl, Nat.le_of_ble_eq_true rfl⟩) hG hS hAB hP [] rfl rfl hl.1 rfl (Nat.le_of_ble_eq_true rfl) dX6_minds_85 rfl ?_
                refine lv_if_eq (tgt := 103) hx hb dX6_minds_88 (by decide) (fun c_88 => ?_) (fun c_88 => ?_)
                · have hf := zp hf c_88
                  refine lv_bipush (v := (-12 : Int32)) hx hb dX6_minds_103 (by decide) ?_
                  exact W.iret hx hb hr (fun t ht hW => hfin (-12 : Int32) N_laws N_kind N_holds N_gone N_tells N_drowned N_count N_course N_told N_z hf _ t ht hP (hS.F ht)) hS.2.2 dX6_minds_105
                · have hf := zn hf c_88
                  refine lv_iload_n hx hb dX6_minds_91 rfl (lv_at hl 3 rfl) ?_
                  refine lv_iload hx hb dX6_minds_92 (lv_at hl 5 rfl) ?_
                  refine lv_iadd hx hb dX6_minds_94 ?_
                  refine lv_aload hx hb dX6_minds_95 (lv_at hl 0 rfl) ?_
                  refine va_get (D := D) (ci := 1) (v := .int (S_length 1)) (C := RX1) (T := TX1) (N := 3) hx hb hts hin1 hown hK hP 10 rfl rfl 2 (by decide) fl210 (fun _ h9 => h9) rfl dX6_minds_97 ?_
                  refine lv_icmp_le (tgt := 106) hx hb dX6_minds_100 (by decide) (fun c_100 => ?_) (fun c_100 => ?_)
                  · have hf := zp hf c_100
                    refine lv_iconst (v := (0 : Int32)) hx hb dX6_minds_106 (by decide) ?_
                    refine lv_istore (lv' := [(6, .int (0 : Int32)), (5, .ref (aS 1)), (0, .ref ak), (1, .int x1), (2, .int x2), (3, .int x3), (4, .int x4)]) hx hb dX6_minds_107 hl (by decide) rfl (fun ls hl => ?_)
                    exact hL109 n N_laws N_kind N_holds N_gone N_tells N_drowned N_count N_course N_told N_z 1 (0 : Int32) hf (by decide) _ _ hP hD hS _ (lv_sub hl [2, 3, 4, 5, 6, 1, 0] rfl)
                  · have hf := zn hf c_100
                    refine lv_bipush (v := (-12 : Int32)) hx hb dX6_minds_103 (by decide) ?_
                    exact W.iret hx hb hr (fun t ht hW => hfin (-12 : Int32) N_laws N_kind N_holds N_gone N_tells N_drowned N_count N_course N_told N_z hf _ t ht hP (hS.F ht)) hS.2.2 dX6_minds_105
              · have hf := zn hf c_72
                refine lv_bipush (v := (-13 : Int32)) hx hb dX6_minds_75 (by decide) ?_
                exact W.iret hx hb hr (fun t ht hW => hfin (-13 : Int32) N_laws N_kind N_holds N_gone N_tells N_drowned N_count N_course N_told N_z hf _ t ht hP (hS.F ht)) hS.2.2 dX6_minds_77
            · have hf := zp hf c_61
              refine lv_bipush (v := (-11 : Int32)) hx hb dX6_minds_64 (by decide) ?_
              exact W.iret hx hb hr (fun t ht hW => hfin (-11 : Int32) N_laws N_kind N_holds N_gone N_tells N_drowned N_count N_course N_told N_z hf _ t ht hP (hS.F ht)) hS.2.2 dX6_minds_66
          · rw [hj_x1] at hf
            refine va_aldq hx hb hK hP 7 3 rfl rfl hi_x1 dX6_minds_52 ?_
            rw [hj_x1]
            refine W.eq (g2 := F0 m 53 ls [.ref (aS 2)]) rfl ?_
            refine lv_astore (lv' := [(5, .ref (aS 2)), (0, .ref ak), (1, .int x1), (2, .int x2), (3, .int x3), (4, .int x4)]) hx hb dX6_minds_53 hl (by decide) rfl (fun ls hl => ?_)
            refine lv_aload hx hb dX6_minds_55 (lv_at hl 0 rfl) ?_
            refine va_get (D := D) (ci := 1) (v := .int (S_sort 2)) (C := RX1) (T := TX1) (N := 3) hx hb hts hin1 hown hK hP 12 rfl rfl 1 (by decide) fl203 (fun _ h9 => h9) rfl dX6_minds_57 ?_
            refine lv_iconst (v := (-1 : Int32)) hx hb dX6_minds_60 (by decide) ?_
            refine lv_icmp_ne (tgt := 67) hx hb dX6_minds_61 (by decide) (fun c_61 => ?_) (fun c_61 => ?_)
            · have hf := zn hf c_61
              refine lv_aload hx hb dX6_minds_67 (lv_at hl 0 rfl) ?_
              refine va_get (D := D) (ci := 1) (v := .int (S_sort 2)) (C := RX1) (T := TX1) (N := 3) hx hb hts hin1 hown hK hP 12 rfl rfl 1 (by decide) fl203 (fun _ h9 => h9) rfl dX6_minds_69 ?_
              refine lv_if_eq (tgt := 78) hx hb dX6_minds_72 (by decide) (fun c_72 => ?_) (fun c_72 => ?_)
              · have hf := zp hf c_72
                refine lv_iload_n hx hb dX6_minds_78 rfl (lv_at hl 3 rfl) ?_
                refine lv_iconst (v := (0 : Int32)) hx hb dX6_minds_79 (by decide) ?_
                refine lv_aload hx hb dX6_minds_80 (lv_at hl 0 rfl) ?_
                refine va_get (D := D) (ci := 1) (v := .int (S_length 2)) (C := RX1) (T := TX1) (N := 3) hx hb hts hin1 hown hK hP 12 rfl rfl 2 (by decide) fl210 (fun _ h9 => h9) rfl dX6_minds_82 ?_
                obtain ⟨r85, hc85, hf⟩ := zb hf
                refine zsr (o := some (.int r85)) (As := [.int x2, .int (0 : Int32), .int (S_length 2)]) (rest := []) (stk := [.int r85]) ⟨hx, hb, hml, hown, hts⟩ (mX6_within l D cy st sk sv B  n x2 (0 : Int32) (S_length 2) r85 hc85) (va_cwS 3 hts gX6_minds_X6_within rfl rfl rfl (by decide +kernel) ⟨Nat.le_of_ble_eq_true rfl, Nat.le_of_ble_eq_true rfl⟩) hG hS hAB hP [] rfl rfl hl.1 rfl (Nat.le_of_ble_eq_true rfl) dX6_minds_85 rfl ?_
                refine lv_if_eq (tgt := 103) hx hb dX6_minds_88 (by decide) (fun c_88 => ?_) (fun c_88 => ?_)
                · have hf := zp hf c_88
                  refine lv_bipush (v := (-12 : Int32)) hx hb dX6_minds_103 (by decide) ?_
                  exact W.iret hx hb hr (fun t ht hW => hfin (-12 : Int32) N_laws N_kind N_holds N_gone N_tells N_drowned N_count N_course N_told N_z hf _ t ht hP (hS.F ht)) hS.2.2 dX6_minds_105
                · have hf := zn hf c_88
                  refine lv_iload_n hx hb dX6_minds_91 rfl (lv_at hl 3 rfl) ?_
                  refine lv_iload hx hb dX6_minds_92 (lv_at hl 5 rfl) ?_
                  refine lv_iadd hx hb dX6_minds_94 ?_
                  refine lv_aload hx hb dX6_minds_95 (lv_at hl 0 rfl) ?_
                  refine va_get (D := D) (ci := 1) (v := .int (S_length 2)) (C := RX1) (T := TX1) (N := 3) hx hb hts hin1 hown hK hP 12 rfl rfl 2 (by decide) fl210 (fun _ h9 => h9) rfl dX6_minds_97 ?_
                  refine lv_icmp_le (tgt := 106) hx hb dX6_minds_100 (by decide) (fun c_100 => ?_) (fun c_100 => ?_)
                  · have hf := zp hf c_100
                    refine lv_iconst (v := (0 : Int32)) hx hb dX6_minds_106 (by decide) ?_
                    refine lv_istore (lv' := [(6, .int (0 : Int32)), (5, .ref (aS 2)), (0, .ref ak), (1, .int x1), (2, .int x2), (3, .int x3), (4, .int x4)]) hx hb dX6_minds_107 hl (by decide) rfl (fun ls hl => ?_)
                    exact hL109 n N_laws N_kind N_holds N_gone N_tells N_drowned N_count N_course N_told N_z 2 (0 : Int32) hf (by decide) _ _ hP hD hS _ (lv_sub hl [2, 3, 4, 5, 6, 1, 0] rfl)
                  · have hf := zn hf c_100
                    refine lv_bipush (v := (-12 : Int32)) hx hb dX6_minds_103 (by decide) ?_
                    exact W.iret hx hb hr (fun t ht hW => hfin (-12 : Int32) N_laws N_kind N_holds N_gone N_tells N_drowned N_count N_course N_told N_z hf _ t ht hP (hS.F ht)) hS.2.2 dX6_minds_105
              · have hf := zn hf c_72
                refine lv_bipush (v := (-13 : Int32)) hx hb dX6_minds_75 (by decide) ?_
                exact W.iret hx hb hr (fun t ht hW => hfin (-13 : Int32) N_laws N_kind N_holds N_gone N_tells N_drowned N_count N_course N_told N_z hf _ t ht hP (hS.F ht)) hS.2.2 dX6_minds_77
            · have hf := zp hf c_61
              refine lv_bipush (v := (-11 : Int32)) hx hb dX6_minds_64 (by decide) ?_
              exact W.iret hx hb hr (fun t ht hW => hfin (-11 : Int32) N_laws N_kind N_holds N_gone N_tells N_drowned N_count N_course N_told N_z hf _ t ht hP (hS.F ht)) hS.2.2 dX6_minds_66
          · rw [hj_x1] at hf
            refine va_aldq hx hb hK hP 7 3 rfl rfl hi_x1 dX6_minds_52 ?_
            rw [hj_x1]
            refine W.eq (g2 := F0 m 53 ls [.ref (aS 3)]) rfl ?_
            refine lv_astore (lv' := [(5, .ref (aS 3)), (0, .ref ak), (1, .int x1), (2, .int x2), (3, .int x3), (4, .int x4)]) hx hb dX6_minds_53 hl (by decide) rfl (fun ls hl => ?_)
            refine lv_aload hx hb dX6_minds_55 (lv_at hl 0 rfl) ?_
            refine va_get (D := D) (ci := 1) (v := .int (S_sort 3)) (C := RX1) (T := TX1) (N := 3) hx hb hts hin1 hown hK hP 14 rfl rfl 1 (by decide) fl203 (fun _ h9 => h9) rfl dX6_minds_57 ?_
            refine lv_iconst (v := (-1 : Int32)) hx hb dX6_minds_60 (by decide) ?_
            refine lv_icmp_ne (tgt := 67) hx hb dX6_minds_61 (by decide) (fun c_61 => ?_) (fun c_61 => ?_)
            · have hf := zn hf c_61
              refine lv_aload hx hb dX6_minds_67 (lv_at hl 0 rfl) ?_
              refine va_get (D := D) (ci := 1) (v := .int (S_sort 3)) (C := RX1) (T := TX1) (N := 3) hx hb hts hin1 hown hK hP 14 rfl rfl 1 (by decide) fl203 (fun _ h9 => h9) rfl dX6_minds_69 ?_
              refine lv_if_eq (tgt := 78) hx hb dX6_minds_72 (by decide) (fun c_72 => ?_) (fun c_72 => ?_)
              · have hf := zp hf c_72
                refine lv_iload_n hx hb dX6_minds_78 rfl (lv_at hl 3 rfl) ?_
                refine lv_iconst (v := (0 : Int32)) hx hb dX6_minds_79 (by decide) ?_
                refine lv_aload hx hb dX6_minds_80 (lv_at hl 0 rfl) ?_
                refine va_get (D := D) (ci := 1) (v := .int (S_length 3)) (C := RX1) (T := TX1) (N := 3) hx hb hts hin1 hown hK hP 14 rfl rfl 2 (by decide) fl210 (fun _ h9 => h9) rfl dX6_minds_82 ?_
                obtain ⟨r85, hc85, hf⟩ := zb hf
                refine zsr (o := some (.int r85)) (As := [.int x2, .int (0 : Int32), .int (S_length 3)]) (rest := []) (stk := [.int r85]) ⟨hx, hb, hml, hown, hts⟩ (mX6_within l D cy st sk sv B  n x2 (0 : Int32) (S_length 3) r85 hc85) (va_cwS 3 hts gX6_minds_X6_within rfl rfl rfl (by decide +kernel) ⟨Nat.le_of_ble_eq_true rfl, Nat.le_of_ble_eq_true rfl⟩) hG hS hAB hP [] rfl rfl hl.1 rfl (Nat.le_of_ble_eq_true rfl) dX6_minds_85 rfl ?_
                refine lv_if_eq (tgt := 103) hx hb dX6_minds_88 (by decide) (fun c_88 => ?_) (fun c_88 => ?_)
                · have hf := zp hf c_88
                  refine lv_bipush (v := (-12 : Int32)) hx hb dX6_minds_103 (by decide) ?_
                  exact W.iret hx hb hr (fun t ht hW => hfin (-12 : Int32) N_laws N_kind N_holds N_gone N_tells N_drowned N_count N_course N_told N_z hf _ t ht hP (hS.F ht)) hS.2.2 dX6_minds_105
                · have hf := zn hf c_88
                  refine lv_iload_n hx hb dX6_minds_91 rfl (lv_at hl 3 rfl) ?_
                  refine lv_iload hx hb dX6_minds_92 (lv_at hl 5 rfl) ?_
                  refine lv_iadd hx hb dX6_minds_94 ?_
                  refine lv_aload hx hb dX6_minds_95 (lv_at hl 0 rfl) ?_
                  refine va_get (D := D) (ci := 1) (v := .int (S_length 3)) (C := RX1) (T := TX1) (N := 3) hx hb hts hin1 hown hK hP 14 rfl rfl 2 (by decide) fl210 (fun _ h9 => h9) rfl dX6_minds_97 ?_
                  refine lv_icmp_le (tgt := 106) hx hb dX6_minds_100 (by decide) (fun c_100 => ?_) (fun c_100 => ?_)
                  · have hf := zp hf c_100
                    refine lv_iconst (v := (0 : Int32)) hx hb dX6_minds_106 (by decide) ?_
                    refine lv_istore (lv' := [(6, .int (0 : Int32)), (5, .ref (aS 3)), (0, .ref ak), (1, .int x1), (2, .int x2), (3, .int x3), (4, .int x4)]) hx hb dX6_minds_107 hl (by decide) rfl (fun ls hl => ?_)
                    exact hL109 n N_laws N_kind N_holds N_gone N_tells N_drowned N_count N_course N_told N_z 3 (0 : Int32) hf (by decide) _ _ hP hD hS _ (lv_sub hl [2, 3, 4, 5, 6, 1, 0] rfl)
                  · have hf := zn hf c_100
                    refine lv_bipush (v := (-12 : Int32)) hx hb dX6_minds_103 (by decide) ?_
                    exact W.iret hx hb hr (fun t ht hW => hfin (-12 : Int32) N_laws N_kind N_holds N_gone N_tells N_drowned N_count N_course N_told N_z hf _ t ht hP (hS.F ht)) hS.2.2 dX6_minds_105
              · have hf := zn hf c_72
                refine lv_bipush (v := (-13 : Int32)) hx hb dX6_minds_75 (by decide) ?_
                exact W.iret hx hb hr (fun t ht hW => hfin (-13 : Int32) N_laws N_kind N_holds N_gone N_tells N_drowned N_count N_course N_told N_z hf _ t ht hP (hS.F ht)) hS.2.2 dX6_minds_77
            · have hf := zp hf c_61
              refine lv_bipush (v := (-11 : Int32)) hx hb dX6_minds_64 (by decide) ?_
              exact W.iret hx hb hr (fun t ht hW => hfin (-11 : Int32) N_laws N_kind N_holds N_gone N_tells N_drowned N_count N_course N_told N_z hf _ t ht hP (hS.F ht)) hS.2.2 dX6_minds_66
        · have hf := zn hf c_42
          refine lv_iconst (v := (-1 : Int32)) hx hb dX6_minds_45 (by decide) ?_
          exact W.iret hx hb hr (fun t ht hW => hfin (-1 : Int32) N_laws N_kind N_holds N_gone N_tells N_drowned N_count N_course N_told N_z hf _ t ht hP (hS.F ht)) hS.2.2 dX6_minds_46
set_option maxRecDepth 100000 in
set_option maxHeartbeats 100000000 in
theorem mX6_sheet (l : Launch) (D : va_G) (cy : Nat → ClassId) (st sk sv : Nat → Nat) (B : Nat) (ak : Nat) (an0 : Nat) (ay0 : Nat) (ae0 : Nat) (aa0 : Nat) (aw0 : Nat) (as0 : Nat) (af0 : Nat) (ag0 : Nat) (aS : Nat → Nat) (aI : Nat → Nat) (sz : Nat) (n : Nat) (uK : Int32) (S_items : (Nat → Nat → Int64)) (S_sort : (Nat → Int32)) (S_length : (Nat → Int32)) (x1 : Int32) (x2 : Int32) (x3 : Int32) (z : Int32 × SH) (hf : fX6_sheet n uK (S_items, S_sort, S_length) x1 x2 x3 = some z) : Met l yX6_sheet wsX6_sheet ({ frames := 2, cells := 0, slots := 0, locals := 46 }) (PcW [.ref ak, .int x1, .int x2, .int x3] D cy st sk sv B sz [(ak, .inr (6, [.ref an0, .ref ay0, .ref ae0, .int uK, .ref aa0, .ref aw0, .ref as0, .ref af0, .ref ag0])), (as0, .inl (cy 3, 4, .inr (.inr (.inr (.inr (fun j => some (aS j))))))), ((aS 0), .inr (1, [.ref (aI 0), .int (S_sort 0), .int (S_length 0)])), ((aI 0), .inl (cy 2, 40, .inr (.inl (S_items 0)))), ((aS 1), .inr (1, [.ref (aI 1), .int (S_sort 1), .int (S_length 1)])), ((aI 1), .inl (cy 2, 40, .inr (.inl (S_items 1)))), ((aS 2), .inr (1, [.ref (aI 2), .int (S_sort 2), .int (S_length 2)])), ((aI 2), .inl (cy 2, 40, .inr (.inl (S_items 2)))), ((aS 3), .inr (1, [.ref (aI 3), .int (S_sort 3), .int (S_length 3)])), ((aI 3), .inl (cy 2, 40, .inr (.inl (S_items 3))))]) (Qw (some (.int z.1)) D [(ak, .inr (6, [.ref an0, .ref ay0, .ref ae0, .int uK, .ref aa0, .ref aw0, .ref as0, .ref af0, .ref ag0])), (as0, .inl (cy 3, 4, .inr (.inr (.inr (.inr (fun j => some (aS j))))))), ((aS 0), .inr (1, [.ref (aI 0), .int (z.2.2.1 0), .int (z.2.2.2 0)])), ((aI 0), .inl (cy 2, 40, .inr (.inl (z.2.1 0)))), ((aS 1), .inr (1, [.ref (aI 1), .int (z.2.2.1 1), .int (z.2.2.2 1)])), ((aI 1), .inl (cy 2, 40, .inr (.inl (z.2.1 1)))), ((aS 2), .inr (1, [.ref (aI 2), .int (z.2.2.1 2), .int (z.2.2.2 2)])), ((aI 2), .inl (cy 2, 40, .inr (.inl (z.2.1 2)))), ((aS 3), .inr (1, [.ref (aI 3), .int (z.2.2.1 3), .int (z.2.2.2 3)])), ((aI 3), .inl (cy 2, 40, .inr (.inl (z.2.1 3))))] (va_A [(ak, .inr (6, [.ref an0, .ref ay0, .ref ae0, .int uK, .ref aa0, .ref aw0, .ref as0, .ref af0, .ref ag0])), (as0, .inl (cy 3, 4, .inr (.inr (.inr (.inr (fun j => some (aS j))))))), ((aS 0), .inr (1, [.ref (aI 0), .int (S_sort 0), .int (S_length 0)])), ((aI 0), .inl (cy 2, 40, .inr (.inl (S_items 0)))), ((aS 1), .inr (1, [.ref (aI 1), .int (S_sort 1), .int (S_length 1)])), ((aI 1), .inl (cy 2, 40, .inr (.inl (S_items 1)))), ((aS 2), .inr (1, [.ref (aI 2), .int (S_sort 2), .int (S_length 2)])), ((aI 2), .inl (cy 2, 40, .inr (.inl (S_items 2)))), ((aS 3), .inr (1, [.ref (aI 3), .int (S_sort 3), .int (S_length 3)])), ((aI 3), .inl (cy 2, 40, .inr (.inl (S_items 3))))] sz)) 0 0 (va_A [(ak, .inr (6, [.ref an0, .ref ay0, .ref ae0, .int uK, .ref aa0, .ref aw0, .ref as0, .ref af0, .ref ag0])), (as0, .inl (cy 3, 4, .inr (.inr (.inr (.inr (fun j => some (aS j))))))), ((aS 0), .inr (1, [.ref (aI 0), .int (S_sort 0), .int (S_length 0)])), ((aI 0), .inl (cy 2, 40, .inr (.inl (S_items 0)))), ((aS 1), .inr (1, [.ref (aI 1), .int (S_sort 1), .int (S_length 1)])), ((aI 1), .inl (cy 2, 40, .inr (.inl (S_items 1)))), ((aS 2), .inr (1, [.ref (aI 2), .int (S_sort 2), .int (S_length 2)])), ((aI 2), .inl (cy 2, 40, .inr (.inl (S_items 2)))), ((aS 3), .inr (1, [.ref (aI 3), .int (S_sort 3), .int (S_length 3)])), ((aI 3), .inl (cy 2, 40, .inr (.inl (S_items 3))))] sz) := by
  refine Met.ofW (cc := cX6_sheet) (maxL := 4) (ret := (some .int)) (by decide) rfl ?_
  intro p e s m args below meth c s₁ Bd hml hv
  obtain ⟨rfl, hsz, hP, hD0, hBs, hG⟩ := hv
  have hx := Bd.exec
  have hb := Bd.bytes
  have hr := Bd.returns
  have hts := atoms_spec (ws := wsX6_sheet) Bd.pre
  have hown : s.vm.findClass RX6 = some m.cls := findClass_of_methodNamed Bd.named
  have hlocks := Bd.notSynchronized
  have hK := hG.1
  subst hsz
  have hD := hD0.self (sz := s.heap.size)
  have hAB0 := zA hD0 hBs
  generalize hAe : va_A [(ak, .inr (6, [.ref an0, .ref ay0, .ref ae0, .int uK, .ref aa0, .ref aw0, .ref as0, .ref af0, .ref ag0])), (as0, .inl (cy 3, 4, .inr (.inr (.inr (.inr (fun j => some (aS j))))))), ((aS 0), .inr (1, [.ref (aI 0), .int (S_sort 0), .int (S_length 0)])), ((aI 0), .inl (cy 2, 40, .inr (.inl (S_items 0)))), ((aS 1), .inr (1, [.ref (aI 1), .int (S_sort 1), .int (S_length 1)])), ((aI 1), .inl (cy 2, 40, .inr (.inl (S_items 1)))), ((aS 2), .inr (1, [.ref (aI 2), .int (S_sort 2), .int (S_length 2)])), ((aI 2), .inl (cy 2, 40, .inr (.inl (S_items 2)))), ((aS 3), .inr (1, [.ref (aI 3), .int (S_sort 3), .int (S_length 3)])), ((aI 3), .inl (cy 2, 40, .inr (.inl (S_items 3))))] s.heap.size = A at hD hAB0 ⊢
  have hA : ∀ q : Nat, s.heap.size ≤ q → A q := fun q h => by rw [← hAe]; exact Or.inr h
  have hAB : ∀ q, A q → B ≤ q := hAB0
  have hS : va_S A s.heap s.heap [] := va_S.rf
  have hfin : ∀ (z0 : Int32) (S_items : (Nat → Nat → Int64)) (S_sort : (Nat → Int32)) (S_length : (Nat → Int32)), some (z0, (S_items, S_sort, S_length)) = some z → ∀ (H : Heap) (t : State), t.heap = H → va_P D vwCl [(ak, .inr (6, [.ref an0, .ref ay0, .ref ae0, .int uK, .ref aa0, .ref aw0, .ref as0, .ref af0, .ref ag0])), (as0, .inl (cy 3, 4, .inr (.inr (.inr (.inr (fun j => some (aS j))))))), ((aS 0), .inr (1, [.ref (aI 0), .int (S_sort 0), .int (S_length 0)])), ((aI 0), .inl (cy 2, 40, .inr (.inl (S_items 0)))), ((aS 1), .inr (1, [.ref (aI 1), .int (S_sort 1), .int (S_length 1)])), ((aI 1), .inl (cy 2, 40, .inr (.inl (S_items 1)))), ((aS 2), .inr (1, [.ref (aI 2), .int (S_sort 2), .int (S_length 2)])), ((aI 2), .inl (cy 2, 40, .inr (.inl (S_items 2)))), ((aS 3), .inr (1, [.ref (aI 3), .int (S_sort 3), .int (S_length 3)])), ((aI 3), .inl (cy 2, 40, .inr (.inl (S_items 3))))] H → va_F A s t → Qw (some (.int z.1)) D [(ak, .inr (6, [.ref an0, .ref ay0, .ref ae0, .int uK, .ref aa0, .ref aw0, .ref as0, .ref af0, .ref ag0])), (as0, .inl (cy 3, 4, .inr (.inr (.inr (.inr (fun j => some (aS j))))))), ((aS 0), .inr (1, [.ref (aI 0), .int (z.2.2.1 0), .int (z.2.2.2 0)])), ((aI 0), .inl (cy 2, 40, .inr (.inl (z.2.1 0)))), ((aS 1), .inr (1, [.ref (aI 1), .int (z.2.2.1 1), .int (z.2.2.2 1)])), ((aI 1), .inl (cy 2, 40, .inr (.inl (z.2.1 1)))), ((aS 2), .inr (1, [.ref (aI 2), .int (z.2.2.1 2), .int (z.2.2.2 2)])), ((aI 2), .inl (cy 2, 40, .inr (.inl (z.2.1 2)))), ((aS 3), .inr (1, [.ref (aI 3), .int (z.2.2.1 3), .int (z.2.2.2 3)])), ((aI 3), .inl (cy 2, 40, .inr (.inl (z.2.1 3))))] A ([.ref ak, .int x1, .int x2, .int x3] : List Value).toArray s (.returned (some (.int z0))) t := by
    intro z0 S_items S_sort S_length h9 H t ht hP hF
    cases h9
    exact ⟨rfl, by rw [ht]; exact hP, hF⟩
  have hin6 : ∀ w ∈ u_ws RX6 TX6 9, w ∈ wsX6_sheet := by decide +kernel
  have fl38 := hts (.fieldLink RX6 38 "KinCutlery" "sheets" "[LKinCutlery$Sheet;") (by decide +kernel)
  have hl := lv_entry ([.ref ak, .int x1, .int x2, .int x3]) (n := 4) (Nat.le_of_ble_eq_true rfl)
  rw [lg_entry_eq]
  generalize (lg_sl ([.ref ak, .int x1, .int x2, .int x3]) ++ List.replicate (4 - (lg_sl ([.ref ak, .int x1, .int x2, .int x3])).length) Slot.unset).toArray = ls at hl ⊢
  have hl : lv_has ls 4 [(0, .ref ak), (1, .int x1), (2, .int x2), (3, .int x3)] := hl
  have hf : ((fX6_within n x1 (0 : Int32) (3 : Int32)).bind fun r3 => if r3 = 0 then (some ((-1 : Int32), (S_items, S_sort, S_length))) else ((fX6_within n x2 (-1 : Int32) (3 : Int32)).bind fun r12 => if r12 = 0 then (some ((-1 : Int32), (S_items, S_sort, S_length))) else (if x2 = (-1 : Int32) then (if x1 < 0 ∨ 4 ≤ x1.toNatClampNeg then none else (fX1_become n ((S_items x1.toNatClampNeg), (S_sort x1.toNatClampNeg), (S_length x1.toNatClampNeg)) (-1 : Int32) (0 : Int32)).bind fun r33 => some ((1 : Int32), ((va_up S_items x1.toNatClampNeg r33.1), (upd S_sort x1.toNatClampNeg r33.2.1), (upd S_length x1.toNatClampNeg r33.2.2)))) else (if x3 ≤ (40 : Int32) then (if 0 ≤ x3 then (if x1 < 0 ∨ 4 ≤ x1.toNatClampNeg then none else (fX1_become n ((S_items x1.toNatClampNeg), (S_sort x1.toNatClampNeg), (S_length x1.toNatClampNeg)) x2 x3).bind fun r61 => some ((1 : Int32), ((va_up S_items x1.toNatClampNeg r61.1), (upd S_sort x1.toNatClampNeg r61.2.1), (upd S_length x1.toNatClampNeg r61.2.2)))) else (some ((-14 : Int32), (S_items, S_sort, S_length)))) else (some ((-1 : Int32), (S_items, S_sort, S_length))))))) = some z := hf
  refine lv_iload_n hx hb dX6_sheet_0 rfl (lv_at hl 1 rfl) ?_
  refine lv_iconst (v := (0 : Int32)) hx hb dX6_sheet_1 (by decide) ?_
  refine lv_iconst (v := (3 : Int32)) hx hb dX6_sheet_2 (by decide) ?_
  obtain ⟨r3, hc3, hf⟩ := zb hf
  refine zsr (o := some (.int r3)) (As := [.int x1, .int (0 : Int32), .int (3 : Int32)]) (rest := []) (stk := [.int r3]) ⟨hx, hb, hml, hown, hts⟩ (mX6_within l D cy st sk sv B  n x1 (0 : Int32) (3 : Int32) r3 hc3) (va_cwS 3 hts gX6_sheet_X6_within rfl rfl rfl (by decide +kernel) ⟨Nat.le_of_ble_eq_true rfl, Nat.le_of_ble_eq_true rfl⟩) hG hS hAB hP [] rfl rfl hl.1 rfl (Nat.le_of_ble_eq_true rfl) dX6_sheet_3 rfl ?_
  refine lv_if_eq (tgt := 18) hx hb dX6_sheet_6 (by decide) (fun c_6 => ?_) (fun c_6 => ?_)
  · have hf := zp hf c_6
    refine lv_iconst (v := (-1 : Int32)) hx hb dX6_sheet_18 (by decide) ?_
    exact W.iret hx hb hr (fun t ht hW => hfin (-1 : Int32) S_items S_sort S_length hf _ t ht hP (hS.F ht)) hS.2.2 dX6_sheet_19
  · have hf := zn hf c_6
    refine lv_iload_n hx hb dX6_sheet_9 rfl (lv_at hl 2 rfl) ?_
    refine lv_iconst (v := (-1 : Int32)) hx hb dX6_sheet_10 (by decide) ?_
    refine lv_iconst (v := (3 : Int32)) hx hb dX6_sheet_11 (by decide) ?_
    obtain ⟨r12, hc12, hf⟩ := zb hf
    refine zsr (o := some (.int r12)) (As := [.int x2, .int (-1 : Int32), .int (3 : Int32)]) (rest := []) (stk := [.int r12]) ⟨hx, hb, hml, hown, hts⟩ (mX6_within l D cy st sk sv B  n x2 (-1 : Int32) (3 : Int32) r12 hc12) (va_cwS 3 hts gX6_sheet_X6_within rfl rfl rfl (by decide +kernel) ⟨Nat.le_of_ble_eq_true rfl, Nat.le_of_ble_eq_true rfl⟩) hG hS hAB hP [] rfl rfl hl.1 rfl (Nat.le_of_ble_eq_true rfl) dX6_sheet_12 rfl ?_
    refine lv_if_ne (tgt := 20) hx hb dX6_sheet_15 (by decide) (fun c_15 => ?_) (fun c_15 => ?_)
    · have hf := zn hf c_15
      refine lv_iload_n hx hb dX6_sheet_20 rfl (lv_at hl 2 rfl) ?_
      refine lv_iconst (v := (-1 : Int32)) hx hb dX6_sheet_21 (by decide) ?_
      refine lv_icmp_ne (tgt := 38) hx hb dX6_sheet_22 (by decide) (fun c_22 => ?_) (fun c_22 => ?_)
      · have hf := zn hf c_22
        refine lv_iload_n hx hb dX6_sheet_38 rfl (lv_at hl 3 rfl) ?_
        refine lv_bipush (v := (40 : Int32)) hx hb dX6_sheet_39 (by decide) ?_
        refine lv_icmp_le (tgt := 46) hx hb dX6_sheet_41 (by decide) (fun c_41 => ?_) (fun c_41 => ?_)
        · have hf := zp hf c_41
          refine lv_iload_n hx hb dX6_sheet_46 rfl (lv_at hl 3 rfl) ?_
          refine lv_if_ge (tgt := 53) hx hb dX6_sheet_47 (by decide) (fun c_47 => ?_) (fun c_47 => ?_)
          · have hf := zp hf c_47
            refine lv_aload_n hx hb dX6_sheet_53 rfl (lv_at hl 0 rfl) ?_
            refine va_get (D := D) (ci := 6) (v := .ref as0) (C := RX6) (T := TX6) (N := 9) hx hb hts hin6 hown hK hP 0 rfl rfl 6 (by decide) fl38 (fun _ h9 => h9) rfl dX6_sheet_54 ?_
            refine lv_iload_n hx hb dX6_sheet_57 rfl (lv_at hl 1 rfl) ?_
            obtain ⟨hi_x1, hf⟩ := zg hf
            rcases zc4 hi_x1 with hj_x1 | hj_x1 | hj_x1 | hj_x1
            · rw [hj_x1] at hf
              refine va_aldq hx hb hK hP 1 3 rfl rfl hi_x1 dX6_sheet_58 ?_
              rw [hj_x1]
              refine W.eq (g2 := F0 m 59 ls [.ref (aS 0)]) rfl ?_
              refine lv_iload_n hx hb dX6_sheet_59 rfl (lv_at hl 2 rfl) ?_
              refine lv_iload_n hx hb dX6_sheet_60 rfl (lv_at hl 3 rfl) ?_
              obtain ⟨r61, hc61, hf⟩ := zb hf
              refine zvw (o := none) (As := [.int x2, .int x3]) (rest := []) (stk := []) ⟨hx, hb, hml, hown, hts⟩ (mX1_become l D cy st sk sv B (aS 0) (aI 0) _ n (S_items 0) (S_sort 0) (S_length 0) x2 x3 r61 hc61) (cwV 2 hts gX6_sheet_X1_become rfl rfl rfl (by decide +kernel) ⟨Nat.le_of_ble_eq_true rfl, Nat.le_of_ble_eq_true rfl⟩) hG hS hAB hA hP hD [2, 3] (by decide) rfl rfl rfl rfl 0 1 rfl rfl rfl rfl hl.1 rfl (Nat.le_of_ble_eq_true rfl) dX6_sheet_61 rfl (fun H locs hP hD hS => ?_)
              have hP : va_P D vwCl [(ak, .inr (6, [.ref an0, .ref ay0, .ref ae0, .int uK, .ref aa0, .ref aw0, .ref as0, .ref af0, .ref ag0])), (as0, .inl (cy 3, 4, .inr (.inr (.inr (.inr (fun j => some (aS j))))))), ((aS 0), .inr (1, [.ref (aI 0), .int ((upd S_sort 0 r61.2.1) 0), .int ((upd S_length 0 r61.2.2) 0)])), ((aI 0), .inl (cy 2, 40, .inr (.inl ((va_up S_items 0 r61.1) 0)))), ((aS 1), .inr (1, [.ref (aI 1), .int ((upd S_sort 0 r61.2.1) 1), .int ((upd S_length 0 r61.2.2) 1)])), ((aI 1), .inl (cy 2, 40, .inr (.inl ((va_up S_items 0 r61.1) 1)))), ((aS 2), .inr (1, [.ref (aI 2), .int ((upd S_sort 0 r61.2.1) 2), .int ((upd S_length 0 r61.2.2) 2)])), ((aI 2), .inl (cy 2, 40, .inr (.inl ((va_up S_items 0 r61.1) 2)))), ((aS 3), .inr (1, [.ref (aI 3), .int ((upd S_sort 0 r61.2.1) 3), .int ((upd S_length 0 r61.2.2) 3)])), ((aI 3), .inl (cy 2, 40, .inr (.inl ((va_up S_items 0 r61.1) 3))))] H := hP
              have hD : va_D A [(ak, .inr (6, [.ref an0, .ref ay0, .ref ae0, .int uK, .ref aa0, .ref aw0, .ref as0, .ref af0, .ref ag0])), (as0, .inl (cy 3, 4, .inr (.inr (.inr (.inr (fun j => some (aS j))))))), ((aS 0), .inr (1, [.ref (aI 0), .int ((upd S_sort 0 r61.2.1) 0), .int ((upd S_length 0 r61.2.2) 0)])), ((aI 0), .inl (cy 2, 40, .inr (.inl ((va_up S_items 0 r61.1) 0)))), ((aS 1), .inr (1, [.ref (aI 1), .int ((upd S_sort 0 r61.2.1) 1), .int ((upd S_length 0 r61.2.2) 1)])), ((aI 1), .inl (cy 2, 40, .inr (.inl ((va_up S_items 0 r61.1) 1)))), ((aS 2), .inr (1, [.ref (aI 2), .int ((upd S_sort 0 r61.2.1) 2), .int ((upd S_length 0 r61.2.2) 2)])), ((aI 2), .inl (cy 2, 40, .inr (.inl ((va_up S_items 0 r61.1) 2)))), ((aS 3), .inr (1, [.ref (aI 3), .int ((upd S_sort 0 r61.2.1) 3), .int ((upd S_length 0 r61.2.2) 3)])), ((aI 3), .inl (cy 2, 40, .inr (.inl ((va_up S_items 0 r61.1) 3))))] := hD
              refine lv_iconst (v := (1 : Int32)) hx hb dX6_sheet_64 (by decide) ?_
              exact W.iret hx hb hr (fun t ht hW => hfin (1 : Int32) (va_up S_items 0 r61.1) (upd S_sort 0 r61.2.1) (upd S_length 0 r61.2.2) hf _ t ht hP (hS.F ht)) hS.2.2 dX6_sheet_65
            · rw [hj_x1] at hf
              refine va_aldq hx hb hK hP 1 3 rfl rfl hi_x1 dX6_sheet_58 ?_
              rw [hj_x1]
              refine W.eq (g2 := F0 m 59 ls [.ref (aS 1)]) rfl ?_
              refine lv_iload_n hx hb dX6_sheet_59 rfl (lv_at hl 2 rfl) ?_
              refine lv_iload_n hx hb dX6_sheet_60 rfl (lv_at hl 3 rfl) ?_
              obtain ⟨r61, hc61, hf⟩ := zb hf
              refine zvw (o := none) (As := [.int x2, .int x3]) (rest := []) (stk := []) ⟨hx, hb, hml, hown, hts⟩ (mX1_become l D cy st sk sv B (aS 1) (aI 1) _ n (S_items 1) (S_sort 1) (S_length 1) x2 x3 r61 hc61) (cwV 2 hts gX6_sheet_X1_become rfl rfl rfl (by decide +kernel) ⟨Nat.le_of_ble_eq_true rfl, Nat.le_of_ble_eq_true rfl⟩) hG hS hAB hA hP hD [4, 5] (by decide) rfl rfl rfl rfl 0 1 rfl rfl rfl rfl hl.1 rfl (Nat.le_of_ble_eq_true rfl) dX6_sheet_61 rfl (fun H locs hP hD hS => ?_)
              have hP : va_P D vwCl [(ak, .inr (6, [.ref an0, .ref ay0, .ref ae0, .int uK, .ref aa0, .ref aw0, .ref as0, .ref af0, .ref ag0])), (as0, .inl (cy 3, 4, .inr (.inr (.inr (.inr (fun j => some (aS j))))))), ((aS 0), .inr (1, [.ref (aI 0), .int ((upd S_sort 1 r61.2.1) 0), .int ((upd S_length 1 r61.2.2) 0)])), ((aI 0), .inl (cy 2, 40, .inr (.inl ((va_up S_items 1 r61.1) 0)))), ((aS 1), .inr (1, [.ref (aI 1), .int ((upd S_sort 1 r61.2.1) 1), .int ((upd S_length 1 r61.2.2) 1)])), ((aI 1), .inl (cy 2, 40, .inr (.inl ((va_up S_items 1 r61.1) 1)))), ((aS 2), .inr (1, [.ref (aI 2), .int ((upd S_sort 1 r61.2.1) 2), .int ((upd S_length 1 r61.2.2) 2)])), ((aI 2), .inl (cy 2, 40, .inr (.inl ((va_up S_items 1 r61.1) 2)))), ((aS 3), .inr (1, [.ref (aI 3), .int ((upd S_sort 1 r61.2.1) 3), .int ((upd S_length 1 r61.2.2) 3)])), ((aI 3), .inl (cy 2, 40, .inr (.inl ((va_up S_items 1 r61.1) 3))))] H := hP
              have hD : va_D A [(ak, .inr (6, [.ref an0, .ref ay0, .ref ae0, .int uK, .ref aa0, .ref aw0, .ref as0, .ref af0, .ref ag0])), (as0, .inl (cy 3, 4, .inr (.inr (.inr (.inr (fun j => some (aS j))))))), ((aS 0), .inr (1, [.ref (aI 0), .int ((upd S_sort 1 r61.2.1) 0), .int ((upd S_length 1 r61.2.2) 0)])), ((aI 0), .inl (cy 2, 40, .inr (.inl ((va_up S_items 1 r61.1) 0)))), ((aS 1), .inr (1, [.ref (aI 1), .int ((upd S_sort 1 r61.2.1) 1), .int ((upd S_length 1 r61.2.2) 1)])), ((aI 1), .inl (cy 2, 40, .inr (.inl ((va_up S_items 1 r61.1) 1)))), ((aS 2), .inr (1, [.ref (aI 2), .int ((upd S_sort 1 r61.2.1) 2), .int ((upd S_length 1 r61.2.2) 2)])), ((aI 2), .inl (cy 2, 40, .inr (.inl ((va_up S_items 1 r61.1) 2)))), ((aS 3), .inr (1, [.ref (aI 3), .int ((upd S_sort 1 r61.2.1) 3), .int ((upd S_length 1 r61.2.2) 3)])), ((aI 3), .inl (cy 2, 40, .inr (.inl ((va_up S_items 1 r61.1) 3))))] := hD
              refine lv_iconst (v := (1 : Int32)) hx hb dX6_sheet_64 (by decide) ?_
              exact W.iret hx hb hr (fun t ht hW => hfin (1 : Int32) (va_up S_items 1 r61.1) (upd S_sort 1 r61.2.1) (upd S_length 1 r61.2.2) hf _ t ht hP (hS.F ht)) hS.2.2 dX6_sheet_65
            · rw [hj_x1] at hf
              refine va_aldq hx hb hK hP 1 3 rfl rfl hi_x1 dX6_sheet_58 ?_
              rw [hj_x1]
              refine W.eq (g2 := F0 m 59 ls [.ref (aS 2)]) rfl ?_
              refine lv_iload_n hx hb dX6_sheet_59 rfl (lv_at hl 2 rfl) ?_
              refine lv_iload_n hx hb dX6_sheet_60 rfl (lv_at hl 3 rfl) ?_
              obtain ⟨r61, hc61, hf⟩ := zb hf
              refine zvw (o := none) (As := [.int x2, .int x3]) (rest := []) (stk := []) ⟨hx, hb, hml, hown, hts⟩ (mX1_become l D cy st sk sv B (aS 2) (aI 2) _ n (S_items 2) (S_sort 2) (S_length 2) x2 x3 r61 hc61) (cwV 2 hts gX6_sheet_X1_become rfl rfl rfl (by decide +kernel) ⟨Nat.le_of_ble_eq_true rfl, Nat.le_of_ble_eq_true rfl⟩) hG hS hAB hA hP hD [6, 7] (by decide) rfl rfl rfl rfl 0 1 rfl rfl rfl rfl hl.1 rfl (Nat.le_of_ble_eq_true rfl) dX6_sheet_61 rfl (fun H locs hP hD hS => ?_)
              have hP : va_P D vwCl [(ak, .inr (6, [.ref an0, .ref ay0, .ref ae0, .int uK, .ref aa0, .ref aw0, .ref as0, .ref af0, .ref ag0])), (as0, .inl (cy 3, 4, .inr (.inr (.inr (.inr (fun j => some (aS j))))))), ((aS 0), .inr (1, [.ref (aI 0), .int ((upd S_sort 2 r61.2.1) 0), .int ((upd S_length 2 r61.2.2) 0)])), ((aI 0), .inl (cy 2, 40, .inr (.inl ((va_up S_items 2 r61.1) 0)))), ((aS 1), .inr (1, [.ref (aI 1), .int ((upd S_sort 2 r61.2.1) 1), .int ((upd S_length 2 r61.2.2) 1)])), ((aI 1), .inl (cy 2, 40, .inr (.inl ((va_up S_items 2 r61.1) 1)))), ((aS 2), .inr (1, [.ref (aI 2), .int ((upd S_sort 2 r61.2.1) 2), .int ((upd S_length 2 r61.2.2) 2)])), ((aI 2), .inl (cy 2, 40, .inr (.inl ((va_up S_items 2 r61.1) 2)))), ((aS 3), .inr (1, [.ref (aI 3), .int ((upd S_sort 2 r61.2.1) 3), .int ((upd S_length 2 r61.2.2) 3)])), ((aI 3), .inl (cy 2, 40, .inr (.inl ((va_up S_items 2 r61.1) 3))))] H := hP
              have hD : va_D A [(ak, .inr (6, [.ref an0, .ref ay0, .ref ae0, .int uK, .ref aa0, .ref aw0, .ref as0, .ref af0, .ref ag0])), (as0, .inl (cy 3, 4, .inr (.inr (.inr (.inr (fun j => some (aS j))))))), ((aS 0), .inr (1, [.ref (aI 0), .int ((upd S_sort 2 r61.2.1) 0), .int ((upd S_length 2 r61.2.2) 0)])), ((aI 0), .inl (cy 2, 40, .inr (.inl ((va_up S_items 2 r61.1) 0)))), ((aS 1), .inr (1, [.ref (aI 1), .int ((upd S_sort 2 r61.2.1) 1), .int ((upd S_length 2 r61.2.2) 1)])), ((aI 1), .inl (cy 2, 40, .inr (.inl ((va_up S_items 2 r61.1) 1)))), ((aS 2), .inr (1, [.ref (aI 2), .int ((upd S_sort 2 r61.2.1) 2), .int ((upd S_length 2 r61.2.2) 2)])), ((aI 2), .inl (cy 2, 40, .inr (.inl ((va_up S_items 2 r61.1) 2)))), ((aS 3), .inr (1, [.ref (aI 3), .int ((upd S_sort 2 r61.2.1) 3), .int ((upd S_length 2 r61.2.2) 3)])), ((aI 3), .inl (cy 2, 40, .inr (.inl ((va_up S_items 2 r61.1) 3))))] := hD
              refine lv_iconst (v := (1 : Int32)) hx hb dX6_sheet_64 (by decide) ?_
              exact W.iret hx hb hr (fun t ht hW => hfin (1 : Int32) (va_up S_items 2 r61.1) (upd S_sort 2 r61.2.1) (upd S_length 2 r61.2.2) hf _ t ht hP (hS.F ht)) hS.2.2 dX6_sheet_65
            · rw [hj_x1] at hf
              refine va_aldq hx hb hK hP 1 3 rfl rfl hi_x1 dX6_sheet_58 ?_
              rw [hj_x1]
              refine W.eq (g2 := F0 m 59 ls [.ref (aS 3)]) rfl ?_
              refine lv_iload_n hx hb dX6_sheet_59 rfl (lv_at hl 2 rfl) ?_
              refine lv_iload_n hx hb dX6_sheet_60 rfl (lv_at hl 3 rfl) ?_
              obtain ⟨r61, hc61, hf⟩ := zb hf
              refine zvw (o := none) (As := [.int x2, .int x3]) (rest := []) (stk := []) ⟨hx, hb, hml, hown, hts⟩ (mX1_become l D cy st sk sv B (aS 3) (aI 3) _ n (S_items 3) (S_sort 3) (S_length 3) x2 x3 r61 hc61) (cwV 2 hts gX6_sheet_X1_become rfl rfl rfl (by decide +kernel) ⟨Nat.le_of_ble_eq_true rfl, Nat.le_of_ble_eq_true rfl⟩) hG hS hAB hA hP hD [8, 9] (by decide) rfl rfl rfl rfl 0 1 rfl rfl rfl rfl hl.1 rfl (Nat.le_of_ble_eq_true rfl) dX6_sheet_61 rfl (fun H locs hP hD hS => ?_)
              have hP : va_P D vwCl [(ak, .inr (6, [.ref an0, .ref ay0, .ref ae0, .int uK, .ref aa0, .ref aw0, .ref as0, .ref af0, .ref ag0])), (as0, .inl (cy 3, 4, .inr (.inr (.inr (.inr (fun j => some (aS j))))))), ((aS 0), .inr (1, [.ref (aI 0), .int ((upd S_sort 3 r61.2.1) 0), .int ((upd S_length 3 r61.2.2) 0)])), ((aI 0), .inl (cy 2, 40, .inr (.inl ((va_up S_items 3 r61.1) 0)))), ((aS 1), .inr (1, [.ref (aI 1), .int ((upd S_sort 3 r61.2.1) 1), .int ((upd S_length 3 r61.2.2) 1)])), ((aI 1), .inl (cy 2, 40, .inr (.inl ((va_up S_items 3 r61.1) 1)))), ((aS 2), .inr (1, [.ref (aI 2), .int ((upd S_sort 3 r61.2.1) 2), .int ((upd S_length 3 r61.2.2) 2)])), ((aI 2), .inl (cy 2, 40, .inr (.inl ((va_up S_items 3 r61.1) 2)))), ((aS 3), .inr (1, [.ref (aI 3), .int ((upd S_sort 3 r61.2.1) 3), .int ((upd S_length 3 r61.2.2) 3)])), ((aI 3), .inl (cy 2, 40, .inr (.inl ((va_up S_items 3 r61.1) 3))))] H := hP
              have hD : va_D A [(ak, .inr (6, [.ref an0, .ref ay0, .ref ae0, .int uK, .ref aa0, .ref aw0, .ref as0, .ref af0, .ref ag0])), (as0, .inl (cy 3, 4, .inr (.inr (.inr (.inr (fun j => some (aS j))))))), ((aS 0), .inr (1, [.ref (aI 0), .int ((upd S_sort 3 r61.2.1) 0), .int ((upd S_length 3 r61.2.2) 0)])), ((aI 0), .inl (cy 2, 40, .inr (.inl ((va_up S_items 3 r61.1) 0)))), ((aS 1), .inr (1, [.ref (aI 1), .int ((upd S_sort 3 r61.2.1) 1), .int ((upd S_length 3 r61.2.2) 1)])), ((aI 1), .inl (cy 2, 40, .inr (.inl ((va_up S_items 3 r61.1) 1)))), ((aS 2), .inr (1, [.ref (aI 2), .int ((upd S_sort 3 r61.2.1) 2), .int ((upd S_length 3 r61.2.2) 2)])), ((aI 2), .inl (cy 2, 40, .inr (.inl ((va_up S_items 3 r61.1) 2)))), ((aS 3), .inr (1, [.ref (aI 3), .int ((upd S_sort 3 r61.2.1) 3), .int ((upd S_length 3 r61.2.2) 3)])), ((aI 3), .inl (cy 2, 40, .inr (.inl ((va_up S_items 3 r61.1) 3))))] := hD
              refine lv_iconst (v := (1 : Int32)) hx hb dX6_sheet_64 (by decide) ?_
              exact W.iret hx hb hr (fun t ht hW => hfin (1 : Int32) (va_up S_items 3 r61.1) (upd S_sort 3 r61.2.1) (upd S_length 3 r61.2.2) hf _ t ht hP (hS.F ht)) hS.2.2 dX6_sheet_65
          · have hf := zn hf c_47
            refine lv_bipush (v := (-14 : Int32)) hx hb dX6_sheet_50 (by decide) ?_
            exact W.iret hx hb hr (fun t ht hW => hfin (-14 : Int32) S_items S_sort S_length hf _ t ht hP (hS.F ht)) hS.2.2 dX6_sheet_52
        · have hf := zn hf c_41
          refine lv_iconst (v := (-1 : Int32)) hx hb dX6_sheet_44 (by decide) ?_
          exact W.iret hx hb hr (fun t ht hW => hfin (-1 : Int32) S_items S_sort S_length hf _ t ht hP (hS.F ht)) hS.2.2 dX6_sheet_45
      · have hf := zp hf c_22
        refine lv_aload_n hx hb dX6_sheet_25 rfl (lv_at hl 0 rfl) ?_
        refine va_get (D := D) (ci := 6) (v := .ref as0) (C := RX6) (T := TX6) (N := 9) hx hb hts hin6 hown hK hP 0 rfl rfl 6 (by decide) fl38 (fun _ h9 => h9) rfl dX6_sheet_26 ?_
        refine lv_iload_n hx hb dX6_sheet_29 rfl (lv_at hl 1 rfl) ?_
        obtain ⟨hi_x1, hf⟩ := zg hf
        rcases zc4 hi_x1 with hj_x1 | hj_x1 | hj_x1 | hj_x1
        · rw [hj_x1] at hf
          refine va_aldq hx hb hK hP 1 3 rfl rfl hi_x1 dX6_sheet_30 ?_
          rw [hj_x1]
          refine W.eq (g2 := F0 m 31 ls [.ref (aS 0)]) rfl ?_
          refine lv_iconst (v := (-1 : Int32)) hx hb dX6_sheet_31 (by decide) ?_
          refine lv_iconst (v := (0 : Int32)) hx hb dX6_sheet_32 (by decide) ?_
          obtain ⟨r33, hc33, hf⟩ := zb hf
          refine zvw (o := none) (As := [.int (-1 : Int32), .int (0 : Int32)]) (rest := []) (stk := []) ⟨hx, hb, hml, hown, hts⟩ (mX1_become l D cy st sk sv B (aS 0) (aI 0) _ n (S_items 0) (S_sort 0) (S_length 0) (-1 : Int32) (0 : Int32) r33 hc33) (cwV 2 hts gX6_sheet_X1_become rfl rfl rfl (by decide +kernel) ⟨Nat.le_of_ble_eq_true rfl, Nat.le_of_ble_eq_true rfl⟩) hG hS hAB hA hP hD [2, 3] (by decide) rfl rfl rfl rfl 0 1 rfl rfl rfl rfl hl.1 rfl (Nat.le_of_ble_eq_true rfl) dX6_sheet_33 rfl (fun H locs hP hD hS => ?_)
          have hP : va_P D vwCl [(ak, .inr (6, [.ref an0, .ref ay0, .ref ae0, .int uK, .ref aa0, .ref aw0, .ref as0, .ref af0, .ref ag0])), (as0, .inl (cy 3, 4, .inr (.inr (.inr (.inr (fun j => some (aS j))))))), ((aS 0), .inr (1, [.ref (aI 0), .int ((upd S_sort 0 r33.2.1) 0), .int ((upd S_length 0 r33.2.2) 0)])), ((aI 0), .inl (cy 2, 40, .inr (.inl ((va_up S_items 0 r33.1) 0)))), ((aS 1), .inr (1, [.ref (aI 1), .int ((upd S_sort 0 r33.2.1) 1), .int ((upd S_length 0 r33.2.2) 1)])), ((aI 1), .inl (cy 2, 40, .inr (.inl ((va_up S_items 0 r33.1) 1)))), ((aS 2), .inr (1, [.ref (aI 2), .int ((upd S_sort 0 r33.2.1) 2), .int ((upd S_length 0 r33.2.2) 2)])), ((aI 2), .inl (cy 2, 40, .inr (.inl ((va_up S_items 0 r33.1) 2)))), ((aS 3), .inr (1, [.ref (aI 3), .int ((upd S_sort 0 r33.2.1) 3), .int ((upd S_length 0 r33.2.2) 3)])), ((aI 3), .inl (cy 2, 40, .inr (.inl ((va_up S_items 0 r33.1) 3))))] H := hP
          have hD : va_D A [(ak, .inr (6, [.ref an0, .ref ay0, .ref ae0, .int uK, .ref aa0, .ref aw0, .ref as0, .ref af0, .ref ag0])), (as0, .inl (cy 3, 4, .inr (.inr (.inr (.inr (fun j => some (aS j))))))), ((aS 0), .inr (1, [.ref (aI 0), .int ((upd S_sort 0 r33.2.1) 0), .int ((upd S_length 0 r33.2.2) 0)])), ((aI 0), .inl (cy 2, 40, .inr (.inl ((va_up S_items 0 r33.1) 0)))), ((aS 1), .inr (1, [.ref (aI 1), .int ((upd S_sort 0 r33.2.1) 1), .int ((upd S_length 0 r33.2.2) 1)])), ((aI 1), .inl (cy 2, 40, .inr (.inl ((va_up S_items 0 r33.1) 1)))), ((aS 2), .inr (1, [.ref (aI 2), .int ((upd S_sort 0 r33.2.1) 2), .int ((upd S_length 0 r33.2.2) 2)])), ((aI 2), .inl (cy 2, 40, .inr (.inl ((va_up S_items 0 r33.1) 2)))), ((aS 3), .inr (1, [.ref (aI 3), .int ((upd S_sort 0 r33.2.1) 3), .int ((upd S_length 0 r33.2.2) 3)])), ((aI 3), .inl (cy 2, 40, .inr (.inl ((va_up S_items 0 r33.1) 3))))] := hD
          refine lv_iconst (v := (1 : Int32)) hx hb dX6_sheet_36 (by decide) ?_
          exact W.iret hx hb hr (fun t ht hW => hfin (1 : Int32) (va_up S_items 0 r33.1) (upd S_sort 0 r33.2.1) (upd S_length 0 r33.2.2) hf _ t ht hP (hS.F ht)) hS.2.2 dX6_sheet_37
        · rw [hj_x1] at hf
          refine va_aldq hx hb hK hP 1 3 rfl rfl hi_x1 dX6_sheet_30 ?_
          rw [hj_x1]
          refine W.eq (g2 := F0 m 31 ls [.ref (aS 1)]) rfl ?_
          refine lv_iconst (v := (-1 : Int32)) hx hb dX6_sheet_31 (by decide) ?_
          refine lv_iconst (v := (0 : Int32)) hx hb dX6_sheet_32 (by decide) ?_
          obtain ⟨r33, hc33, hf⟩ := zb hf
          refine zvw (o := none) (As := [.int (-1 : Int32), .int (0 : Int32)]) (rest := []) (stk := []) ⟨hx, hb, hml, hown, hts⟩ (mX1_become l D cy st sk sv B (aS 1) (aI 1) _ n (S_items 1) (S_sort 1) (S_length 1) (-1 : Int32) (0 : Int32) r33 hc33) (cwV 2 hts gX6_sheet_X1_become rfl rfl rfl (by decide +kernel) ⟨Nat.le_of_ble_eq_true rfl, Nat.le_of_ble_eq_true rfl⟩) hG hS hAB hA hP hD [4, 5] (by decide) rfl rfl rfl rfl 0 1 rfl rfl rfl rfl hl.1 rfl (Nat.le_of_ble_eq_true rfl) dX6_sheet_33 rfl (fun H locs hP hD hS => ?_)
          have hP : va_P D vwCl [(ak, .inr (6, [.ref an0, .ref ay0, .ref ae0, .int uK, .ref aa0, .ref aw0, .ref as0, .ref af0, .ref ag0])), (as0, .inl (cy 3, 4, .inr (.inr (.inr (.inr (fun j => some (aS j))))))), ((aS 0), .inr (1, [.ref (aI 0), .int ((upd S_sort 1 r33.2.1) 0), .int ((upd S_length 1 r33.2.2) 0)])), ((aI 0), .inl (cy 2, 40, .inr (.inl ((va_up S_items 1 r33.1) 0)))), ((aS 1), .inr (1, [.ref (aI 1), .int ((upd S_sort 1 r33.2.1) 1), .int ((upd S_length 1 r33.2.2) 1)])), ((aI 1), .inl (cy 2, 40, .inr (.inl ((va_up S_items 1 r33.1) 1)))), ((aS 2), .inr (1, [.ref (aI 2), .int ((upd S_sort 1 r33.2.1) 2), .int ((upd S_length 1 r33.2.2) 2)])), ((aI 2), .inl (cy 2, 40, .inr (.inl ((va_up S_items 1 r33.1) 2)))), ((aS 3), .inr (1, [.ref (aI 3), .int ((upd S_sort 1 r33.2.1) 3), .int ((upd S_length 1 r33.2.2) 3)])), ((aI 3), .inl (cy 2, 40, .inr (.inl ((va_up S_items 1 r33.1) 3))))] H := hP
          have hD : va_D A [(ak, .inr (6, [.ref an0, .ref ay0, .ref ae0, .int uK, .ref aa0, .ref aw0, .ref as0, .ref af0, .ref ag0])), (as0, .inl (cy 3, 4, .inr (.inr (.inr (.inr (fun j => some (aS j))))))), ((aS 0), .inr (1, [.ref (aI 0), .int ((upd S_sort 1 r33.2.1) 0), .int ((upd S_length 1 r33.2.2) 0)])), ((aI 0), .inl (cy 2, 40, .inr (.inl ((va_up S_items 1 r33.1) 0)))), ((aS 1), .inr (1, [.ref (aI 1), .int ((upd S_sort 1 r33.2.1) 1), .int ((upd S_length 1 r33.2.2) 1)])), ((aI 1), .inl (cy 2, 40, .inr (.inl ((va_up S_items 1 r33.1) 1)))), ((aS 2), .inr (1, [.ref (aI 2), .int ((upd S_sort 1 r33.2.1) 2), .int ((upd S_length 1 r33.2.2) 2)])), ((aI 2), .inl (cy 2, 40, .inr (.inl ((va_up S_items 1 r33.1) 2)))), ((aS 3), .inr (1, [.ref (aI 3), .int ((upd S_sort 1 r33.2.1) 3), .int ((upd S_length 1 r33.2.2) 3)])), ((aI 3), .inl (cy 2, 40, .inr (.inl ((va_up S_items 1 r33.1) 3))))] := hD
          refine lv_iconst (v := (1 : Int32)) hx hb dX6_sheet_36 (by decide) ?_
          exact W.iret hx hb hr (fun t ht hW => hfin (1 : Int32) (va_up S_items 1 r33.1) (upd S_sort 1 r33.2.1) (upd S_length 1 r33.2.2) hf _ t ht hP (hS.F ht)) hS.2.2 dX6_sheet_37
        · rw [hj_x1] at hf
          refine va_aldq hx hb hK hP 1 3 rfl rfl hi_x1 dX6_sheet_30 ?_
          rw [hj_x1]
          refine W.eq (g2 := F0 m 31 ls [.ref (aS 2)]) rfl ?_
          refine lv_iconst (v := (-1 : Int32)) hx hb dX6_sheet_31 (by decide) ?_
          refine lv_iconst (v := (0 : Int32)) hx hb dX6_sheet_32 (by decide) ?_
          obtain ⟨r33, hc33, hf⟩ := zb hf
          refine zvw (o := none) (As := [.int (-1 : Int32), .int (0 : Int32)]) (rest := []) (stk := []) ⟨hx, hb, hml, hown, hts⟩ (mX1_become l D cy st sk sv B (aS 2) (aI 2) _ n (S_items 2) (S_sort 2) (S_length 2) (-1 : Int32) (0 : Int32) r33 hc33) (cwV 2 hts gX6_sheet_X1_become rfl rfl rfl (by decide +kernel) ⟨Nat.le_of_ble_eq_true rfl, Nat.le_of_ble_eq_true rfl⟩) hG hS hAB hA hP hD [6, 7] (by decide) rfl rfl rfl rfl 0 1 rfl rfl rfl rfl hl.1 rfl (Nat.le_of_ble_eq_true rfl) dX6_sheet_33 rfl (fun H locs hP hD hS => ?_)
          have hP : va_P D vwCl [(ak, .inr (6, [.ref an0, .ref ay0, .ref ae0, .int uK, .ref aa0, .ref aw0, .ref as0, .ref af0, .ref ag0])), (as0, .inl (cy 3, 4, .inr (.inr (.inr (.inr (fun j => some (aS j))))))), ((aS 0), .inr (1, [.ref (aI 0), .int ((upd S_sort 2 r33.2.1) 0), .int ((upd S_length 2 r33.2.2) 0)])), ((aI 0), .inl (cy 2, 40, .inr (.inl ((va_up S_items 2 r33.1) 0)))), ((aS 1), .inr (1, [.ref (aI 1), .int ((upd S_sort 2 r33.2.1) 1), .int ((upd S_length 2 r33.2.2) 1)])), ((aI 1), .inl (cy 2, 40, .inr (.inl ((va_up S_items 2 r33.1) 1)))), ((aS 2), .inr (1, [.ref (aI 2), .int ((upd S_sort 2 r33.2.1) 2), .int ((upd S_length 2 r33.2.2) 2)])), ((aI 2), .inl (cy 2, 40, .inr (.inl ((va_up S_items 2 r33.1) 2)))), ((aS 3), .inr (1, [.ref (aI 3), .int ((upd S_sort 2 r33.2.1) 3), .int ((upd S_length 2 r33.2.2) 3)])), ((aI 3), .inl (cy 2, 40, .inr (.inl ((va_up S_items 2 r33.1) 3))))] H := hP
          have hD : va_D A [(ak, .inr (6, [.ref an0, .ref ay0, .ref ae0, .int uK, .ref aa0, .ref aw0, .ref as0, .ref af0, .ref ag0])), (as0, .inl (cy 3, 4, .inr (.inr (.inr (.inr (fun j => some (aS j))))))), ((aS 0), .inr (1, [.ref (aI 0), .int ((upd S_sort 2 r33.2.1) 0), .int ((upd S_length 2 r33.2.2) 0)])), ((aI 0), .inl (cy 2, 40, .inr (.inl ((va_up S_items 2 r33.1) 0)))), ((aS 1), .inr (1, [.ref (aI 1), .int ((upd S_sort 2 r33.2.1) 1), .int ((upd S_length 2 r33.2.2) 1)])), ((aI 1), .inl (cy 2, 40, .inr (.inl ((va_up S_items 2 r33.1) 1)))), ((aS 2), .inr (1, [.ref (aI 2), .int ((upd S_sort 2 r33.2.1) 2), .int ((upd S_length 2 r33.2.2) 2)])), ((aI 2), .inl (cy 2, 40, .inr (.inl ((va_up S_items 2 r33.1) 2)))), ((aS 3), .inr (1, [.ref (aI 3), .int ((upd S_sort 2 r33.2.1) 3), .int ((upd S_length 2 r33.2.2) 3)])), ((aI 3), .inl (cy 2, 40, .inr (.inl ((va_up S_items 2 r33.1) 3))))] := hD
          refine lv_iconst (v := (1 : Int32)) hx hb dX6_sheet_36 (by decide) ?_
          exact W.iret hx hb hr (fun t ht hW => hfin (1 : Int32) (va_up S_items 2 r33.1) (upd S_sort 2 r33.2.1) (upd S_length 2 r33.2.2) hf _ t ht hP (hS.F ht)) hS.2.2 dX6_sheet_37
        · rw [hj_x1] at hf
          refine va_aldq hx hb hK hP 1 3 rfl rfl hi_x1 dX6_sheet_30 ?_
          rw [hj_x1]
          refine W.eq (g2 := F0 m 31 ls [.ref (aS 3)]) rfl ?_
          refine lv_iconst (v := (-1 : Int32)) hx hb dX6_sheet_31 (by decide) ?_
          refine lv_iconst (v := (0 : Int32)) hx hb dX6_sheet_32 (by decide) ?_
          obtain ⟨r33, hc33, hf⟩ := zb hf
          refine zvw (o := none) (As := [.int (-1 : Int32), .int (0 : Int32)]) (rest := []) (stk := []) ⟨hx, hb, hml, hown, hts⟩ (mX1_become l D cy st sk sv B (aS 3) (aI 3) _ n (S_items 3) (S_sort 3) (S_length 3) (-1 : Int32) (0 : Int32) r33 hc33) (cwV 2 hts gX6_sheet_X1_become rfl rfl rfl (by decide +kernel) ⟨Nat.le_of_ble_eq_true rfl, Nat.le_of_ble_eq_true rfl⟩) hG hS hAB hA hP hD [8, 9] (by decide) rfl rfl rfl rfl 0 1 rfl rfl rfl rfl hl.1 rfl (Nat.le_of_ble_eq_true rfl) dX6_sheet_33 rfl (fun H locs hP hD hS => ?_)
          have hP : va_P D vwCl [(ak, .inr (6, [.ref an0, .ref ay0, .ref ae0, .int uK, .ref aa0, .ref aw0, .ref as0, .ref af0, .ref ag0])), (as0, .inl (cy 3, 4, .inr (.inr (.inr (.inr (fun j => some (aS j))))))), ((aS 0), .inr (1, [.ref (aI 0), .int ((upd S_sort 3 r33.2.1) 0), .int ((upd S_length 3 r33.2.2) 0)])), ((aI 0), .inl (cy 2, 40, .inr (.inl ((va_up S_items 3 r33.1) 0)))), ((aS 1), .inr (1, [.ref (aI 1), .int ((upd S_sort 3 r33.2.1) 1), .int ((upd S_length 3 r33.2.2) 1)])), ((aI 1), .inl (cy 2, 40, .inr (.inl ((va_up S_items 3 r33.1) 1)))), ((aS 2), .inr (1, [.ref (aI 2), .int ((upd S_sort 3 r33.2.1) 2), .int ((upd S_length 3 r33.2.2) 2)])), ((aI 2), .inl (cy 2, 40, .inr (.inl ((va_up S_items 3 r33.1) 2)))), ((aS 3), .inr (1, [.ref (aI 3), .int ((upd S_sort 3 r33.2.1) 3), .int ((upd S_length 3 r33.2.2) 3)])), ((aI 3), .inl (cy 2, 40, .inr (.inl ((va_up S_items 3 r33.1) 3))))] H := hP
          have hD : va_D A [(ak, .inr (6, [.ref an0, .ref ay0, .ref ae0, .int uK, .ref aa0, .ref aw0, .ref as0, .ref af0, .ref ag0])), (as0, .inl (cy 3, 4, .inr (.inr (.inr (.inr (fun j => some (aS j))))))), ((aS 0), .inr (1, [.ref (aI 0), .int ((upd S_sort 3 r33.2.1) 0), .int ((upd S_length 3 r33.2.2) 0)])), ((aI 0), .inl (cy 2, 40, .inr (.inl ((va_up S_items 3 r33.1) 0)))), ((aS 1), .inr (1, [.ref (aI 1), .int ((upd S_sort 3 r33.2.1) 1), .int ((upd S_length 3 r33.2.2) 1)])), ((aI 1), .inl (cy 2, 40, .inr (.inl ((va_up S_items 3 r33.1) 1)))), ((aS 2), .inr (1, [.ref (aI 2), .int ((upd S_sort 3 r33.2.1) 2), .int ((upd S_length 3 r33.2.2) 2)])), ((aI 2), .inl (cy 2, 40, .inr (.inl ((va_up S_items 3 r33.1) 2)))), ((aS 3), .inr (1, [.ref (aI 3), .int ((upd S_sort 3 r33.2.1) 3), .int ((upd S_length 3 r33.2.2) 3)])), ((aI 3), .inl (cy 2, 40, .inr (.inl ((va_up S_items 3 r33.1) 3))))] := hD
          refine lv_iconst (v := (1 : Int32)) hx hb dX6_sheet_36 (by decide) ?_
          exact W.iret hx hb hr (fun t ht hW => hfin (1 : Int32) (va_up S_items 3 r33.1) (upd S_sort 3 r33.2.1) (upd S_length 3 r33.2.2) hf _ t ht hP (hS.F ht)) hS.2.2 dX6_sheet_37
    · have hf := zp hf c_15
      refine lv_iconst (v := (-1 : Int32)) hx hb dX6_sheet_18 (by decide) ?_
      exact W.iret hx hb hr (fun t ht hW => hfin (-1 : Int32) S_items S_sort S_length hf _ t ht hP (hS.F ht)) hS.2.2 dX6_sheet_19
set_option maxRecDepth 100000 in
set_option maxHeartbeats 100000000 in
theorem mX6_narrowed (l : Launch) (D : va_G) (cy : Nat → ClassId) (st sk sv : Nat → Nat) (B : Nat)  (n : Nat)  (x0 : Int32) (x1 : Int32) (z : Int32) (hf : fX6_narrowed n x0 x1 = some z) : Met l yX6_narrowed wsX6_narrowed ({ frames := 0, cells := 0, slots := 0, locals := 0 }) (PcR [.int x0, .int x1] D cy st sk sv B []) (Qr (some (.int z))) 0 0 (fun _ => False) := by
  refine Met.ofW (cc := cX6_narrowed) (maxL := 2) (ret := (some .int)) (by decide) rfl ?_
  intro p e s m args below meth c s₁ Bd hml hv
  obtain ⟨rfl, hP, hG⟩ := hv
  have hx := Bd.exec
  have hb := Bd.bytes
  have hr := Bd.returns
  have hts := atoms_spec (ws := wsX6_narrowed) Bd.pre
  have hown : s.vm.findClass RX6 = some m.cls := findClass_of_methodNamed Bd.named
  have hlocks := Bd.notSynchronized
  have hK := hG.1
  have hS : va_S (fun q => B ≤ q) s.heap s.heap [] := va_S.rf
  have hAB : ∀ q, (fun q => B ≤ q) q → B ≤ q := fun _ h => h
  have hl := lv_entry ([.int x0, .int x1]) (n := 2) (Nat.le_of_ble_eq_true rfl)
  rw [lg_entry_eq]
  generalize (lg_sl ([.int x0, .int x1]) ++ List.replicate (2 - (lg_sl ([.int x0, .int x1])).length) Slot.unset).toArray = ls at hl ⊢
  have hl : lv_has ls 2 [(0, .int x0), (1, .int x1)] := hl
  have hf : (if x1 = (0 : Int32) then (some x0.toInt8.toInt32) else if x1 = (1 : Int32) then (some x0.toInt16.toInt32) else  (some x0)) = some z := hf
  refine lv_iload_n hx hb dX6_narrowed_0 rfl (lv_at hl 1 rfl) ?_
  by_cases c_1_0 : x1 = (0 : Int32)
  · have hf := zp hf c_1_0
    refine lv_lookup (off := 27) (tgt := 28) hx hb dX6_narrowed_1 (by decide) (by rw [c_1_0]; try rfl) (by decide) ?_
    refine lv_iload_n hx hb dX6_narrowed_28 rfl (lv_at hl 0 rfl) ?_
    refine lv_i2b hx hb dX6_narrowed_29 rfl ?_
    cases hf
    exact W.iret hx hb hr (fun t ht hW => ⟨rfl, ht⟩) (fun q h => absurd h List.not_mem_nil) dX6_narrowed_30
  have hf := zn hf c_1_0
  by_cases c_1_1 : x1 = (1 : Int32)
  · have hf := zp hf c_1_1
    refine lv_lookup (off := 30) (tgt := 31) hx hb dX6_narrowed_1 (by decide) (by rw [c_1_1]; try rfl) (by decide) ?_
    refine lv_iload_n hx hb dX6_narrowed_31 rfl (lv_at hl 0 rfl) ?_
    refine lv_i2s hx hb dX6_narrowed_32 rfl ?_
    cases hf
    exact W.iret hx hb hr (fun t ht hW => ⟨rfl, ht⟩) (fun q h => absurd h List.not_mem_nil) dX6_narrowed_33
  have hf := zn hf c_1_1
  have e_1_0 : ¬ x1.toInt = 0 := fun h => c_1_0 (Int32.toInt_inj.mp (h.trans (by decide)))
  have e_1_1 : ¬ x1.toInt = 1 := fun h => c_1_1 (Int32.toInt_inj.mp (h.trans (by decide)))
  have g_1_0 : ¬ (0 : Int) = x1.toInt := fun h => e_1_0 h.symm
  have g_1_1 : ¬ (1 : Int) = x1.toInt := fun h => e_1_1 h.symm
  refine lv_lookup (off := 33) (tgt := 34) hx hb dX6_narrowed_1 (by decide) (by simp [Op.lookupswitch.offset, g_1_0, g_1_1]) (by decide) ?_
  refine lv_iload_n hx hb dX6_narrowed_34 rfl (lv_at hl 0 rfl) ?_
  cases hf
  exact W.iret hx hb hr (fun t ht hW => ⟨rfl, ht⟩) (fun q h => absurd h List.not_mem_nil) dX6_narrowed_35
set_option maxRecDepth 100000 in
set_option maxHeartbeats 100000000 in
theorem mX6_put (l : Launch) (D : va_G) (cy : Nat → ClassId) (st sk sv : Nat → Nat) (B : Nat) (ak : Nat) (an0 : Nat) (ay0 : Nat) (ae0 : Nat) (aa0 : Nat) (aw0 : Nat) (as0 : Nat) (af0 : Nat) (ag0 : Nat) (aS : Nat → Nat) (aI : Nat → Nat) (sz : Nat) (n : Nat) (uK : Int32) (S_items : (Nat → Nat → Int64)) (S_sort : (Nat → Int32)) (S_length : (Nat → Int32)) (x1 : Int32) (x2 : Int32) (x3 : Int32) (z : Int32 × SH) (hf : fX6_put n uK (S_items, S_sort, S_length) x1 x2 x3 = some z) : Met l yX6_put wsX6_put ({ frames := 1, cells := 0, slots := 0, locals := 22 }) (PcW [.ref ak, .int x1, .int x2, .int x3] D cy st sk sv B sz [(ak, .inr (6, [.ref an0, .ref ay0, .ref ae0, .int uK, .ref aa0, .ref aw0, .ref as0, .ref af0, .ref ag0])), (as0, .inl (cy 3, 4, .inr (.inr (.inr (.inr (fun j => some (aS j))))))), ((aS 0), .inr (1, [.ref (aI 0), .int (S_sort 0), .int (S_length 0)])), ((aI 0), .inl (cy 2, 40, .inr (.inl (S_items 0)))), ((aS 1), .inr (1, [.ref (aI 1), .int (S_sort 1), .int (S_length 1)])), ((aI 1), .inl (cy 2, 40, .inr (.inl (S_items 1)))), ((aS 2), .inr (1, [.ref (aI 2), .int (S_sort 2), .int (S_length 2)])), ((aI 2), .inl (cy 2, 40, .inr (.inl (S_items 2)))), ((aS 3), .inr (1, [.ref (aI 3), .int (S_sort 3), .int (S_length 3)])), ((aI 3), .inl (cy 2, 40, .inr (.inl (S_items 3))))]) (Qw (some (.int z.1)) D [(ak, .inr (6, [.ref an0, .ref ay0, .ref ae0, .int uK, .ref aa0, .ref aw0, .ref as0, .ref af0, .ref ag0])), (as0, .inl (cy 3, 4, .inr (.inr (.inr (.inr (fun j => some (aS j))))))), ((aS 0), .inr (1, [.ref (aI 0), .int (z.2.2.1 0), .int (z.2.2.2 0)])), ((aI 0), .inl (cy 2, 40, .inr (.inl (z.2.1 0)))), ((aS 1), .inr (1, [.ref (aI 1), .int (z.2.2.1 1), .int (z.2.2.2 1)])), ((aI 1), .inl (cy 2, 40, .inr (.inl (z.2.1 1)))), ((aS 2), .inr (1, [.ref (aI 2), .int (z.2.2.1 2), .int (z.2.2.2 2)])), ((aI 2), .inl (cy 2, 40, .inr (.inl (z.2.1 2)))), ((aS 3), .inr (1, [.ref (aI 3), .int (z.2.2.1 3), .int (z.2.2.2 3)])), ((aI 3), .inl (cy 2, 40, .inr (.inl (z.2.1 3))))] (va_A [(ak, .inr (6, [.ref an0, .ref ay0, .ref ae0, .int uK, .ref aa0, .ref aw0, .ref as0, .ref af0, .ref ag0])), (as0, .inl (cy 3, 4, .inr (.inr (.inr (.inr (fun j => some (aS j))))))), ((aS 0), .inr (1, [.ref (aI 0), .int (S_sort 0), .int (S_length 0)])), ((aI 0), .inl (cy 2, 40, .inr (.inl (S_items 0)))), ((aS 1), .inr (1, [.ref (aI 1), .int (S_sort 1), .int (S_length 1)])), ((aI 1), .inl (cy 2, 40, .inr (.inl (S_items 1)))), ((aS 2), .inr (1, [.ref (aI 2), .int (S_sort 2), .int (S_length 2)])), ((aI 2), .inl (cy 2, 40, .inr (.inl (S_items 2)))), ((aS 3), .inr (1, [.ref (aI 3), .int (S_sort 3), .int (S_length 3)])), ((aI 3), .inl (cy 2, 40, .inr (.inl (S_items 3))))] sz)) 0 0 (va_A [(ak, .inr (6, [.ref an0, .ref ay0, .ref ae0, .int uK, .ref aa0, .ref aw0, .ref as0, .ref af0, .ref ag0])), (as0, .inl (cy 3, 4, .inr (.inr (.inr (.inr (fun j => some (aS j))))))), ((aS 0), .inr (1, [.ref (aI 0), .int (S_sort 0), .int (S_length 0)])), ((aI 0), .inl (cy 2, 40, .inr (.inl (S_items 0)))), ((aS 1), .inr (1, [.ref (aI 1), .int (S_sort 1), .int (S_length 1)])), ((aI 1), .inl (cy 2, 40, .inr (.inl (S_items 1)))), ((aS 2), .inr (1, [.ref (aI 2), .int (S_sort 2), .int (S_length 2)])), ((aI 2), .inl (cy 2, 40, .inr (.inl (S_items 2)))), ((aS 3), .inr (1, [.ref (aI 3), .int (S_sort 3), .int (S_length 3)])), ((aI 3), .inl (cy 2, 40, .inr (.inl (S_items 3))))] sz) := by
  refine Met.ofW (cc := cX6_put) (maxL := 5) (ret := (some .int)) (by decide) rfl ?_
  intro p e s m args below meth c s₁ Bd hml hv
  obtain ⟨rfl, hsz, hP, hD0, hBs, hG⟩ := hv
  have hx := Bd.exec
  have hb := Bd.bytes
  have hr := Bd.returns
  have hts := atoms_spec (ws := wsX6_put) Bd.pre
  have hown : s.vm.findClass RX6 = some m.cls := findClass_of_methodNamed Bd.named
  have hlocks := Bd.notSynchronized
  have hK := hG.1
  subst hsz
  have hD := hD0.self (sz := s.heap.size)
  have hAB0 := zA hD0 hBs
  generalize hAe : va_A [(ak, .inr (6, [.ref an0, .ref ay0, .ref ae0, .int uK, .ref aa0, .ref aw0, .ref as0, .ref af0, .ref ag0])), (as0, .inl (cy 3, 4, .inr (.inr (.inr (.inr (fun j => some (aS j))))))), ((aS 0), .inr (1, [.ref (aI 0), .int (S_sort 0), .int (S_length 0)])), ((aI 0), .inl (cy 2, 40, .inr (.inl (S_items 0)))), ((aS 1), .inr (1, [.ref (aI 1), .int (S_sort 1), .int (S_length 1)])), ((aI 1), .inl (cy 2, 40, .inr (.inl (S_items 1)))), ((aS 2), .inr (1, [.ref (aI 2), .int (S_sort 2), .int (S_length 2)])), ((aI 2), .inl (cy 2, 40, .inr (.inl (S_items 2)))), ((aS 3), .inr (1, [.ref (aI 3), .int (S_sort 3), .int (S_length 3)])), ((aI 3), .inl (cy 2, 40, .inr (.inl (S_items 3))))] s.heap.size = A at hD hAB0 ⊢
  have hA : ∀ q : Nat, s.heap.size ≤ q → A q := fun q h => by rw [← hAe]; exact Or.inr h
  have hAB : ∀ q, A q → B ≤ q := hAB0
  have hS : va_S A s.heap s.heap [] := va_S.rf
  have hfin : ∀ (z0 : Int32) (S_items : (Nat → Nat → Int64)) (S_sort : (Nat → Int32)) (S_length : (Nat → Int32)), some (z0, (S_items, S_sort, S_length)) = some z → ∀ (H : Heap) (t : State), t.heap = H → va_P D vwCl [(ak, .inr (6, [.ref an0, .ref ay0, .ref ae0, .int uK, .ref aa0, .ref aw0, .ref as0, .ref af0, .ref ag0])), (as0, .inl (cy 3, 4, .inr (.inr (.inr (.inr (fun j => some (aS j))))))), ((aS 0), .inr (1, [.ref (aI 0), .int (S_sort 0), .int (S_length 0)])), ((aI 0), .inl (cy 2, 40, .inr (.inl (S_items 0)))), ((aS 1), .inr (1, [.ref (aI 1), .int (S_sort 1), .int (S_length 1)])), ((aI 1), .inl (cy 2, 40, .inr (.inl (S_items 1)))), ((aS 2), .inr (1, [.ref (aI 2), .int (S_sort 2), .int (S_length 2)])), ((aI 2), .inl (cy 2, 40, .inr (.inl (S_items 2)))), ((aS 3), .inr (1, [.ref (aI 3), .int (S_sort 3), .int (S_length 3)])), ((aI 3), .inl (cy 2, 40, .inr (.inl (S_items 3))))] H → va_F A s t → Qw (some (.int z.1)) D [(ak, .inr (6, [.ref an0, .ref ay0, .ref ae0, .int uK, .ref aa0, .ref aw0, .ref as0, .ref af0, .ref ag0])), (as0, .inl (cy 3, 4, .inr (.inr (.inr (.inr (fun j => some (aS j))))))), ((aS 0), .inr (1, [.ref (aI 0), .int (z.2.2.1 0), .int (z.2.2.2 0)])), ((aI 0), .inl (cy 2, 40, .inr (.inl (z.2.1 0)))), ((aS 1), .inr (1, [.ref (aI 1), .int (z.2.2.1 1), .int (z.2.2.2 1)])), ((aI 1), .inl (cy 2, 40, .inr (.inl (z.2.1 1)))), ((aS 2), .inr (1, [.ref (aI 2), .int (z.2.2.1 2), .int (z.2.2.2 2)])), ((aI 2), .inl (cy 2, 40, .inr (.inl (z.2.1 2)))), ((aS 3), .inr (1, [.ref (aI 3), .int (z.2.2.1 3), .int (z.2.2.2 3)])), ((aI 3), .inl (cy 2, 40, .inr (.inl (z.2.1 3))))] A ([.ref ak, .int x1, .int x2, .int x3] : List Value).toArray s (.returned (some (.int z0))) t := by
    intro z0 S_items S_sort S_length h9 H t ht hP hF
    cases h9
    exact ⟨rfl, by rw [ht]; exact hP, hF⟩
  have hin1 : ∀ w ∈ u_ws RX1 TX1 3, w ∈ wsX6_put := by decide +kernel
  have hin6 : ∀ w ∈ u_ws RX6 TX6 9, w ∈ wsX6_put := by decide +kernel
  have fl38 := hts (.fieldLink RX6 38 "KinCutlery" "sheets" "[LKinCutlery$Sheet;") (by decide +kernel)
  have fl203 := hts (.fieldLink RX6 203 "KinCutlery$Sheet" "sort" "I") (by decide +kernel)
  have fl210 := hts (.fieldLink RX6 210 "KinCutlery$Sheet" "length" "I") (by decide +kernel)
  have fl211 := hts (.fieldLink RX6 211 "KinCutlery$Sheet" "items" "[J") (by decide +kernel)
  have hl := lv_entry ([.ref ak, .int x1, .int x2, .int x3]) (n := 5) (Nat.le_of_ble_eq_true rfl)
  rw [lg_entry_eq]
  generalize (lg_sl ([.ref ak, .int x1, .int x2, .int x3]) ++ List.replicate (5 - (lg_sl ([.ref ak, .int x1, .int x2, .int x3])).length) Slot.unset).toArray = ls at hl ⊢
  have hl : lv_has ls 5 [(0, .ref ak), (1, .int x1), (2, .int x2), (3, .int x3)] := hl
  have hf : ((fX6_within n x1 (0 : Int32) (3 : Int32)).bind fun r3 => if r3 = 0 then (some ((-1 : Int32), (S_items, S_sort, S_length))) else (if x1 < 0 ∨ 4 ≤ x1.toNatClampNeg then none else if (S_sort x1.toNatClampNeg) = (-1 : Int32) then (some ((-11 : Int32), (S_items, S_sort, S_length))) else ((fX6_within n x2 (0 : Int32) ((S_length x1.toNatClampNeg) - (1 : Int32))).bind fun r40 => if r40 = 0 then (some ((-12 : Int32), (S_items, S_sort, S_length))) else ((fX6_narrowed n x3 (S_sort x1.toNatClampNeg)).bind fun r61 => if x2 < 0 ∨ 40 ≤ x2.toNatClampNeg then none else some ((1 : Int32), ((va_up S_items x1.toNatClampNeg (vp_updL (S_items x1.toNatClampNeg) x2.toNatClampNeg r61.toInt64)), S_sort, S_length)))))) = some z := hf
  refine lv_iload_n hx hb dX6_put_0 rfl (lv_at hl 1 rfl) ?_
  refine lv_iconst (v := (0 : Int32)) hx hb dX6_put_1 (by decide) ?_
  refine lv_iconst (v := (3 : Int32)) hx hb dX6_put_2 (by decide) ?_
  obtain ⟨r3, hc3, hf⟩ := zb hf
  refine zsr (o := some (.int r3)) (As := [.int x1, .int (0 : Int32), .int (3 : Int32)]) (rest := []) (stk := [.int r3]) ⟨hx, hb, hml, hown, hts⟩ (mX6_within l D cy st sk sv B  n x1 (0 : Int32) (3 : Int32) r3 hc3) (va_cwS 3 hts gX6_put_X6_within rfl rfl rfl (by decide +kernel) ⟨Nat.le_of_ble_eq_true rfl, Nat.le_of_ble_eq_true rfl⟩) hG hS hAB hP [] rfl rfl hl.1 rfl (Nat.le_of_ble_eq_true rfl) dX6_put_3 rfl ?_
  refine lv_if_ne (tgt := 11) hx hb dX6_put_6 (by decide) (fun c_6 => ?_) (fun c_6 => ?_)
  · have hf := zn hf c_6
    refine lv_aload_n hx hb dX6_put_11 rfl (lv_at hl 0 rfl) ?_
    refine va_get (D := D) (ci := 6) (v := .ref as0) (C := RX6) (T := TX6) (N := 9) hx hb hts hin6 hown hK hP 0 rfl rfl 6 (by decide) fl38 (fun _ h9 => h9) rfl dX6_put_12 ?_
    refine lv_iload_n hx hb dX6_put_15 rfl (lv_at hl 1 rfl) ?_
    obtain ⟨hi_x1, hf⟩ := zg hf
    rcases zc4 hi_x1 with hj_x1 | hj_x1 | hj_x1 | hj_x1
    · rw [hj_x1] at hf
      refine va_aldq hx hb hK hP 1 3 rfl rfl hi_x1 dX6_put_16 ?_
      rw [hj_x1]
      refine W.eq (g2 := F0 m 17 ls [.ref (aS 0)]) rfl ?_
      refine lv_astore (lv' := [(4, .ref (aS 0)), (0, .ref ak), (1, .int x1), (2, .int x2), (3, .int x3)]) hx hb dX6_put_17 hl (by decide) rfl (fun ls hl => ?_)
      refine lv_aload hx hb dX6_put_19 (lv_at hl 0 rfl) ?_
      refine va_get (D := D) (ci := 1) (v := .int (S_sort 0)) (C := RX1) (T := TX1) (N := 3) hx hb hts hin1 hown hK hP 2 rfl rfl 1 (by decide) fl203 (fun _ h9 => h9) rfl dX6_put_21 ?_
      refine lv_iconst (v := (-1 : Int32)) hx hb dX6_put_24 (by decide) ?_
      refine lv_icmp_ne (tgt := 31) hx hb dX6_put_25 (by decide) (fun c_25 => ?_) (fun c_25 => ?_)
      · have hf := zn hf c_25
        refine lv_iload_n hx hb dX6_put_31 rfl (lv_at hl 3 rfl) ?_
        refine lv_iconst (v := (0 : Int32)) hx hb dX6_put_32 (by decide) ?_
        refine lv_aload hx hb dX6_put_33 (lv_at hl 0 rfl) ?_
        refine va_get (D := D) (ci := 1) (v := .int (S_length 0)) (C := RX1) (T := TX1) (N := 3) hx hb hts hin1 hown hK hP 2 rfl rfl 2 (by decide) fl210 (fun _ h9 => h9) rfl dX6_put_35 ?_
        refine lv_iconst (v := (1 : Int32)) hx hb dX6_put_38 (by decide) ?_
        refine lv_isub hx hb dX6_put_39 ?_
        obtain ⟨r40, hc40, hf⟩ := zb hf
        refine zsr (o := some (.int r40)) (As := [.int x2, .int (0 : Int32), .int ((S_length 0) - (1 : Int32))]) (rest := []) (stk := [.int r40]) ⟨hx, hb, hml, hown, hts⟩ (mX6_within l D cy st sk sv B  n x2 (0 : Int32) ((S_length 0) - (1 : Int32)) r40 hc40) (va_cwS 3 hts gX6_put_X6_within rfl rfl rfl (by decide +kernel) ⟨Nat.le_of_ble_eq_true rfl, Nat.le_of_ble_eq_true rfl⟩) hG hS hAB hP [] rfl rfl hl.1 rfl (Nat.le_of_ble_eq_true rfl) dX6_put_40 rfl ?_
        refine lv_if_ne (tgt := 49) hx hb dX6_put_43 (by decide) (fun c_43 => ?_) (fun c_43 => ?_)
        · have hf := zn hf c_43
          refine lv_aload hx hb dX6_put_49 (lv_at hl 0 rfl) ?_
          refine va_get (D := D) (ci := 1) (v := .ref (aI 0)) (C := RX1) (T := TX1) (N := 3) hx hb hts hin1 hown hK hP 2 rfl rfl 0 (by decide) fl211 (fun _ h9 => h9) rfl dX6_put_51 ?_
          refine lv_iload_n hx hb dX6_put_54 rfl (lv_at hl 3 rfl) ?_
          refine lv_iload_n hx hb dX6_put_55 rfl (lv_at hl 4 rfl) ?_
          refine lv_aload hx hb dX6_put_56 (lv_at hl 0 rfl) ?_
          refine va_get (D := D) (ci := 1) (v := .int (S_sort 0)) (C := RX1) (T := TX1) (N := 3) hx hb hts hin1 hown hK hP 2 rfl rfl 1 (by decide) fl203 (fun _ h9 => h9) rfl dX6_put_58 ?_
          obtain ⟨r61, hc61, hf⟩ := zb hf
          refine zsr (o := some (.int r61)) (As := [.int x3, .int (S_sort 0)]) (rest := [.int x2, .ref (aI 0)]) (stk := [.int r61, .int x2, .ref (aI 0)]) ⟨hx, hb, hml, hown, hts⟩ (mX6_narrowed l D cy st sk sv B  n x3 (S_sort 0) r61 hc61) (va_cwS 2 hts gX6_put_X6_narrowed rfl rfl rfl (by decide +kernel) ⟨Nat.le_of_ble_eq_true rfl, Nat.le_of_ble_eq_true rfl⟩) hG hS hAB hP [] rfl rfl hl.1 rfl (Nat.le_of_ble_eq_true rfl) dX6_put_61 rfl ?_
          refine lv_i2l hx hb dX6_put_64 rfl ?_
          obtain ⟨h_65, hf⟩ := zg hf
          refine va_last hx hb hK hP hD hS 3 2 rfl rfl h_65 dX6_put_65 (fun H locs hP hD hS => ?_)
          have hP : va_P D vwCl [(ak, .inr (6, [.ref an0, .ref ay0, .ref ae0, .int uK, .ref aa0, .ref aw0, .ref as0, .ref af0, .ref ag0])), (as0, .inl (cy 3, 4, .inr (.inr (.inr (.inr (fun j => some (aS j))))))), ((aS 0), .inr (1, [.ref (aI 0), .int (S_sort 0), .int (S_length 0)])), ((aI 0), .inl (cy 2, 40, .inr (.inl ((va_up S_items 0 (vp_updL (S_items 0) x2.toNatClampNeg r61.toInt64)) 0)))), ((aS 1), .inr (1, [.ref (aI 1), .int (S_sort 1), .int (S_length 1)])), ((aI 1), .inl (cy 2, 40, .inr (.inl ((va_up S_items 0 (vp_updL (S_items 0) x2.toNatClampNeg r61.toInt64)) 1)))), ((aS 2), .inr (1, [.ref (aI 2), .int (S_sort 2), .int (S_length 2)])), ((aI 2), .inl (cy 2, 40, .inr (.inl ((va_up S_items 0 (vp_updL (S_items 0) x2.toNatClampNeg r61.toInt64)) 2)))), ((aS 3), .inr (1, [.ref (aI 3), .int (S_sort 3), .int (S_length 3)])), ((aI 3), .inl (cy 2, 40, .inr (.inl ((va_up S_items 0 (vp_updL (S_items 0) x2.toNatClampNeg r61.toInt64)) 3))))] H := hP
          have hD : va_D A [(ak, .inr (6, [.ref an0, .ref ay0, .ref ae0, .int uK, .ref aa0, .ref aw0, .ref as0, .ref af0, .ref ag0])), (as0, .inl (cy 3, 4, .inr (.inr (.inr (.inr (fun j => some (aS j))))))), ((aS 0), .inr (1, [.ref (aI 0), .int (S_sort 0), .int (S_length 0)])), ((aI 0), .inl (cy 2, 40, .inr (.inl ((va_up S_items 0 (vp_updL (S_items 0) x2.toNatClampNeg r61.toInt64)) 0)))), ((aS 1), .inr (1, [.ref (aI 1), .int (S_sort 1), .int (S_length 1)])), ((aI 1), .inl (cy 2, 40, .inr (.inl ((va_up S_items 0 (vp_updL (S_items 0) x2.toNatClampNeg r61.toInt64)) 1)))), ((aS 2), .inr (1, [.ref (aI 2), .int (S_sort 2), .int (S_length 2)])), ((aI 2), .inl (cy 2, 40, .inr (.inl ((va_up S_items 0 (vp_updL (S_items 0) x2.toNatClampNeg r61.toInt64)) 2)))), ((aS 3), .inr (1, [.ref (aI 3), .int (S_sort 3), .int (S_length 3)])), ((aI 3), .inl (cy 2, 40, .inr (.inl ((va_up S_items 0 (vp_updL (S_items 0) x2.toNatClampNeg r61.toInt64)) 3))))] := hD
          refine lv_iconst (v := (1 : Int32)) hx hb dX6_put_66 (by decide) ?_
          exact W.iret hx hb hr (fun t ht hW => hfin (1 : Int32) (va_up S_items 0 (vp_updL (S_items 0) x2.toNatClampNeg r61.toInt64)) S_sort S_length hf _ t ht hP (hS.F ht)) hS.2.2 dX6_put_67
        · have hf := zp hf c_43
          refine lv_bipush (v := (-12 : Int32)) hx hb dX6_put_46 (by decide) ?_
          exact W.iret hx hb hr (fun t ht hW => hfin (-12 : Int32) S_items S_sort S_length hf _ t ht hP (hS.F ht)) hS.2.2 dX6_put_48
      · have hf := zp hf c_25
        refine lv_bipush (v := (-11 : Int32)) hx hb dX6_put_28 (by decide) ?_
        exact W.iret hx hb hr (fun t ht hW => hfin (-11 : Int32) S_items S_sort S_length hf _ t ht hP (hS.F ht)) hS.2.2 dX6_put_30
    · rw [hj_x1] at hf
      refine va_aldq hx hb hK hP 1 3 rfl rfl hi_x1 dX6_put_16 ?_
      rw [hj_x1]
      refine W.eq (g2 := F0 m 17 ls [.ref (aS 1)]) rfl ?_
      refine lv_astore (lv' := [(4, .ref (aS 1)), (0, .ref ak), (1, .int x1), (2, .int x2), (3, .int x3)]) hx hb dX6_put_17 hl (by decide) rfl (fun ls hl => ?_)
      refine lv_aload hx hb dX6_put_19 (lv_at hl 0 rfl) ?_
      refine va_get (D := D) (ci := 1) (v := .int (S_sort 1)) (C := RX1) (T := TX1) (N := 3) hx hb hts hin1 hown hK hP 4 rfl rfl 1 (by decide) fl203 (fun _ h9 => h9) rfl dX6_put_21 ?_
      refine lv_iconst (v := (-1 : Int32)) hx hb dX6_put_24 (by decide) ?_
      refine lv_icmp_ne (tgt := 31) hx hb dX6_put_25 (by decide) (fun c_25 => ?_) (fun c_25 => ?_)
      · have hf := zn hf c_25
        refine lv_iload_n hx hb dX6_put_31 rfl (lv_at hl 3 rfl) ?_
        refine lv_iconst (v := (0 : Int32)) hx hb dX6_put_32 (by decide) ?_
        refine lv_aload hx hb dX6_put_33 (lv_at hl 0 rfl) ?_
        refine va_get (D := D) (ci := 1) (v := .int (S_length 1)) (C := RX1) (T := TX1) (N := 3) hx hb hts hin1 hown hK hP 4 rfl rfl 2 (by decide) fl210 (fun _ h9 => h9) rfl dX6_put_35 ?_
        refine lv_iconst (v := (1 : Int32)) hx hb dX6_put_38 (by decide) ?_
        refine lv_isub hx hb dX6_put_39 ?_
        obtain ⟨r40, hc40, hf⟩ := zb hf
        refine zsr (o := some (.int r40)) (As := [.int x2, .int (0 : Int32), .int ((S_length 1) - (1 : Int32))]) (rest := []) (stk := [.int r40]) ⟨hx, hb, hml, hown, hts⟩ (mX6_within l D cy st sk sv B  n x2 (0 : Int32) ((S_length 1) - (1 : Int32)) r40 hc40) (va_cwS 3 hts gX6_put_X6_within rfl rfl rfl (by decide +kernel) ⟨Nat.le_of_ble_eq_true rfl, Nat.le_of_ble_eq_true rfl⟩) hG hS hAB hP [] rfl rfl hl.1 rfl (Nat.le_of_ble_eq_true rfl) dX6_put_40 rfl ?_
        refine lv_if_ne (tgt := 49) hx hb dX6_put_43 (by decide) (fun c_43 => ?_) (fun c_43 => ?_)
        · have hf := zn hf c_43
          refine lv_aload hx hb dX6_put_49 (lv_at hl 0 rfl) ?_
          refine va_get (D := D) (ci := 1) (v := .ref (aI 1)) (C := RX1) (T := TX1) (N := 3) hx hb hts hin1 hown hK hP 4 rfl rfl 0 (by decide) fl211 (fun _ h9 => h9) rfl dX6_put_51 ?_
          refine lv_iload_n hx hb dX6_put_54 rfl (lv_at hl 3 rfl) ?_
          refine lv_iload_n hx hb dX6_put_55 rfl (lv_at hl 4 rfl) ?_
          refine lv_aload hx hb dX6_put_56 (lv_at hl 0 rfl) ?_
          refine va_get (D := D) (ci := 1) (v := .int (S_sort 1)) (C := RX1) (T := TX1) (N := 3) hx hb hts hin1 hown hK hP 4 rfl rfl 1 (by decide) fl203 (fun _ h9 => h9) rfl dX6_put_58 ?_
          obtain ⟨r61, hc61, hf⟩ := zb hf
          refine zsr (o := some (.int r61)) (As := [.int x3, .int (S_sort 1)]) (rest := [.int x2, .ref (aI 1)]) (stk := [.int r61, .int x2, .ref (aI 1)]) ⟨hx, hb, hml, hown, hts⟩ (mX6_narrowed l D cy st sk sv B  n x3 (S_sort 1) r61 hc61) (va_cwS 2 hts gX6_put_X6_narrowed rfl rfl rfl (by decide +kernel) ⟨Nat.le_of_ble_eq_true rfl, Nat.le_of_ble_eq_true rfl⟩) hG hS hAB hP [] rfl rfl hl.1 rfl (Nat.le_of_ble_eq_true rfl) dX6_put_61 rfl ?_
          refine lv_i2l hx hb dX6_put_64 rfl ?_
          obtain ⟨h_65, hf⟩ := zg hf
          refine va_last hx hb hK hP hD hS 5 2 rfl rfl h_65 dX6_put_65 (fun H locs hP hD hS => ?_)
          have hP : va_P D vwCl [(ak, .inr (6, [.ref an0, .ref ay0, .ref ae0, .int uK, .ref aa0, .ref aw0, .ref as0, .ref af0, .ref ag0])), (as0, .inl (cy 3, 4, .inr (.inr (.inr (.inr (fun j => some (aS j))))))), ((aS 0), .inr (1, [.ref (aI 0), .int (S_sort 0), .int (S_length 0)])), ((aI 0), .inl (cy 2, 40, .inr (.inl ((va_up S_items 1 (vp_updL (S_items 1) x2.toNatClampNeg r61.toInt64)) 0)))), ((aS 1), .inr (1, [.ref (aI 1), .int (S_sort 1), .int (S_length 1)])), ((aI 1), .inl (cy 2, 40, .inr (.inl ((va_up S_items 1 (vp_updL (S_items 1) x2.toNatClampNeg r61.toInt64)) 1)))), ((aS 2), .inr (1, [.ref (aI 2), .int (S_sort 2), .int (S_length 2)])), ((aI 2), .inl (cy 2, 40, .inr (.inl ((va_up S_items 1 (vp_updL (S_items 1) x2.toNatClampNeg r61.toInt64)) 2)))), ((aS 3), .inr (1, [.ref (aI 3), .int (S_sort 3), .int (S_length 3)])), ((aI 3), .inl (cy 2, 40, .inr (.inl ((va_up S_items 1 (vp_updL (S_items 1) x2.toNatClampNeg r61.toInt64)) 3))))] H := hP
          have hD : va_D A [(ak, .inr (6, [.ref an0, .ref ay0, .ref ae0, .int uK, .ref aa0, .ref aw0, .ref as0, .ref af0, .ref ag0])), (as0, .inl (cy 3, 4, .inr (.inr (.inr (.inr (fun j => some (aS j))))))), ((aS 0), .inr (1, [.ref (aI 0), .int (S_sort 0), .int (S_length 0)])), ((aI 0), .inl (cy 2, 40, .inr (.inl ((va_up S_items 1 (vp_updL (S_items 1) x2.toNatClampNeg r61.toInt64)) 0)))), ((aS 1), .inr (1, [.ref (aI 1), .int (S_sort 1), .int (S_length 1)])), ((aI 1), .inl (cy 2, 40, .inr (.inl ((va_up S_items 1 (vp_updL (S_items 1) x2.toNatClampNeg r61.toInt64)) 1)))), ((aS 2), .inr (1, [.ref (aI 2), .int (S_sort 2), .int (S_length 2)])), ((aI 2), .inl (cy 2, 40, .inr (.inl ((va_up S_items 1 (vp_updL (S_items 1) x2.toNatClampNeg r61.toInt64)) 2)))), ((aS 3), .inr (1, [.ref (aI 3), .int (S_sort 3), .int (S_length 3)])), ((aI 3), .inl (cy 2, 40, .inr (.inl ((va_up S_items 1 (vp_updL (S_items 1) x2.toNatClampNeg r61.toInt64)) 3))))] := hD
          refine lv_iconst (v := (1 : Int32)) hx hb dX6_put_66 (by decide) ?_
          exact W.iret hx hb hr (fun t ht hW => hfin (1 : Int32) (va_up S_items 1 (vp_updL (S_items 1) x2.toNatClampNeg r61.toInt64)) S_sort S_length hf _ t ht hP (hS.F ht)) hS.2.2 dX6_put_67
        · have hf := zp hf c_43
          refine lv_bipush (v := (-12 : Int32)) hx hb dX6_put_46 (by decide) ?_
          exact W.iret hx hb hr (fun t ht hW => hfin (-12 : Int32) S_items S_sort S_length hf _ t ht hP (hS.F ht)) hS.2.2 dX6_put_48
      · have hf := zp hf c_25
        refine lv_bipush (v := (-11 : Int32)) hx hb dX6_put_28 (by decide) ?_
        exact W.iret hx hb hr (fun t ht hW => hfin (-11 : Int32) S_items S_sort S_length hf _ t ht hP (hS.F ht)) hS.2.2 dX6_put_30
    · rw [hj_x1] at hf
      refine va_aldq hx hb hK hP 1 3 rfl rfl hi_x1 dX6_put_16 ?_
      rw [hj_x1]
      refine W.eq (g2 := F0 m 17 ls [.ref (aS 2)]) rfl ?_
      refine lv_astore (lv' := [(4, .ref (aS 2)), (0, .ref ak), (1, .int x1), (2, .int x2), (3, .int x3)]) hx hb dX6_put_17 hl (by decide) rfl (fun ls hl => ?_)
      refine lv_aload hx hb dX6_put_19 (lv_at hl 0 rfl) ?_
      refine va_get (D := D) (ci := 1) (v := .int (S_sort 2)) (C := RX1) (T := TX1) (N := 3) hx hb hts hin1 hown hK hP 6 rfl rfl 1 (by decide) fl203 (fun _ h9 => h9) rfl dX6_put_21 ?_
      refine lv_iconst (v := (-1 : Int32)) hx hb dX6_put_24 (by decide) ?_
      refine lv_icmp_ne (tgt := 31) hx hb dX6_put_25 (by decide) (fun c_25 => ?_) (fun c_25 => ?_)
      · have hf := zn hf c_25
        refine lv_iload_n hx hb dX6_put_31 rfl (lv_at hl 3 rfl) ?_
        refine lv_iconst (v := (0 : Int32)) hx hb dX6_put_32 (by decide) ?_
        refine lv_aload hx hb dX6_put_33 (lv_at hl 0 rfl) ?_
        refine va_get (D := D) (ci := 1) (v := .int (S_length 2)) (C := RX1) (T := TX1) (N := 3) hx hb hts hin1 hown hK hP 6 rfl rfl 2 (by decide) fl210 (fun _ h9 => h9) rfl dX6_put_35 ?_
        refine lv_iconst (v := (1 : Int32)) hx hb dX6_put_38 (by decide) ?_
        refine lv_isub hx hb dX6_put_39 ?_
        obtain ⟨r40, hc40, hf⟩ := zb hf
        refine zsr (o := some (.int r40)) (As := [.int x2, .int (0 : Int32), .int ((S_length 2) - (1 : Int32))]) (rest := []) (stk := [.int r40]) ⟨hx, hb, hml, hown, hts⟩ (mX6_within l D cy st sk sv B  n x2 (0 : Int32) ((S_length 2) - (1 : Int32)) r40 hc40) (va_cwS 3 hts gX6_put_X6_within rfl rfl rfl (by decide +kernel) ⟨Nat.le_of_ble_eq_true rfl, Nat.le_of_ble_eq_true rfl⟩) hG hS hAB hP [] rfl rfl hl.1 rfl (Nat.le_of_ble_eq_true rfl) dX6_put_40 rfl ?_
        refine lv_if_ne (tgt := 49) hx hb dX6_put_43 (by decide) (fun c_43 => ?_) (fun c_43 => ?_)
        · have hf := zn hf c_43
          refine lv_aload hx hb dX6_put_49 (lv_at hl 0 rfl) ?_
          refine va_get (D := D) (ci := 1) (v := .ref (aI 2)) (C := RX1) (T := TX1) (N := 3) hx hb hts hin1 hown hK hP 6 rfl rfl 0 (by decide) fl211 (fun _ h9 => h9) rfl dX6_put_51 ?_
          refine lv_iload_n hx hb dX6_put_54 rfl (lv_at hl 3 rfl) ?_
          refine lv_iload_n hx hb dX6_put_55 rfl (lv_at hl 4 rfl) ?_
          refine lv_aload hx hb dX6_put_56 (lv_at hl 0 rfl) ?_
          refine va_get (D := D) (ci := 1) (v := .int (S_sort 2)) (C := RX1) (T := TX1) (N := 3) hx hb hts hin1 hown hK hP 6 rfl rfl 1 (by decide) fl203 (fun _ h9 => h9) rfl dX6_put_58 ?_
          obtain ⟨r61, hc61, hf⟩ := zb hf
          refine zsr (o := some (.int r61)) (As := [.int x3, .int (S_sort 2)]) (rest := [.int x2, .ref (aI 2)]) (stk := [.int r61, .int x2, .ref (aI 2)]) ⟨hx, hb, hml, hown, hts⟩ (mX6_narrowed l D cy st sk sv B  n x3 (S_sort 2) r61 hc61) (va_cwS 2 hts gX6_put_X6_narrowed rfl rfl rfl (by decide +kernel) ⟨Nat.le_of_ble_eq_true rfl, Nat.le_of_ble_eq_true rfl⟩) hG hS hAB hP [] rfl rfl hl.1 rfl (Nat.le_of_ble_eq_true rfl) dX6_put_61 rfl ?_
          refine lv_i2l hx hb dX6_put_64 rfl ?_
          obtain ⟨h_65, hf⟩ := zg hf
          refine va_last hx hb hK hP hD hS 7 2 rfl rfl h_65 dX6_put_65 (fun H locs hP hD hS => ?_)
          have hP : va_P D vwCl [(ak, .inr (6, [.ref an0, .ref ay0, .ref ae0, .int uK, .ref aa0, .ref aw0, .ref as0, .ref af0, .ref ag0])), (as0, .inl (cy 3, 4, .inr (.inr (.inr (.inr (fun j => some (aS j))))))), ((aS 0), .inr (1, [.ref (aI 0), .int (S_sort 0), .int (S_length 0)])), ((aI 0), .inl (cy 2, 40, .inr (.inl ((va_up S_items 2 (vp_updL (S_items 2) x2.toNatClampNeg r61.toInt64)) 0)))), ((aS 1), .inr (1, [.ref (aI 1), .int (S_sort 1), .int (S_length 1)])), ((aI 1), .inl (cy 2, 40, .inr (.inl ((va_up S_items 2 (vp_updL (S_items 2) x2.toNatClampNeg r61.toInt64)) 1)))), ((aS 2), .inr (1, [.ref (aI 2), .int (S_sort 2), .int (S_length 2)])), ((aI 2), .inl (cy 2, 40, .inr (.inl ((va_up S_items 2 (vp_updL (S_items 2) x2.toNatClampNeg r61.toInt64)) 2)))), ((aS 3), .inr (1, [.ref (aI 3), .int (S_sort 3), .int (S_length 3)])), ((aI 3), .inl (cy 2, 40, .inr (.inl ((va_up S_items 2 (vp_updL (S_items 2) x2.toNatClampNeg r61.toInt64)) 3))))] H := hP
          have hD : va_D A [(ak, .inr (6, [.ref an0, .ref ay0, .ref ae0, .int uK, .ref aa0, .ref aw0, .ref as0, .ref af0, .ref ag0])), (as0, .inl (cy 3, 4, .inr (.inr (.inr (.inr (fun j => some (aS j))))))), ((aS 0), .inr (1, [.ref (aI 0), .int (S_sort 0), .int (S_length 0)])), ((aI 0), .inl (cy 2, 40, .inr (.inl ((va_up S_items 2 (vp_updL (S_items 2) x2.toNatClampNeg r61.toInt64)) 0)))), ((aS 1), .inr (1, [.ref (aI 1), .int (S_sort 1), .int (S_length 1)])), ((aI 1), .inl (cy 2, 40, .inr (.inl ((va_up S_items 2 (vp_updL (S_items 2) x2.toNatClampNeg r61.toInt64)) 1)))), ((aS 2), .inr (1, [.ref (aI 2), .int (S_sort 2), .int (S_length 2)])), ((aI 2), .inl (cy 2, 40, .inr (.inl ((va_up S_items 2 (vp_updL (S_items 2) x2.toNatClampNeg r61.toInt64)) 2)))), ((aS 3), .inr (1, [.ref (aI 3), .int (S_sort 3), .int (S_length 3)])), ((aI 3), .inl (cy 2, 40, .inr (.inl ((va_up S_items 2 (vp_updL (S_items 2) x2.toNatClampNeg r61.toInt64)) 3))))] := hD
          refine lv_iconst (v := (1 : Int32)) hx hb dX6_put_66 (by decide) ?_
          exact W.iret hx hb hr (fun t ht hW => hfin (1 : Int32) (va_up S_items 2 (vp_updL (S_items 2) x2.toNatClampNeg r61.toInt64)) S_sort S_length hf _ t ht hP (hS.F ht)) hS.2.2 dX6_put_67
        · have hf := zp hf c_43
          refine lv_bipush (v := (-12 : Int32)) hx hb dX6_put_46 (by decide) ?_
          exact W.iret hx hb hr (fun t ht hW => hfin (-12 : Int32) S_items S_sort S_length hf _ t ht hP (hS.F ht)) hS.2.2 dX6_put_48
      · have hf := zp hf c_25
        refine lv_bipush (v := (-11 : Int32)) hx hb dX6_put_28 (by decide) ?_
        exact W.iret hx hb hr (fun t ht hW => hfin (-11 : Int32) S_items S_sort S_length hf _ t ht hP (hS.F ht)) hS.2.2 dX6_put_30
    · rw [hj_x1] at hf
      refine va_aldq hx hb hK hP 1 3 rfl rfl hi_x1 dX6_put_16 ?_
      rw [hj_x1]
      refine W.eq (g2 := F0 m 17 ls [.ref (aS 3)]) rfl ?_
      refine lv_astore (lv' := [(4, .ref (aS 3)), (0, .ref ak), (1, .int x1), (2, .int x2), (3, .int x3)]) hx hb dX6_put_17 hl (by decide) rfl (fun ls hl => ?_)
      refine lv_aload hx hb dX6_put_19 (lv_at hl 0 rfl) ?_
      refine va_get (D := D) (ci := 1) (v := .int (S_sort 3)) (C := RX1) (T := TX1) (N := 3) hx hb hts hin1 hown hK hP 8 rfl rfl 1 (by decide) fl203 (fun _ h9 => h9) rfl dX6_put_21 ?_
      refine lv_iconst (v := (-1 : Int32)) hx hb dX6_put_24 (by decide) ?_
      refine lv_icmp_ne (tgt := 31) hx hb dX6_put_25 (by decide) (fun c_25 => ?_) (fun c_25 => ?_)
      · have hf := zn hf c_25
        refine lv_iload_n hx hb dX6_put_31 rfl (lv_at hl 3 rfl) ?_
        refine lv_iconst (v := (0 : Int32)) hx hb dX6_put_32 (by decide) ?_
        refine lv_aload hx hb dX6_put_33 (lv_at hl 0 rfl) ?_
        refine va_get (D := D) (ci := 1) (v := .int (S_length 3)) (C := RX1) (T := TX1) (N := 3) hx hb hts hin1 hown hK hP 8 rfl rfl 2 (by decide) fl210 (fun _ h9 => h9) rfl dX6_put_35 ?_
        refine lv_iconst (v := (1 : Int32)) hx hb dX6_put_38 (by decide) ?_
        refine lv_isub hx hb dX6_put_39 ?_
        obtain ⟨r40, hc40, hf⟩ := zb hf
        refine zsr (o := some (.int r40)) (As := [.int x2, .int (0 : Int32), .int ((S_length 3) - (1 : Int32))]) (rest := []) (stk := [.int r40]) ⟨hx, hb, hml, hown, hts⟩ (mX6_within l D cy st sk sv B  n x2 (0 : Int32) ((S_length 3) - (1 : Int32)) r40 hc40) (va_cwS 3 hts gX6_put_X6_within rfl rfl rfl (by decide +kernel) ⟨Nat.le_of_ble_eq_true rfl, Nat.le_of_ble_eq_true rfl⟩) hG hS hAB hP [] rfl rfl hl.1 rfl (Nat.le_of_ble_eq_true rfl) dX6_put_40 rfl ?_
        refine lv_if_ne (tgt := 49) hx hb dX6_put_43 (by decide) (fun c_43 => ?_) (fun c_43 => ?_)
        · have hf := zn hf c_43
          refine lv_aload hx hb dX6_put_49 (lv_at hl 0 rfl) ?_
          refine va_get (D := D) (ci := 1) (v := .ref (aI 3)) (C := RX1) (T := TX1) (N := 3) hx hb hts hin1 hown hK hP 8 rfl rfl 0 (by decide) fl211 (fun _ h9 => h9) rfl dX6_put_51 ?_
          refine lv_iload_n hx hb dX6_put_54 rfl (lv_at hl 3 rfl) ?_
          refine lv_iload_n hx hb dX6_put_55 rfl (lv_at hl 4 rfl) ?_
          refine lv_aload hx hb dX6_put_56 (lv_at hl 0 rfl) ?_
          refine va_get (D := D) (ci := 1) (v := .int (S_sort 3)) (C := RX1) (T := TX1) (N := 3) hx hb hts hin1 hown hK hP 8 rfl rfl 1 (by decide) fl203 (fun _ h9 => h9) rfl dX6_put_58 ?_
          obtain ⟨r61, hc61, hf⟩ := zb hf
          refine zsr (o := some (.int r61)) (As := [.int x3, .int (S_sort 3)]) (rest := [.int x2, .ref (aI 3)]) (stk := [.int r61, .int x2, .ref (aI 3)]) ⟨hx, hb, hml, hown, hts⟩ (mX6_narrowed l D cy st sk sv B  n x3 (S_sort 3) r61 hc61) (va_cwS 2 hts gX6_put_X6_narrowed rfl rfl rfl (by decide +kernel) ⟨Nat.le_of_ble_eq_true rfl, Nat.le_of_ble_eq_true rfl⟩) hG hS hAB hP [] rfl rfl hl.1 rfl (Nat.le_of_ble_eq_true rfl) dX6_put_61 rfl ?_
          refine lv_i2l hx hb dX6_put_64 rfl ?_
          obtain ⟨h_65, hf⟩ := zg hf
          refine va_last hx hb hK hP hD hS 9 2 rfl rfl h_65 dX6_put_65 (fun H locs hP hD hS => ?_)
          have hP : va_P D vwCl [(ak, .inr (6, [.ref an0, .ref ay0, .ref ae0, .int uK, .ref aa0, .ref aw0, .ref as0, .ref af0, .ref ag0])), (as0, .inl (cy 3, 4, .inr (.inr (.inr (.inr (fun j => some (aS j))))))), ((aS 0), .inr (1, [.ref (aI 0), .int (S_sort 0), .int (S_length 0)])), ((aI 0), .inl (cy 2, 40, .inr (.inl ((va_up S_items 3 (vp_updL (S_items 3) x2.toNatClampNeg r61.toInt64)) 0)))), ((aS 1), .inr (1, [.ref (aI 1), .int (S_sort 1), .int (S_length 1)])), ((aI 1), .inl (cy 2, 40, .inr (.inl ((va_up S_items 3 (vp_updL (S_items 3) x2.toNatClampNeg r61.toInt64)) 1)))), ((aS 2), .inr (1, [.ref (aI 2), .int (S_sort 2), .int (S_length 2)])), ((aI 2), .inl (cy 2, 40, .inr (.inl ((va_up S_items 3 (vp_updL (S_items 3) x2.toNatClampNeg r61.toInt64)) 2)))), ((aS 3), .inr (1, [.ref (aI 3), .int (S_sort 3), .int (S_length 3)])), ((aI 3), .inl (cy 2, 40, .inr (.inl ((va_up S_items 3 (vp_updL (S_items 3) x2.toNatClampNeg r61.toInt64)) 3))))] H := hP
          have hD : va_D A [(ak, .inr (6, [.ref an0, .ref ay0, .ref ae0, .int uK, .ref aa0, .ref aw0, .ref as0, .ref af0, .ref ag0])), (as0, .inl (cy 3, 4, .inr (.inr (.inr (.inr (fun j => some (aS j))))))), ((aS 0), .inr (1, [.ref (aI 0), .int (S_sort 0), .int (S_length 0)])), ((aI 0), .inl (cy 2, 40, .inr (.inl ((va_up S_items 3 (vp_updL (S_items 3) x2.toNatClampNeg r61.toInt64)) 0)))), ((aS 1), .inr (1, [.ref (aI 1), .int (S_sort 1), .int (S_length 1)])), ((aI 1), .inl (cy 2, 40, .inr (.inl ((va_up S_items 3 (vp_updL (S_items 3) x2.toNatClampNeg r61.toInt64)) 1)))), ((aS 2), .inr (1, [.ref (aI 2), .int (S_sort 2), .int (S_length 2)])), ((aI 2), .inl (cy 2, 40, .inr (.inl ((va_up S_items 3 (vp_updL (S_items 3) x2.toNatClampNeg r61.toInt64)) 2)))), ((aS 3), .inr (1, [.ref (aI 3), .int (S_sort 3), .int (S_length 3)])), ((aI 3), .inl (cy 2, 40, .inr (.inl ((va_up S_items 3 (vp_updL (S_items 3) x2.toNatClampNeg r61.toInt64)) 3))))] := hD
          refine lv_iconst (v := (1 : Int32)) hx hb dX6_put_66 (by decide) ?_
          exact W.iret hx hb hr (fun t ht hW => hfin (1 : Int32) (va_up S_items 3 (vp_updL (S_items 3) x2.toNatClampNeg r61.toInt64)) S_sort S_length hf _ t ht hP (hS.F ht)) hS.2.2 dX6_put_67
        · have hf := zp hf c_43
          refine lv_bipush (v := (-12 : Int32)) hx hb dX6_put_46 (by decide) ?_
          exact W.iret hx hb hr (fun t ht hW => hfin (-12 : Int32) S_items S_sort S_length hf _ t ht hP (hS.F ht)) hS.2.2 dX6_put_48
      · have hf := zp hf c_25
        refine lv_bipush (v := (-11 : Int32)) hx hb dX6_put_28 (by decide) ?_
        exact W.iret hx hb hr (fun t ht hW => hfin (-11 : Int32) S_items S_sort S_length hf _ t ht hP (hS.F ht)) hS.2.2 dX6_put_30
  · have hf := zp hf c_6
    refine lv_iconst (v := (-1 : Int32)) hx hb dX6_put_9 (by decide) ?_
    exact W.iret hx hb hr (fun t ht hW => hfin (-1 : Int32) S_items S_sort S_length hf _ t ht hP (hS.F ht)) hS.2.2 dX6_put_10
