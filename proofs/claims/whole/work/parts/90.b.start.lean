/-! THE START: what the statement gives of the machine, as the global facts -/
theorem zarrP {args : Array Value} {s : State} {ty : FieldType} (h : (Cond.arrayClass ty).before args s = true) : ∃ cA : ClassId, ArrOfT s cA ty ∧ s.vm.findClass ("[" ++ ty.toString) = some cA := by
  obtain ⟨c, k, comp, h1, h2, h3⟩ := Cond.arrayClass_spec (args := args) (first := s) (o := none) (s := s) (idx := []) h
  exact ⟨c, fun n z => ⟨fun k h => (by cases h), k, h2, comp, h3⟩, h1⟩
theorem zarrO {args : Array Value} {s : State} {C : String} (h : (Cond.arrayOver (.object C)).before args s = true) : ∃ cA : ClassId, ArrOfT s cA (.object C) ∧ va_RA s cA (.object C) := by
  obtain ⟨comp, c, k, h1, -, h2, h3, h4⟩ := Cond.arrayOver_spec (args := args) (first := s) (o := none) (s := s) (idx := []) h
  exact ⟨c, fun n z => ⟨fun k h => (by cases h), k, h2, comp, h3⟩, k, comp, h2, h3, h1, h4⟩
def gfl : List Cond := flatC (Jvm.Cond.and given_1 narrow_1)
def gtS (k : Nat) : Term := .static RX6 (gsN k) "[I"
def gtK (k : Nat) : Term := .string RX5 (gkI k)
set_option maxRecDepth 20000 in
theorem gm1 : ∀ k, k < 4 → Cond.arrayOf (gtS k) .int ∈ gfl := by decide +kernel
set_option maxRecDepth 20000 in
theorem gm2 : ∀ k, k < 4 → Cond.eq (.length (gtS k)) (.int (Int32.ofNat (gsL k))) ∈ gfl := by decide +kernel
set_option maxRecDepth 20000 in
theorem gm3 : ∀ k, k < 4 → ∀ j, j < gsL k → Cond.eq (.elem (gtS k) (.int (Int32.ofNat j))) (.int (gsF k j)) ∈ gfl := by decide +kernel
set_option maxRecDepth 20000 in
theorem gm4 : ∀ i, i < 14 → Cond.exactly (gtK i) "java/lang/String" ∈ gfl := by decide +kernel
set_option maxRecDepth 20000 in
theorem gm5 : ∀ i, i < 14 → Cond.eq (.field (gtK i) "java/lang/String" "coder" "B") (.int 0) ∈ gfl := by decide +kernel
set_option maxRecDepth 20000 in
theorem gm6 : ∀ i, i < 14 → Cond.arrayOf (.field (gtK i) "java/lang/String" "value" "[B") .byte ∈ gfl := by decide +kernel
set_option maxRecDepth 20000 in
theorem gm7 : ∀ i, i < 14 → Cond.eq (.length (.field (gtK i) "java/lang/String" "value" "[B")) (.int (Int32.ofNat (gkL.getD i 0))) ∈ gfl := by decide +kernel
set_option maxRecDepth 20000 in
theorem gm8 : ∀ i, i < 14 → ∀ j, j < gkL.getD i 0 → Cond.eq (.elem (.field (gtK i) "java/lang/String" "value" "[B") (.int (Int32.ofNat j))) (.int ((gkB.getD i []).getD j 0)) ∈ gfl := by decide +kernel
set_option maxRecDepth 20000 in
theorem gm9_1 : ∀ j, j < 1 → gfl[([93] : List Nat).getD j 0]? = some (Cond.not (Cond.eq (gtK j) (gtK 1))) := by decide +kernel
set_option maxRecDepth 20000 in
theorem gm9_2 : ∀ j, j < 2 → gfl[([105, 106] : List Nat).getD j 0]? = some (Cond.not (Cond.eq (gtK j) (gtK 2))) := by decide +kernel
set_option maxRecDepth 20000 in
theorem gm9_3 : ∀ j, j < 3 → gfl[([115, 116, 117] : List Nat).getD j 0]? = some (Cond.not (Cond.eq (gtK j) (gtK 3))) := by decide +kernel
set_option maxRecDepth 20000 in
theorem gm9_4 : ∀ j, j < 4 → gfl[([127, 128, 129, 130] : List Nat).getD j 0]? = some (Cond.not (Cond.eq (gtK j) (gtK 4))) := by decide +kernel
set_option maxRecDepth 20000 in
theorem gm9_5 : ∀ j, j < 5 → gfl[([139, 140, 141, 142, 143] : List Nat).getD j 0]? = some (Cond.not (Cond.eq (gtK j) (gtK 5))) := by decide +kernel
set_option maxRecDepth 20000 in
theorem gm9_6 : ∀ j, j < 6 → gfl[([152, 153, 154, 155, 156, 157] : List Nat).getD j 0]? = some (Cond.not (Cond.eq (gtK j) (gtK 6))) := by decide +kernel
set_option maxRecDepth 20000 in
theorem gm9_7 : ∀ j, j < 7 → gfl[([166, 167, 168, 169, 170, 171, 172] : List Nat).getD j 0]? = some (Cond.not (Cond.eq (gtK j) (gtK 7))) := by decide +kernel
set_option maxRecDepth 20000 in
theorem gm9_8 : ∀ j, j < 8 → gfl[([184, 185, 186, 187, 188, 189, 190, 191] : List Nat).getD j 0]? = some (Cond.not (Cond.eq (gtK j) (gtK 8))) := by decide +kernel
set_option maxRecDepth 20000 in
theorem gm9_9 : ∀ j, j < 9 → gfl[([200, 201, 202, 203, 204, 205, 206, 207, 208] : List Nat).getD j 0]? = some (Cond.not (Cond.eq (gtK j) (gtK 9))) := by decide +kernel
set_option maxRecDepth 20000 in
theorem gm9_10 : ∀ j, j < 10 → gfl[([219, 220, 221, 222, 223, 224, 225, 226, 227, 228] : List Nat).getD j 0]? = some (Cond.not (Cond.eq (gtK j) (gtK 10))) := by decide +kernel
set_option maxRecDepth 20000 in
theorem gm9_11 : ∀ j, j < 11 → gfl[([237, 238, 239, 240, 241, 242, 243, 244, 245, 246, 247] : List Nat).getD j 0]? = some (Cond.not (Cond.eq (gtK j) (gtK 11))) := by decide +kernel
set_option maxRecDepth 20000 in
theorem gm9_12 : ∀ j, j < 12 → gfl[([257, 258, 259, 260, 261, 262, 263, 264, 265, 266, 267, 268] : List Nat).getD j 0]? = some (Cond.not (Cond.eq (gtK j) (gtK 12))) := by decide +kernel
set_option maxRecDepth 20000 in
theorem gm9_13 : ∀ j, j < 13 → gfl[([277, 278, 279, 280, 281, 282, 283, 284, 285, 286, 287, 288, 289] : List Nat).getD j 0]? = some (Cond.not (Cond.eq (gtK j) (gtK 13))) := by decide +kernel
theorem gm9 : ∀ i, i < 14 → ∀ j, j < i → Cond.not (Cond.eq (gtK j) (gtK i)) ∈ gfl
  | 0, _, j, h => absurd h (Nat.not_lt_zero j)
  | 1, _, j, h => List.mem_of_getElem? (gm9_1 j h)
  | 2, _, j, h => List.mem_of_getElem? (gm9_2 j h)
  | 3, _, j, h => List.mem_of_getElem? (gm9_3 j h)
  | 4, _, j, h => List.mem_of_getElem? (gm9_4 j h)
  | 5, _, j, h => List.mem_of_getElem? (gm9_5 j h)
  | 6, _, j, h => List.mem_of_getElem? (gm9_6 j h)
  | 7, _, j, h => List.mem_of_getElem? (gm9_7 j h)
  | 8, _, j, h => List.mem_of_getElem? (gm9_8 j h)
  | 9, _, j, h => List.mem_of_getElem? (gm9_9 j h)
  | 10, _, j, h => List.mem_of_getElem? (gm9_10 j h)
  | 11, _, j, h => List.mem_of_getElem? (gm9_11 j h)
  | 12, _, j, h => List.mem_of_getElem? (gm9_12 j h)
  | 13, _, j, h => List.mem_of_getElem? (gm9_13 j h)
  | i + 14, h, _, _ => absurd h (by omega)
theorem gm10 : ∀ i, i < 14 → gkL.getD i 0 < 2 ^ 31 := by decide
section
variable {s : State} {a : Array Value}
theorem gl1 (hts : ∀ w ∈ lw_tbl, w.before a s = true) : ∀ k, k < 4 → (Cond.laysStatic RX6 (gsN k) "[I").before a s = true
  | 0, _ => (hts (.laysStatic RX6 "LAW_AT_FIRST" "[I") (List.mem_of_getElem? (i := 106) (by decide +kernel)))
  | 1, _ => (hts (.laysStatic RX6 "LAW_AT_MOST" "[I") (List.mem_of_getElem? (i := 430) (by decide +kernel)))
  | 2, _ => (hts (.laysStatic RX6 "KIND_ABOVE" "[I") (List.mem_of_getElem? (i := 757) (by decide +kernel)))
  | 3, _ => (hts (.laysStatic RX6 "BODY_OF" "[I") (List.mem_of_getElem? (i := 771) (by decide +kernel)))
  | k + 4, h => absurd h (by omega)
theorem gl2 (hts : ∀ w ∈ lw_tbl, w.before a s = true) : ∀ k, k < 14 → (Cond.stringRef RX5 (gkI k) (gkX k)).before a s = true
  | 0, _ => (hts (.stringRef RX5 108 "guest") (List.mem_of_getElem? (i := 334) (by decide +kernel)))
  | 1, _ => (hts (.stringRef RX5 110 "niece") (List.mem_of_getElem? (i := 387) (by decide +kernel)))
  | 2, _ => (hts (.stringRef RX5 112 "actuary") (List.mem_of_getElem? (i := 388) (by decide +kernel)))
  | 3, _ => (hts (.stringRef RX5 114 "heir") (List.mem_of_getElem? (i := 389) (by decide +kernel)))
  | 4, _ => (hts (.stringRef RX5 116 "clerk") (List.mem_of_getElem? (i := 390) (by decide +kernel)))
  | 5, _ => (hts (.stringRef RX5 118 "girl") (List.mem_of_getElem? (i := 391) (by decide +kernel)))
  | 6, _ => (hts (.stringRef RX5 71 "with") (List.mem_of_getElem? (i := 396) (by decide +kernel)))
  | 7, _ => (hts (.stringRef RX5 77 "gone") (List.mem_of_getElem? (i := 409) (by decide +kernel)))
  | 8, _ => (hts (.stringRef RX5 81 "drowned") (List.mem_of_getElem? (i := 410) (by decide +kernel)))
  | 9, _ => (hts (.stringRef RX5 42 "told") (List.mem_of_getElem? (i := 416) (by decide +kernel)))
  | 10, _ => (hts (.stringRef RX5 120 "breath") (List.mem_of_getElem? (i := 425) (by decide +kernel)))
  | 11, _ => (hts (.stringRef RX5 122 "salt") (List.mem_of_getElem? (i := 426) (by decide +kernel)))
  | 12, _ => (hts (.stringRef RX5 124 "depth") (List.mem_of_getElem? (i := 427) (by decide +kernel)))
  | 13, _ => (hts (.stringRef RX5 126 "slip") (List.mem_of_getElem? (i := 428) (by decide +kernel)))
  | k + 14, h => absurd h (by omega)
theorem gstat (hts : ∀ w ∈ lw_tbl, w.before a s = true) (hs : ∀ w ∈ gfl, w.before a s = true) : ∃ st : Nat → Nat, ∀ k, k < 4 → va_Z RX6 (gsN k) "[I" (.ref (st k)) (fun q => s.heap.size ≤ q) s s.heap ∧ va_T .int (st k) (gsL k) (fun j => .int (gsF k j)) (fun q => s.heap.size ≤ q) s s.heap := by
  have hA : ∀ x : Nat, x < s.heap.size → ¬ (fun q : Nat => s.heap.size ≤ q) x := fun x h => Nat.not_le.mpr h
  have hi : (Cond.initialized RX6).before a s = true := (hts (.initialized RX6) (List.mem_of_getElem? (i := 71) (by decide +kernel)))
  have h0 : ∀ k : Nat, ∃ t : Nat, k < 4 → va_Z RX6 (gsN k) "[I" (.ref t) (fun q => s.heap.size ≤ q) s s.heap ∧ va_T .int t (gsL k) (fun j => .int (gsF k j)) (fun q => s.heap.size ≤ q) s s.heap := by
    intro k
    by_cases hk : k < 4
    · obtain ⟨t, ht, hT⟩ := va_Tof (tm := gtS k) (ty := .int) (N := gsL k) (f := fun j => .int (gsF k j)) (A := fun q => s.heap.size ≤ q) (show gsL k < 2 ^ 31 from (show ∀ k, k < 4 → gsL k < 2 ^ 31 by decide) k hk) (hs _ (gm1 k hk)) (va_eqt (hs _ (gm2 k hk))) (fun j hj => va_eqt (hs _ (gm3 k hk j hj))) hA
      exact ⟨t, fun _ => ⟨va_Zof (gl1 hts k hk) hi ht hA, hT⟩⟩
    · exact ⟨0, fun h => absurd h hk⟩
  exact Classical.axiomOfChoice h0
theorem gtext (hts : ∀ w ∈ lw_tbl, w.before a s = true) (hs : ∀ w ∈ gfl, w.before a s = true) : ∃ sk sv : Nat → Nat, vk_S 14 gkL gkB sk sv (fun q => s.heap.size ≤ q) s s.heap ∧ ∀ k, k < 14 → vk_R RX5 (gkI k) (gkX k) (sk k) s := by
  have hA : ∀ x : Nat, x < s.heap.size → ¬ (fun q : Nat => s.heap.size ≤ q) x := fun x h => Nat.not_le.mpr h
  obtain ⟨sk, sv, h1, h2⟩ := vk_Sof (N := 14) (tm := gtK) (len := gkL) (byt := gkB) (A := fun q => s.heap.size ≤ q) gm10 (fun i hi => hs _ (gm4 i hi)) (fun i hi => hs _ (gm5 i hi)) (fun i hi => hs _ (gm6 i hi)) (fun i hi => hs _ (gm7 i hi)) (fun i hi j hj => hs _ (gm8 i hi j hj)) (fun i j hi hj hij => by
    by_cases h : j < i
    · exact Or.inr (hs _ (gm9 i hi j h))
    · exact Or.inl (hs _ (gm9 j hj i (by omega)))) hA
  exact ⟨sk, sv, h1, fun k hk => vk_R.of (gl2 hts k hk) (h2 k hk)⟩
theorem gclass (hts : ∀ w ∈ lw_tbl, w.before a s = true) : ∃ D : va_G, ∀ (k : Nat) (q : vw_C), vwCl[k]? = some q → u_Kn s q.1 q.2.1 q.2.2 (D.1 k) (D.2 k) := by
  obtain ⟨c0, i0, h0⟩ := u_known (C := RX0) (T := TX0) (N := 2) (n := 2) hts inX0 (hts (.instantiable RX0 2) (List.mem_of_getElem? (i := 186) (by decide +kernel)))
  obtain ⟨c1, i1, h1⟩ := u_known (C := RX1) (T := TX1) (N := 3) (n := 3) hts inX1 (hts (.instantiable RX1 3) (List.mem_of_getElem? (i := 231) (by decide +kernel)))
  obtain ⟨c2, i2, h2⟩ := u_known (C := RX2) (T := TX2) (N := 4) (n := 4) hts inX2 (hts (.instantiable RX2 4) (List.mem_of_getElem? (i := 252) (by decide +kernel)))
  obtain ⟨c3, i3, h3⟩ := u_known (C := RX3) (T := TX3) (N := 6) (n := 6) hts inX3 (hts (.instantiable RX3 6) (List.mem_of_getElem? (i := 205) (by decide +kernel)))
  obtain ⟨c4, i4, h4⟩ := u_known (C := RX4) (T := TX4) (N := 10) (n := 10) hts inX4 (hts (.instantiable RX4 10) (List.mem_of_getElem? (i := 96) (by decide +kernel)))
  obtain ⟨c5, i5, h5⟩ := u_known (C := RX5) (T := TX5) (N := 6) (n := 6) hts inX5 (hts (.instantiable RX5 6) (List.mem_of_getElem? (i := 157) (by decide +kernel)))
  obtain ⟨c6, i6, h6⟩ := u_known (C := RX6) (T := TX6) (N := 9) (n := 9) hts inX6 (hts (.instantiable RX6 9) (List.mem_of_getElem? (i := 88) (by decide +kernel)))
  obtain ⟨c7, i7, h7⟩ := u_known (C := RX7) (T := TX7) (N := 26) (n := 26) hts inX7 (hts (.instantiable RX7 26) (List.mem_of_getElem? (i := 805) (by decide +kernel)))
  refine ⟨(fun k => if k = 0 then c0 else if k = 1 then c1 else if k = 2 then c2 else if k = 3 then c3 else if k = 4 then c4 else if k = 5 then c5 else if k = 6 then c6 else c7, fun k => if k = 0 then i0 else if k = 1 then i1 else if k = 2 then i2 else if k = 3 then i3 else if k = 4 then i4 else if k = 5 then i5 else if k = 6 then i6 else i7), ?_⟩
  intro k q hq
  match k, hq with
  | 0, hq => cases hq; exact h0
  | 1, hq => cases hq; exact h1
  | 2, hq => cases hq; exact h2
  | 3, hq => cases hq; exact h3
  | 4, hq => cases hq; exact h4
  | 5, hq => cases hq; exact h5
  | 6, hq => cases hq; exact h6
  | 7, hq => cases hq; exact h7
  | k + 8, hq => simp [vwCl] at hq
theorem garr (hts : ∀ w ∈ lw_tbl, w.before a s = true) : ∃ cy : Nat → ClassId, ∀ (k : Nat) (q : ClassId × FieldType), (TY cy)[k]? = some q → ArrOfT s q.1 q.2 ∧ va_RA s q.1 q.2 := by
  obtain ⟨c0, h0, r0⟩ := zarrP (ty := .int) (hts (.arrayClass .int) (List.mem_of_getElem? (i := 155) (by decide +kernel)))
  obtain ⟨c1, h1, r1⟩ := zarrP (ty := .byte) (hts (.arrayClass .byte) (List.mem_of_getElem? (i := 184) (by decide +kernel)))
  obtain ⟨c2, h2, r2⟩ := zarrP (ty := .long) (hts (.arrayClass .long) (List.mem_of_getElem? (i := 251) (by decide +kernel)))
  obtain ⟨c3, h3, r3⟩ := zarrO (C := RX1) (hts (.arrayOver (.object RX1)) (List.mem_of_getElem? (i := 201) (by decide +kernel)))
  obtain ⟨c4, h4, r4⟩ := zarrO (C := RX2) (hts (.arrayOver (.object RX2)) (List.mem_of_getElem? (i := 203) (by decide +kernel)))
  refine ⟨fun k => if k = 0 then c0 else if k = 1 then c1 else if k = 2 then c2 else if k = 3 then c3 else c4, ?_⟩
  intro k q hq
  match k, hq with
  | 0, hq => cases hq; exact ⟨h0, r0⟩
  | 1, hq => cases hq; exact ⟨h1, r1⟩
  | 2, hq => cases hq; exact ⟨h2, r2⟩
  | 3, hq => cases hq; exact ⟨h3, r3⟩
  | 4, hq => cases hq; exact ⟨h4, r4⟩
  | k + 5, hq => simp at hq
theorem gstart (hts : ∀ w ∈ lw_tbl, w.before a s = true) (hs : ∀ w ∈ gfl, w.before a s = true) : ∃ (D : va_G) (cy : Nat → ClassId) (st sk sv : Nat → Nat), GC D cy st sk sv s.heap.size s := by
  have hA : ∀ x : Nat, x < s.heap.size → ¬ (fun q : Nat => s.heap.size ≤ q) x := fun x h => Nat.not_le.mpr h
  obtain ⟨D, hD⟩ := gclass hts
  obtain ⟨cy, hy⟩ := garr hts
  obtain ⟨st, hst⟩ := gstat hts hs
  obtain ⟨sk, sv, hk1, hk2⟩ := gtext hts hs
  refine ⟨D, cy, st, sk, sv, ⟨hD, hy⟩, ⟨va_Nw.of rfl (hts (.methodLinkNest RX0 19 yX6_within RX6) (List.mem_of_getElem? (i := 697) (by decide +kernel))), va_Nw.of rfl (hts (.methodLinkNest RX4 55 yX6_within RX6) (List.mem_of_getElem? (i := 457) (by decide +kernel))), va_Nw.of rfl (hts (.methodLinkNest RX4 75 yX6_held RX6) (List.mem_of_getElem? (i := 509) (by decide +kernel))), va_Nw.of rfl (hts (.fieldLinkNest RX4 34 RX6 "LAW_AT_FIRST" "[I" RX6) (List.mem_of_getElem? (i := 105) (by decide +kernel))), va_Nw.of rfl (hts (.fieldLinkNest RX5 64 RX6 "LAW_AT_MOST" "[I" RX6) (List.mem_of_getElem? (i := 429) (by decide +kernel))), va_Nw.of rfl (hts (.fieldLinkNest RX3 36 RX6 "BODY_OF" "[I" RX6) (List.mem_of_getElem? (i := 770) (by decide +kernel)))⟩, hst, ?_, ?_, hk1, hk2⟩
  · exact va_Zof (hts (.laysStatic "java/lang/String" "COMPACT_STRINGS" "Z") (List.mem_of_getElem? (i := 348) (by decide +kernel))) (hts (.initialized "java/lang/String") (List.mem_of_getElem? (i := 80) (by decide +kernel))) (va_eqi (hs _ (by decide +kernel))) hA
  · exact va_Zqof (hts (.laysStatic "jdk/internal/util/Preconditions" "SIOOBE_FORMATTER" "Ljava/util/function/BiFunction;") (List.mem_of_getElem? (i := 364) (by decide +kernel))) (hts (.initialized "jdk/internal/util/Preconditions") (List.mem_of_getElem? (i := 82) (by decide +kernel))) (hs _ (by decide +kernel)) hA
theorem gnx (hts : ∀ w ∈ lw_tbl, w.before a s = true) : NX s := ⟨va_Nw.of rfl (hts (.methodLinkNest RX6 24 yX5_init RX6) (List.mem_of_getElem? (i := 158) (by decide +kernel))), va_Nw.of rfl (hts (.methodLinkNest RX6 31 yX0_init RX6) (List.mem_of_getElem? (i := 187) (by decide +kernel))), va_Nw.of rfl (hts (.methodLinkNest RX6 50 yX3_init RX6) (List.mem_of_getElem? (i := 206) (by decide +kernel))), va_Nw.of rfl (hts (.methodLinkNest RX6 55 yX1_init RX6) (List.mem_of_getElem? (i := 232) (by decide +kernel))), va_Nw.of rfl (hts (.methodLinkNest RX6 56 yX2_init RX6) (List.mem_of_getElem? (i := 253) (by decide +kernel))), va_AO.of (hts (.arrayOver (.object RX1)) (List.mem_of_getElem? (i := 201) (by decide +kernel))), va_AO.of (hts (.arrayOver (.object RX2)) (List.mem_of_getElem? (i := 203) (by decide +kernel)))⟩
end
