/-- the classes of the arrays -/
abbrev TY (cy : Nat → ClassId) : List (ClassId × FieldType) := [(cy 0, .int), (cy 1, .byte), (cy 2, .long), (cy 3, .object RX1), (cy 4, .object RX2)]
/-- the static rows of the class: name, length, contents -/
def gsN (k : Nat) : String := ["LAW_AT_FIRST", "LAW_AT_MOST", "KIND_ABOVE", "BODY_OF"].getD k ""
def gsL (k : Nat) : Nat := [4, 4, 6, 24].getD k 0
/-- the names of the feast: their entry, text, bytes -/
def gkI (k : Nat) : Nat := [108, 110, 112, 114, 116, 118, 71, 77, 81, 42, 120, 122, 124, 126].getD k 0
def gkX (k : Nat) : String := ["guest", "niece", "actuary", "heir", "clerk", "girl", "with", "gone", "drowned", "told", "breath", "salt", "depth", "slip"].getD k ""
/-- what holds of the machine all the while: the classes, the nest's links, the static rows, the texts; all of it lies below B -/
def GC (D : va_G) (cy : Nat → ClassId) (st sk sv : Nat → Nat) (B : Nat) (U : State) : Prop :=
  va_K D vwCl (TY cy) U ∧
  (va_Nw (.methodLinkNest RX0 19 yX6_within RX6) U ∧ va_Nw (.methodLinkNest RX4 55 yX6_within RX6) U ∧ va_Nw (.methodLinkNest RX4 75 yX6_held RX6) U ∧ va_Nw (.fieldLinkNest RX4 34 RX6 "LAW_AT_FIRST" "[I" RX6) U ∧ va_Nw (.fieldLinkNest RX5 64 RX6 "LAW_AT_MOST" "[I" RX6) U ∧ va_Nw (.fieldLinkNest RX3 36 RX6 "BODY_OF" "[I" RX6) U) ∧
  (∀ k, k < 4 → va_Z RX6 (gsN k) "[I" (.ref (st k)) (fun q => B ≤ q) U U.heap ∧ va_T .int (st k) (gsL k) (fun j => .int (gsF k j)) (fun q => B ≤ q) U U.heap) ∧
  va_Z "java/lang/String" "COMPACT_STRINGS" "Z" (.int 1) (fun q => B ≤ q) U U.heap ∧
  va_Zq "jdk/internal/util/Preconditions" "SIOOBE_FORMATTER" "Ljava/util/function/BiFunction;" (fun q => B ≤ q) U U.heap ∧
  vk_S 14 gkL gkB sk sv (fun q => B ≤ q) U U.heap ∧
  (∀ k, k < 14 → vk_R RX5 (gkI k) (gkX k) (sk k) U)
theorem GC.step {D : va_G} {cy : Nat → ClassId} {st sk sv : Nat → Nat} {B : Nat} {s U : State} (h : GC D cy st sk sv B s) (hW : s.WarmedH U.vm) (hh : ∀ a : Nat, a < s.heap.size → ¬ B ≤ a → U.heap[a]? = s.heap[a]?) : GC D cy st sk sv B U := by
  obtain ⟨h1, ⟨n1, n2, n3, n4, n5, n6⟩, h2, h3, h4, h5, h6⟩ := h
  refine ⟨va_K.moved hW.alike h1, ⟨va_Nw.warmM hW n1, va_Nw.warmM hW n2, va_Nw.warmM hW n3, va_Nw.warmF hW n4, va_Nw.warmF hW n5, va_Nw.warmF hW n6⟩, fun k hk => ⟨((h2 k hk).1.kept hh).moved hW.alike, ((h2 k hk).2.kept hh).moved hW.alike⟩, (h3.kept hh).moved hW.alike, (h4.kept hh).moved hW.alike, (h5.kept hh).moved hW.alike, fun k hk => vk_R.warm hW (h6 k hk)⟩
theorem GC.at {D : va_G} {cy : Nat → ClassId} {st sk sv : Nat → Nat} {B : Nat} {s U : State} {A : Nat → Prop} {H : Heap} {locs : List Loc} (h : GC D cy st sk sv B s) (hS : va_S A s.heap H locs) (hAB : ∀ q, A q → B ≤ q) (hU : U.heap = H) (hW : s.WarmedH U.vm) : GC D cy st sk sv B U :=
  h.step hW (fun a h1 h2 => by rw [hU]; exact hS.2.1 a h1 (fun z => h2 (hAB a z)))
/-- a reading method's start: its arguments, the cells that it reads, the global facts -/
def PcR (av : List Value) (D : va_G) (cy : Nat → ClassId) (st sk sv : Nat → Nat) (B : Nat) (ws : va_W) : Array Value → State → Prop := fun v U => v = av.toArray ∧ va_P D vwCl ws U.heap ∧ GC D cy st sk sv B U
/-- a writing method's start -/
def PcW (av : List Value) (D : va_G) (cy : Nat → ClassId) (st sk sv : Nat → Nat) (B sz : Nat) (ws : va_W) : Array Value → State → Prop := fun v U => v = av.toArray ∧ U.heap.size = sz ∧ va_P D vwCl ws U.heap ∧ va_D (fun q => B ≤ q) ws ∧ B ≤ sz ∧ GC D cy st sk sv B U
/-- a writing method's end: the outcome, the cells, nothing else changed -/
def Qw (o : Option Value) (D : va_G) (ws : va_W) (A : Nat → Prop) : Array Value → State → Outcome → State → Prop := fun _ u oc t => oc = .returned o ∧ va_P D vwCl ws t.heap ∧ va_F A u t
/-- a reading method's end -/
def Qr (o : Option Value) : Array Value → State → Outcome → State → Prop := fun _ u oc t => oc = .returned o ∧ t.heap = u.heap
theorem GC.calling {D : va_G} {cy : Nat → ClassId} {st sk sv : Nat → Nat} {B : Nat} {U : State} (h : GC D cy st sk sv B U) (g : JFrame) (mk : MethodId) (a : Array Value) : GC D cy st sk sv B (U.calling g mk a) :=
  h.step (U := U.calling g mk a) (State.WarmedH.refl U) (fun _ _ _ => rfl)
theorem PcR.blind {av : List Value} {D : va_G} {cy : Nat → ClassId} {st sk sv : Nat → Nat} {B : Nat} {ws : va_W} : FrameBlind (PcR av D cy st sk sv B ws) := fun a U g mk q => ⟨q.1, q.2.1, q.2.2.calling g mk a⟩
theorem PcW.blind {av : List Value} {D : va_G} {cy : Nat → ClassId} {st sk sv : Nat → Nat} {B sz : Nat} {ws : va_W} : FrameBlind (PcW av D cy st sk sv B sz ws) := fun a U g mk q => ⟨q.1, q.2.1, q.2.2.1, q.2.2.2.1, q.2.2.2.2.1, q.2.2.2.2.2.calling g mk a⟩
section ZC
variable {p : Program} {l : Launch} {e : Env} {R : Room} {s : State} {m : MethodId} {args : Array Value} {below : List Frame} {meth : Method} {c : Code} {H : Heap} {locs : List Loc} {cells slots : Nat} {Q : State → Prop}
variable {pc : Nat} {ls : Array Slot} {rest st0 : List Value} {a : Array Value} {A0 A1 : Nat → Prop} {H0 : Heap} {free : Addr → Prop}
/-- behind a reading call: nothing changed, its answer is on the stack -/
theorem zr_call {o : Option Value} (hr : va_Run p l e R s m args below meth c H locs cells slots 0 0 (F0 m pc ls st0) rest (Qr o a) (fun _ => False))
    (kk : W p l e R s m args below meth c H locs cells slots Q (F0 m (pc + 3) ls (o.toList ++ rest))) : W p l e R s m args below meth c H locs cells slots Q (F0 m pc ls st0) := by
  intro T hT X
  obtain ⟨v, st₀, t, T', L, h0, X', hL, e1, -, ⟨hv, hh⟩, g⟩ := hr T hT X
  cases hv
  obtain ⟨t2, a1, b1⟩ := kk T' (by rw [e1, hh, h0]) (Stand.forget X' (fun q h => (hL q h).elim))
  exact ⟨t2, g t2 a1, b1⟩
/-- behind a writing call: the cells that it was given are as it says, all others as they were -/
theorem zw_call {o : Option Value} {D : va_G} {w1 : va_W} (hr : va_Run p l e R s m args below meth c H locs cells slots 0 0 (F0 m pc ls st0) rest (Qw o D w1 A1 a) free) (hS : va_S A0 H0 H locs) (hA : ∀ q, q < H.size → A1 q → A0 q) (hf : ∀ q, free q → A0 q)
    (kk : ∀ (H1 : Heap) (locs1 : List Loc), va_P D vwCl w1 H1 → H.size ≤ H1.size → (∀ q : Nat, q < H.size → ¬ A1 q → H1[q]? = H[q]?) → va_S A0 H0 H1 locs1 → W p l e R s m args below meth c H1 locs1 cells slots Q (F0 m (pc + 3) ls (o.toList ++ rest))) : W p l e R s m args below meth c H locs cells slots Q (F0 m pc ls st0) := by
  intro T hT X
  obtain ⟨v, st₀, t, T', L, h0, X', hL, e1, e2, ⟨hv, hp, hz, hk⟩, g⟩ := hr T hT X
  cases hv
  rw [h0] at hz hk
  obtain ⟨t2, a1, b1⟩ := kk T'.heap (locs ++ L) (by rw [e1]; exact hp) (by rw [e1]; exact hz) (fun q h1 h2 => by rw [e1]; exact hk q h1 h2)
    ⟨Nat.le_trans hS.1 (by rw [e1]; exact hz), fun q h1 h2 => by rw [e1, hk q (Nat.lt_of_lt_of_le h1 hS.1) (fun z => h2 (hA q (Nat.lt_of_lt_of_le h1 hS.1) z))]; exact hS.2.1 q h1 h2, fun q hq => by
      rcases List.mem_append.mp hq with h | h
      · exact hS.2.2 q h
      · exact hf _ (hL q h)⟩ T' rfl X'
  exact ⟨t2, g t2 a1, b1⟩
end ZC
/-- the cells at some places give way to others -/
def swp : va_W → List Nat → va_W → va_W
  | ws, i :: is, x :: xs => swp (ws.set i x) is xs
  | ws, _, _ => ws
theorem swp_get : ∀ (is : List Nat) (w1 ws : va_W) (k : Nat) (q : Nat × va_E), is.length = w1.length → (swp ws is w1)[k]? = some q → q ∈ w1 ∨ (k ∉ is ∧ ws[k]? = some q) := by
  intro is
  induction is with
  | nil =>
    intro w1 ws k q hl h
    cases w1 with
    | nil => exact Or.inr ⟨List.not_mem_nil, h⟩
    | cons x xs => cases hl
  | cons i is ih =>
    intro w1 ws k q hl h
    cases w1 with
    | nil => cases hl
    | cons x xs =>
      rcases ih xs (ws.set i x) k q (by simpa using hl) h with h1 | ⟨h1, h2⟩
      · exact Or.inl (List.mem_cons_of_mem _ h1)
      · by_cases hk : i = k
        · subst hk
          rw [List.getElem?_set] at h2
          by_cases hlt : i < ws.length
          · rw [if_pos rfl, if_pos hlt] at h2
            exact Or.inl (by rw [← Option.some.inj h2]; exact List.mem_cons_self)
          · rw [if_pos rfl, if_neg hlt] at h2
            cases h2
        · rw [List.getElem?_set_ne hk] at h2
          refine Or.inr ⟨fun z => ?_, h2⟩
          rcases List.mem_cons.mp z with z | z
          · exact hk z.symm
          · exact h1 z
theorem zD_of {A : Nat → Prop} {ws ws' : va_W} (hm : ws'.map Prod.fst = ws.map Prod.fst) (hD : va_D A ws) : va_D A ws' := by
  have key : ∀ (k : Nat) (q : Nat × va_E), ws'[k]? = some q → ∃ q' : Nat × va_E, ws[k]? = some q' ∧ q'.1 = q.1 := by
    intro k q h
    have h1 : (ws'.map Prod.fst)[k]? = some q.1 := by rw [List.getElem?_map, h]; rfl
    rw [hm, List.getElem?_map] at h1
    cases h2 : ws[k]? with
    | none => rw [h2] at h1; cases h1
    | some q' => rw [h2] at h1; exact ⟨q', rfl, Option.some.inj h1⟩
  refine ⟨fun i j x y hx hy hxy => ?_, fun k q hq => ?_⟩
  · obtain ⟨x', hx', ex⟩ := key i x hx
    obtain ⟨y', hy', ey⟩ := key j y hy
    exact hD.1 i j x' y' hx' hy' (by rw [ex, ey, hxy])
  · obtain ⟨q', hq', eq⟩ := key k q hq
    rw [← eq]
    exact hD.2 k q' hq'
/-- what came back is put in its place -/
theorem zj {D : va_G} {A0 : Nat → Prop} {ws wc w1 : va_W} {H H1 : Heap} (hP : va_P D vwCl ws H) (hD : va_D A0 ws) (isC : List Nat) (hC : isC.map (fun i => ws[i]?) = wc.map some) (hl : isC.length = w1.length) (hm : (swp ws isC w1).map Prod.fst = ws.map Prod.fst) (hk : ∀ q : Nat, q < H.size → ¬ va_A wc H.size q → H1[q]? = H[q]?) (hP1 : va_P D vwCl w1 H1) : va_P D vwCl (swp ws isC w1) H1 ∧ va_D A0 (swp ws isC w1) := by
  refine ⟨fun k q hq => ?_, zD_of hm hD⟩
  rcases swp_get isC w1 ws k q hl hq with h | ⟨h1, h2⟩
  · obtain ⟨i, hi⟩ := List.getElem?_of_mem h
    exact hP1 i q hi
  · have hat := hP k q h2
    refine hat.kept (hk q.1 hat.lt (fun z => ?_))
    rcases z with ⟨j, e, hj⟩ | z
    · have h3 : (wc.map some)[j]? = some (some (q.1, e)) := by rw [List.getElem?_map, hj]; rfl
      rw [← hC, List.getElem?_map] at h3
      cases h4 : isC[j]? with
      | none => rw [h4] at h3; cases h3
      | some i =>
        rw [h4] at h3
        have h5 : ws[i]? = some (q.1, e) := Option.some.inj h3
        have h6 : k = i := hD.1 k i q (q.1, e) h2 h5 rfl
        exact h1 (h6 ▸ List.mem_of_getElem? h4)
    · exact absurd hat.lt (Nat.not_lt.mpr z)
theorem zA {ws : va_W} {B sz : Nat} (hD : va_D (fun q => B ≤ q) ws) (hs : B ≤ sz) : ∀ q, va_A ws sz q → B ≤ q := by
  intro q h
  rcases h with ⟨k, e, h⟩ | h
  · exact hD.2 k _ h
  · exact Nat.le_trans hs h
section ZV
variable {p : Program} {l : Launch} {e : Env} {R : Room} {s : State} {m : MethodId} {args : Array Value} {below : List Frame} {meth : Method} {c : Code} {H : Heap} {locs : List Loc} {Q : State → Prop}
variable {pc : Nat} {ls : Array Slot} {rest st0 : List Value} {A0 : Nat → Prop}
variable {D : va_G} {cy : Nat → ClassId} {st sk sv : Nat → Nat} {B : Nat}
variable {y : MethodName} {bytes cc : ByteArray} {maxL nL n index : Nat} {ret : Option FieldType} {ws : List Cond} {rm : Room} {Ts : List Cond} {own C host : String} {b : Addr} {As : List Value} {o : Option Value} {wa wc w1 : va_W}
/-- a reading method of an object, called -/
theorem zvr (S : CallFix p m c cc nL s args Ts own) (hM : Met l y ws rm (PcR (.ref b :: As) D cy st sk sv B wc) (Qr o) 0 0 (fun _ => False)) (cw : CallW R s args own C index y bytes maxL ret ws rm 0 0 n)
    (hG : GC D cy st sk sv B s) (hS : va_S A0 s.heap H locs) (hAB : ∀ q, A0 q → B ≤ q) (hP : va_P D vwCl wa H) (is : List Nat) (hC : is.filterMap (fun i => wa[i]?) = wc) (q0 ci : Nat) {fs : List Value} {q : vw_C} (he : wc[q0]? = some (b, .inr (ci, fs))) (hc : vwCl[ci]? = some q) (hq : q.1 = C)
    (hn : As.length = n) (hsize : ls.size = nL) (hstack : st0 = As.reverse ++ .ref b :: rest) (hW : (rest.map fun v => v.category).sum ≤ 8) (hdg : decode cc pc = .ok (.invokevirtual index, 3))
    {stk : List Value} (hstk : o.toList ++ rest = stk) (kk : W p l e R s m args below meth c H locs 0 0 Q (F0 m (pc + 3) ls stk)) : W p l e R s m args below meth c H locs 0 0 Q (F0 m pc ls st0) := by
  have hPc := hP.sub (ws' := wc) is hC
  subst hstack
  subst hstk
  subst hq
  exact zr_call (va_runV (As := As) (rest := rest) S hM cw ⟨PcR.blind, va_recv hG.1 hPc hc he, fun U hU hW => ⟨rfl, by rw [hU]; exact hPc, hG.at hS hAB hU hW⟩⟩ rfl hn hsize rfl (lv_room hW) hdg ⟨Nat.zero_le _, Nat.zero_le _⟩) kk
/-- a reading static method, called -/
theorem zsr (S : CallFix p m c cc nL s args Ts own) (hM : Met l y ws rm (PcR As D cy st sk sv B wc) (Qr o) 0 0 (fun _ => False)) (cw : CallB R s args own index y bytes maxL ret ws rm 0 0 n ∧ (Cond.static y).before args s = true)
    (hG : GC D cy st sk sv B s) (hS : va_S A0 s.heap H locs) (hAB : ∀ q, A0 q → B ≤ q) (hP : va_P D vwCl wa H) (is : List Nat) (hC : is.filterMap (fun i => wa[i]?) = wc)
    (hn : As.length = n) (hsize : ls.size = nL) (hstack : st0 = As.reverse ++ rest) (hW : (rest.map fun v => v.category).sum ≤ 8) (hdg : decode cc pc = .ok (.invokestatic index, 3))
    {stk : List Value} (hstk : o.toList ++ rest = stk) (kk : W p l e R s m args below meth c H locs 0 0 Q (F0 m (pc + 3) ls stk)) : W p l e R s m args below meth c H locs 0 0 Q (F0 m pc ls st0) := by
  have hPc := hP.sub (ws' := wc) is hC
  subst hstack
  subst hstk
  exact zr_call (va_runS (As := As) (rest := rest) S hM cw ⟨PcR.blind, fun U hU hW => ⟨rfl, by rw [hU]; exact hPc, hG.at hS hAB hU hW⟩⟩ rfl hn hsize rfl (lv_room hW) hdg ⟨Nat.zero_le _, Nat.zero_le _⟩) kk
/-- the same, of a nest mate's -/
theorem zsrN (S : CallFix p m c cc nL s args Ts own) (hM : Met l y ws rm (PcR As D cy st sk sv B wc) (Qr o) 0 0 (fun _ => False)) (cw : va_CN R s args own index y host bytes maxL ret ws rm 0 0 n ∧ (Cond.static y).before args s = true ∧ True)
    (hG : GC D cy st sk sv B s) (hS : va_S A0 s.heap H locs) (hAB : ∀ q, A0 q → B ≤ q) (hP : va_P D vwCl wa H) (is : List Nat) (hC : is.filterMap (fun i => wa[i]?) = wc)
    (hn : As.length = n) (hsize : ls.size = nL) (hstack : st0 = As.reverse ++ rest) (hW : (rest.map fun v => v.category).sum ≤ 8) (hdg : decode cc pc = .ok (.invokestatic index, 3))
    {stk : List Value} (hstk : o.toList ++ rest = stk) (kk : W p l e R s m args below meth c H locs 0 0 Q (F0 m (pc + 3) ls stk)) : W p l e R s m args below meth c H locs 0 0 Q (F0 m pc ls st0) := by
  have hPc := hP.sub (ws' := wc) is hC
  subst hstack
  subst hstk
  exact zr_call (va_runSN (As := As) (rest := rest) S hM cw ⟨PcR.blind, fun U hU hW => ⟨rfl, by rw [hU]; exact hPc, hG.at hS hAB hU hW⟩⟩ rfl hn hsize rfl (lv_room hW) hdg ⟨Nat.zero_le _, Nat.zero_le _⟩) kk
/-- a writing method of an object, called -/
theorem zvw (S : CallFix p m c cc nL s args Ts own) (hM : Met l y ws rm (PcW (.ref b :: As) D cy st sk sv B H.size wc) (Qw o D w1 (va_A wc H.size)) 0 0 (va_A wc H.size)) (cw : CallW R s args own C index y bytes maxL ret ws rm 0 0 n)
    (hG : GC D cy st sk sv B s) (hS : va_S A0 s.heap H locs) (hAB : ∀ q, A0 q → B ≤ q) (hA : ∀ q, s.heap.size ≤ q → A0 q) (hP : va_P D vwCl wa H) (hD : va_D A0 wa) (is : List Nat) (hni : va_nd is = true) (hC : is.filterMap (fun i => wa[i]?) = wc) (hC2 : is.map (fun i => wa[i]?) = wc.map some) (hl : is.length = w1.length) (hm : (swp wa is w1).map Prod.fst = wa.map Prod.fst) (q0 ci : Nat) {fs : List Value} {q : vw_C} (he : wc[q0]? = some (b, .inr (ci, fs))) (hc : vwCl[ci]? = some q) (hq : q.1 = C)
    (hn : As.length = n) (hsize : ls.size = nL) (hstack : st0 = As.reverse ++ .ref b :: rest) (hW : (rest.map fun v => v.category).sum ≤ 8) (hdg : decode cc pc = .ok (.invokevirtual index, 3))
    {stk : List Value} (hstk : o.toList ++ rest = stk) (kk : ∀ (H1 : Heap) (locs1 : List Loc), va_P D vwCl (swp wa is w1) H1 → va_D A0 (swp wa is w1) → va_S A0 s.heap H1 locs1 → W p l e R s m args below meth c H1 locs1 0 0 Q (F0 m (pc + 3) ls stk)) : W p l e R s m args below meth c H locs 0 0 Q (F0 m pc ls st0) := by
  have hPc := hP.sub (ws' := wc) is hC
  have hDc := hD.sub (ws' := wc) is hni hC2
  have hFc := va_free (wc := wc) hD hS hA is hC2
  have hsz : B ≤ H.size := Nat.le_trans (hAB _ (hA _ (Nat.le_refl _))) hS.1
  subst hstack
  subst hstk
  subst hq
  refine zw_call (va_runV (As := As) (rest := rest) S hM cw ⟨PcW.blind, va_recv hG.1 hPc hc he, fun U hU hW => ⟨rfl, by rw [hU], by rw [hU]; exact hPc, hDc.weaken (fun _ _ _ h => hAB _ h), hsz, hG.at hS hAB hU hW⟩⟩ rfl hn hsize rfl (lv_room hW) hdg ⟨Nat.zero_le _, Nat.zero_le _⟩) hS (fun q _ h => hFc q h) hFc (fun H1 locs1 hP1 _ hk1 hS1 => ?_)
  obtain ⟨hP2, hD2⟩ := zj hP hD is hC2 hl hm hk1 hP1
  exact kk H1 locs1 hP2 hD2 hS1
/-- a writing static method, called -/
theorem zsw (S : CallFix p m c cc nL s args Ts own) (hM : Met l y ws rm (PcW As D cy st sk sv B H.size wc) (Qw o D w1 (va_A wc H.size)) 0 0 (va_A wc H.size)) (cw : CallB R s args own index y bytes maxL ret ws rm 0 0 n ∧ (Cond.static y).before args s = true)
    (hG : GC D cy st sk sv B s) (hS : va_S A0 s.heap H locs) (hAB : ∀ q, A0 q → B ≤ q) (hA : ∀ q, s.heap.size ≤ q → A0 q) (hP : va_P D vwCl wa H) (hD : va_D A0 wa) (is : List Nat) (hni : va_nd is = true) (hC : is.filterMap (fun i => wa[i]?) = wc) (hC2 : is.map (fun i => wa[i]?) = wc.map some) (hl : is.length = w1.length) (hm : (swp wa is w1).map Prod.fst = wa.map Prod.fst)
    (hn : As.length = n) (hsize : ls.size = nL) (hstack : st0 = As.reverse ++ rest) (hW : (rest.map fun v => v.category).sum ≤ 8) (hdg : decode cc pc = .ok (.invokestatic index, 3))
    {stk : List Value} (hstk : o.toList ++ rest = stk) (kk : ∀ (H1 : Heap) (locs1 : List Loc), va_P D vwCl (swp wa is w1) H1 → va_D A0 (swp wa is w1) → va_S A0 s.heap H1 locs1 → W p l e R s m args below meth c H1 locs1 0 0 Q (F0 m (pc + 3) ls stk)) : W p l e R s m args below meth c H locs 0 0 Q (F0 m pc ls st0) := by
  have hPc := hP.sub (ws' := wc) is hC
  have hDc := hD.sub (ws' := wc) is hni hC2
  have hFc := va_free (wc := wc) hD hS hA is hC2
  have hsz : B ≤ H.size := Nat.le_trans (hAB _ (hA _ (Nat.le_refl _))) hS.1
  subst hstack
  subst hstk
  refine zw_call (va_runS (As := As) (rest := rest) S hM cw ⟨PcW.blind, fun U hU hW => ⟨rfl, by rw [hU], by rw [hU]; exact hPc, hDc.weaken (fun _ _ _ h => hAB _ h), hsz, hG.at hS hAB hU hW⟩⟩ rfl hn hsize rfl (lv_room hW) hdg ⟨Nat.zero_le _, Nat.zero_le _⟩) hS (fun q _ h => hFc q h) hFc (fun H1 locs1 hP1 _ hk1 hS1 => ?_)
  obtain ⟨hP2, hD2⟩ := zj hP hD is hC2 hl hm hk1 hP1
  exact kk H1 locs1 hP2 hD2 hS1
end ZV
section ZK
variable {p : Program} {l : Launch} {e : Env} {R : Room} {s : State} {m : MethodId} {args : Array Value} {below : List Frame} {meth : Method} {c : Code} {H : Heap} {locs : List Loc} {cells slots : Nat} {Q : State → Prop}
variable {pc : Nat} {ls : Array Slot} {rest : List Value} {A : Nat → Prop} {D : va_G} {cl : List vw_C} {tys : List (ClassId × FieldType)} {ws : va_W} {a : Nat}
/-- a static row of ints is copied into a row of the world -/
theorem zcopy {cc : ByteArray} (hexec : p.tables.exec = Jvm.exec) (hb : c.code = cc) (hml : c.maxLocals = ls.size) {own : String} {index : Nat} (hown : s.vm.findClass own = some m.cls) (hlink : (Cond.methodLink own index arraycopyName).before args s = true) (hnat : (Cond.native arraycopyName).before args s = true) (hstat : (Cond.static arraycopyName).before args s = true) (hini : (Cond.initialized "java/lang/System").before args s = true)
    (hK : va_K D cl tys s) (hP : va_P D cl ws H) (hD : va_D A ws) (hS : va_S A s.heap H locs) {b0 n0 : Nat} {f : Nat → Int32} (hX : va_T .int b0 n0 (fun j => .int (f j)) A s s.heap) (q1 t1 : Nat) {c1 : ClassId} {n1 : Nat} {g : Nat → Int32} (ha1 : ws[q1]? = some (a, .inl (c1, n1, .inl g))) (ht1 : tys[t1]? = some (c1, .int))
    {sp dp n : Int32} (h1 : ¬ sp < 0) (h2 : ¬ dp < 0) (h3 : ¬ n < 0) (h4 : sp.toNatClampNeg + n.toNatClampNeg ≤ n0) (h5 : dp.toNatClampNeg + n.toNatClampNeg ≤ n1)
    (hframes : 1 ≤ R.frames) (hlocals : (rest.map fun v => v.category).sum + (nativeFrameWords "java/lang/System" "arraycopy" 5 + 11) ≤ R.locals) (hdg : decode cc pc = .ok (.invokestatic index, 3))
    (kk : ∀ (H1 : Heap) (locs1 : List Loc), va_P D cl (ws.set q1 (a, .inl (c1, n1, .inl (va_cpy f g sp.toNatClampNeg dp.toNatClampNeg n.toNatClampNeg)))) H1 → va_D A (ws.set q1 (a, .inl (c1, n1, .inl (va_cpy f g sp.toNatClampNeg dp.toNatClampNeg n.toNatClampNeg)))) → va_S A s.heap H1 locs1 → W p l e R s m args below meth c H1 locs1 cells slots Q (F0 m (pc + 3) ls rest)) : W p l e R s m args below meth c H locs cells slots Q (F0 m pc ls (.int n :: .int dp :: .ref a :: .int sp :: .ref b0 :: rest)) := by
  have pos : ∀ z : Int32, ¬ z < 0 → z.toInt = (z.toNatClampNeg : Int) := by
    intro z hz
    have hz0 : (0 : Int) ≤ z.toInt := by
      have := Int32.not_lt.mp hz
      simpa using Int32.le_iff_toInt_le.mp this
    show z.toInt = ((z.toInt.toNat : Nat) : Int)
    omega
  intro T hT X
  obtain ⟨src, r1, r2, r3, r4, -, r5, r6⟩ := hX
  have hc0 : H[b0]? = some src := by rw [hS.2.1 b0 (Array.getElem?_eq_some_iff.mp r1).1 r6]; exact r1
  have hc1 : H[a]? = some (vp_cell c1 (n1, .inl g)) := hP q1 _ ha1
  obtain ⟨r7, k0, hk0, cm0, hkk0⟩ := r2
  obtain ⟨-, k1, hk1, cm1, hkk1⟩ := (hK.2 t1 _ ht1).1 n1 (fun j => .int (g j))
  obtain ⟨vm', X', step⟩ := X.arraycopy hexec hown hlink hnat hstat hini (src := b0) (dst := a) (cs := src) (cd := vp_cell c1 (n1, .inl g)) (srcPos := sp) (destPos := dp) (n := n) (by rw [hT]; exact hc0) (by rw [hT]; exact hc1)
    r7 (fun _ h => by cases h) r3 (fun h => by cases h) hk0 hk1 hkk0 hkk1 (by simp [refKind]) h1 h2 h3
    (by rw [pos sp h1, pos n h3]; omega)
    (by rw [pos dp h2, pos n h3]; show ¬ _ > ((arrV c1 n1 (fun j => .int (g j))).slots.size : Int); rw [arrV_size]; omega)
    (fun vm₁ _ i hi => by
      have e : src.slots.getD (sp.toNatClampNeg + i) .null = .int (f (sp.toNatClampNeg + i)) := by
        rw [Array.getD_eq_getD_getElem?, r5 _ (by omega)]
        rfl
      rw [e]
      exact ⟨rfl, trivial⟩)
    (g := F0 m pc ls (.int n :: .int dp :: .ref a :: .int sp :: .ref b0 :: rest)) rfl (by rw [hml]) (rest := rest) rfl (by rw [hb]; exact hdg) hframes (by show 2 * 0 + _ + _ ≤ _; omega)
  have e1 : copied src (vp_cell c1 (n1, .inl g)) sp dp n = vp_cell c1 (n1, .inl (va_cpy f g sp.toNatClampNeg dp.toNatClampNeg n.toNatClampNeg)) := va_copiedX (fun z => .int z) src c1 f g r5 h4
  rw [e1] at X' step
  have hl : a < H.size := (Array.getElem?_eq_some_iff.mp hc1).1
  have hheap : ((T.setVm vm').setCell a (vp_cell c1 (n1, .inl (va_cpy f g sp.toNatClampNeg dp.toNatClampNeg n.toNatClampNeg)))).heap = H.setIfInBounds a (vp_cell c1 (n1, .inl (va_cpy f g sp.toNatClampNeg dp.toNatClampNeg n.toNatClampNeg))) := by rw [← hT]; rfl
  have oq : ∀ q : Nat, q ≠ a → (H.setIfInBounds a (vp_cell c1 (n1, .inl (va_cpy f g sp.toNatClampNeg dp.toNatClampNeg n.toNatClampNeg))))[q]? = H[q]? := fun q hq => by simp [Array.getElem?_setIfInBounds, Ne.symm hq]
  obtain ⟨t, a1, b1⟩ := kk _ _ (hP.set hD ha1 (show (H.setIfInBounds a _)[a]? = some _ by simp [Array.getElem?_setIfInBounds, hl]) oq) (hD.set ha1) ⟨by simp; exact hS.1, fun q g1 g2 => by
      rw [oq q (fun e => g2 (by rw [e]; exact hD.2 q1 _ ha1))]
      exact hS.2.1 q g1 g2, fun q hq => by
      rcases List.mem_append.mp hq with h | h
      · exact hS.2.2 q h
      · obtain ⟨z, -, hz⟩ := List.mem_map.mp h
        rw [← hz]
        exact hD.2 q1 _ ha1⟩ _ hheap X'
  exact ⟨t, step t a1, b1⟩
end ZK
section ZS
variable {p : Program} {l : Launch} {e : Env} {R : Room} {s : State} {m : MethodId} {args : Array Value} {below : List Frame} {meth : Method} {c : Code} {H : Heap} {locs : List Loc} {Q : State → Prop}
variable {pc : Nat} {ls : Array Slot} {rest st0 : List Value} {A0 : Nat → Prop}
variable {D : va_G} {cy : Nat → ClassId} {st sk sv : Nat → Nat} {B : Nat}
variable {y : MethodName} {bytes cc : ByteArray} {maxL nL n index : Nat} {ret : Option FieldType} {ws : List Cond} {rm : Room} {Ts : List Cond} {own : String} {As : List Value} {o : Option Value} {j : Nat}
/-- a reading method of a text, called -/
theorem zvs (S : CallFix p m c cc nL s args Ts own) (hM : Met l y ws rm (PcR (.ref (sk j) :: As) D cy st sk sv B []) (Qr o) 0 0 (fun _ => False)) (cw : CallW R s args own "java/lang/String" index y bytes maxL ret ws rm 0 0 n)
    (hG : GC D cy st sk sv B s) (hS : va_S A0 s.heap H locs) (hAB : ∀ q, A0 q → B ≤ q) (hj : j < 14)
    (hn : As.length = n) (hsize : ls.size = nL) (hstack : st0 = As.reverse ++ .ref (sk j) :: rest) (hW : (rest.map fun v => v.category).sum ≤ 8) (hdg : decode cc pc = .ok (.invokevirtual index, 3))
    {stk : List Value} (hstk : o.toList ++ rest = stk) (kk : W p l e R s m args below meth c H locs 0 0 Q (F0 m (pc + 3) ls stk)) : W p l e R s m args below meth c H locs 0 0 Q (F0 m pc ls st0) := by
  subst hstack
  subst hstk
  exact zr_call (va_runV (As := As) (rest := rest) S hM cw ⟨PcR.blind, vk_recv (vk_S.narrow hG.2.2.2.2.2.1 hAB) hj hS, fun U hU hW => ⟨rfl, fun k q h => by simp at h, hG.at hS hAB hU hW⟩⟩ rfl hn hsize rfl (lv_room hW) hdg ⟨Nat.zero_le _, Nat.zero_le _⟩) kk
end ZS
