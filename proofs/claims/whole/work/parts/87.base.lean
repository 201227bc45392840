/-! CONSTRUCTORS AND THE LAW: rows for what is made, and for calls at any number of cells -/
/-- a constructor's end: the cells that it was given and made, at addresses q; nothing else changed -/
def Qn (D : va_G) (F : (Nat → Nat) → va_W) (A : Nat → Prop) : Array Value → State → Outcome → State → Prop := fun _ u oc t => oc = .returned none ∧ ∃ q : Nat → Nat, va_P D vwCl (F q) t.heap ∧ va_D A (F q) ∧ va_F A u t
section ZN
variable {p : Program} {l : Launch} {e : Env} {R : Room} {s : State} {m : MethodId} {args : Array Value} {below : List Frame} {meth : Method} {c : Code} {H H0 : Heap} {locs : List Loc} {cells slots : Nat} {Q : State → Prop}
variable {pc : Nat} {ls : Array Slot} {rest st0 : List Value} {A0 : Nat → Prop} {cc : ByteArray}
variable {D : va_G} {cy : Nat → ClassId} {ws : va_W}
/-- a new row of numbers; its class is the one that the world knows -/
theorem znewa (hexec : p.tables.exec = Jvm.exec) (hb : c.code = cc) {atype : ArrayType} (harr : (Cond.arrayClass (newarray.typeOf atype)).before args s = true) {ty : FieldType} (hty : newarray.typeOf atype = ty) (hK : va_K D vwCl (TY cy) s) (t0 : Nat) {ca : ClassId} (ht : (TY cy)[t0]? = some (ca, ty)) (hra : ∀ cA : ClassId, va_RA s cA ty → s.vm.findClass ("[" ++ ty.toString) = some cA)
    (hP : va_P D vwCl ws H) (hD : va_D A0 ws) (hS : va_S A0 H0 H locs) (hA : ∀ q, H0.size ≤ q → A0 q)
    {n : Int32} {N' : Nat} {a0 : vp_A} (ha : ∀ cA : ClassId, vp_cell cA a0 = arrV cA N' (fun _ => defaultValue ty)) (hn : ¬ n < 0) (hN : n.toNatClampNeg = N') (hbytes : N' * componentBytes ty ≤ 536870912) (hcells : cells + 1 ≤ R.cells) (hslots : slots + N' ≤ R.slots) (hdg : decode cc pc = .ok (.newarray atype, 2))
    (kk : ∀ (q : Nat) (H1 : Heap), va_P D vwCl (ws ++ [(q, .inl (ca, a0))]) H1 → va_D A0 (ws ++ [(q, .inl (ca, a0))]) → va_S A0 H0 H1 locs →
      W p l e R s m args below meth c H1 locs (cells + 1) (slots + N') Q (F0 m (pc + 2) ls (.ref q :: rest))) : W p l e R s m args below meth c H locs cells slots Q (F0 m pc ls (.int n :: rest)) := by
  refine va_newa hexec hb harr hty hK hP hD hS hA ha hn hN hbytes hcells hslots hdg (fun q cA H1 hK1 hP1 hD1 hS1 => ?_)
  have h1 := hra _ (hK1.2 5 (cA, ty) rfl).2
  have h2 := hra _ (hK.2 t0 _ ht).2
  have h3 : cA = ca := Option.some.inj (h1.symm.trans h2)
  subst h3
  exact kk q H1 hP1 hD1 hS1
/-- a new row of references -/
theorem znewq (hexec : p.tables.exec = Jvm.exec) (hb : c.code = cc) {own C : String} {index : Nat} (hown : s.vm.findClass own = some m.cls) (hclink : (Cond.classLink own index C).before args s = true) (hover : va_AO C s) (hK : va_K D vwCl (TY cy) s) (t0 : Nat) {ca : ClassId} (ht : (TY cy)[t0]? = some (ca, .object C))
    (hP : va_P D vwCl ws H) (hD : va_D A0 ws) (hS : va_S A0 H0 H locs) (hA : ∀ q, H0.size ≤ q → A0 q)
    {n : Int32} {N' : Nat} (hn : ¬ n < 0) (hN : n.toNatClampNeg = N') (hbytes : N' * 4 ≤ 536870912) (hcells : cells + 1 ≤ R.cells) (hslots : slots + N' ≤ R.slots) (hdg : decode cc pc = .ok (.anewarray index, 3))
    (kk : ∀ (q : Nat) (H1 : Heap), va_P D vwCl (ws ++ [(q, .inl (ca, N', .inr (.inr (.inr (.inr (fun _ => none))))))]) H1 → va_D A0 (ws ++ [(q, .inl (ca, N', .inr (.inr (.inr (.inr (fun _ => none))))))]) → va_S A0 H0 H1 locs →
      W p l e R s m args below meth c H1 locs (cells + 1) (slots + N') Q (F0 m (pc + 3) ls (.ref q :: rest))) : W p l e R s m args below meth c H locs cells slots Q (F0 m pc ls (.int n :: rest)) := by
  refine va_newq hexec hb hown hclink hover hK hP hD hS hA hn hN hbytes hcells hslots hdg (fun q cA H1 hK1 hP1 hD1 hS1 => ?_)
  obtain ⟨k1, c1, a1, b1, d1, h1⟩ := (hK1.2 5 (cA, .object C) rfl).2
  obtain ⟨k2, c2, a2, b2, d2, h2⟩ := (hK.2 t0 _ ht).2
  have h3 : cA = ca := Option.some.inj (h1.symm.trans h2)
  subst h3
  exact kk q H1 hP1 hD1 hS1
/-- behind a constructor: the world beside it is unchanged, the new object's cells are as it says -/
theorem zinit {F : (Nat → Nat) → va_W} {h ci mc ms : Nat} {fs : List Value} {a : Array Value} (hr : va_Run p l e R s m args below meth c H locs cells slots mc ms (F0 m pc ls st0) rest (Qn D F (va_A [(h, .inr (ci, fs))] H.size) a) (va_A [(h, .inr (ci, fs))] H.size))
    (hS : va_S A0 H0 H locs) (hA : ∀ q, H0.size ≤ q → A0 q) (hP : va_P D vwCl (ws ++ [(h, .inr (ci, fs))]) H) (hD : va_D A0 (ws ++ [(h, .inr (ci, fs))]))
    (kk : ∀ (q : Nat → Nat) (H1 : Heap) (locs1 : List Loc), va_P D vwCl (ws ++ F q) H1 → va_D A0 (ws ++ F q) → va_S A0 H0 H1 locs1 → W p l e R s m args below meth c H1 locs1 (cells + mc) (slots + ms) Q (F0 m (pc + 3) ls rest)) : W p l e R s m args below meth c H locs cells slots Q (F0 m pc ls st0) := by
  intro T hT X
  obtain ⟨v, st₀, t, T', L, h0, X', hL, e1, -, ⟨hv, q, hp, hd, hz, hk⟩, g⟩ := hr T hT X
  cases hv
  rw [h0] at hz hk
  have hlast : (ws ++ [(h, .inr (ci, fs))])[ws.length]? = some (h, (.inr (ci, fs) : va_E)) := by rw [List.getElem?_append_right (Nat.le_refl _), Nat.sub_self]; rfl
  have hfst : ∀ (k : Nat) (x : Nat × va_E), ws[k]? = some x → (ws ++ [(h, .inr (ci, fs))])[k]? = some x := fun k x hx => by
    rw [List.getElem?_append_left (List.getElem?_eq_some_iff.mp hx).1]; exact hx
  have hAA : ∀ x, va_A [(h, .inr (ci, fs))] H.size x → x = h ∨ H.size ≤ x := by
    intro x hx
    rcases hx with ⟨k, e', hx⟩ | hx
    · have hz : k < 1 := (List.getElem?_eq_some_iff.mp hx).1
      rw [show k = 0 by omega] at hx
      cases hx
      exact Or.inl rfl
    · exact Or.inr hx
  have hout : ∀ (k : Nat) (x : Nat × va_E), ws[k]? = some x → ¬ va_A [(h, .inr (ci, fs))] H.size x.1 := by
    intro k x hx hq
    have hlt := (hP k x (hfst k x hx)).lt
    rcases hAA _ hq with hq | hq
    · have := hD.1 k ws.length x _ (hfst k x hx) hlast hq
      have hl := (List.getElem?_eq_some_iff.mp hx).1
      omega
    · omega
  have hA0 : ∀ x, va_A [(h, .inr (ci, fs))] H.size x → A0 x := by
    intro x hx
    rcases hAA _ hx with hx | hx
    · rw [hx]; exact hD.2 ws.length _ hlast
    · exact hA _ (Nat.le_trans hS.1 hx)
  have hPw : va_P D vwCl ws T'.heap := fun k x hx => (hP k x (hfst k x hx)).kept (by rw [e1]; exact hk x.1 (hP k x (hfst k x hx)).lt (hout k x hx))
  have hDw : va_D A0 ws := ⟨fun i j x y hx hy hxy => hD.1 i j x y (hfst i x hx) (hfst j y hy) hxy, fun k x hx => hD.2 k x (hfst k x hx)⟩
  have hP1 : va_P D vwCl (ws ++ F q) T'.heap := hPw.app (by rw [e1]; exact hp)
  have hD1 : va_D A0 (ws ++ F q) := hDw.app (hd.weaken (fun _ _ _ h => hA0 _ h)) (fun i j x y hx hy hxy => hout i x hx (by rw [hxy]; exact hd.2 j y hy))
  obtain ⟨t2, a1, b1⟩ := kk q T'.heap (locs ++ L) hP1 hD1
    ⟨Nat.le_trans hS.1 (by rw [e1]; exact hz), fun x h1 h2 => by rw [e1, hk x (Nat.lt_of_lt_of_le h1 hS.1) (fun z => h2 (hA0 x z))]; exact hS.2.1 x h1 h2, fun x hx => by
      rcases List.mem_append.mp hx with h | h
      · exact hS.2.2 x h
      · exact hA0 _ (hL x h)⟩ T' rfl X'
  exact ⟨t2, g t2 a1, b1⟩
end ZN
/-- two rows of references that agree where they are -/
theorem zarrq {ca : ClassId} {N : Nat} {f g : Nat → Option Nat} (h : ∀ j, j < N → f j = g j) : vp_cell ca (N, .inr (.inr (.inr (.inr f)))) = vp_cell ca (N, .inr (.inr (.inr (.inr g)))) := by
  show arrV ca N (fun j => va_rf (f j)) = arrV ca N (fun j => va_rf (g j))
  unfold arrV
  congr 1
  apply congrArg
  funext j
  exact congrArg va_rf (h j.val j.isLt)
/-- a cell's row of references, said otherwise -/
theorem zP_q {D : va_G} {ws : va_W} {H : Heap} {k a N : Nat} {ca : ClassId} {f g : Nat → Option Nat} (hP : va_P D vwCl ws H) (he : ws[k]? = some (a, .inl (ca, N, .inr (.inr (.inr (.inr f)))))) (h : ∀ j, j < N → f j = g j) : va_P D vwCl (ws.set k (a, .inl (ca, N, .inr (.inr (.inr (.inr g)))))) H := by
  intro i q hq
  by_cases hi : k = i
  · subst hi
    rw [List.getElem?_set_self (List.getElem?_eq_some_iff.mp he).1] at hq
    cases hq
    have h1 : H[a]? = some (vp_cell ca (N, .inr (.inr (.inr (.inr f))))) := hP k _ he
    rw [zarrq h] at h1
    exact h1
  · rw [List.getElem?_set_ne hi] at hq
    exact hP i q hq
section ZL
variable {p : Program} {l : Launch} {e : Env} {R : Room} {s : State} {m : MethodId} {args : Array Value} {below : List Frame} {meth : Method} {c : Code} {H : Heap} {locs : List Loc} {cells slots : Nat} {Q : State → Prop}
variable {pc : Nat} {ls : Array Slot} {rest st0 : List Value} {A0 : Nat → Prop}
variable {D : va_G} {cy : Nat → ClassId} {st sk sv : Nat → Nat} {B : Nat}
variable {y : MethodName} {bytes cc : ByteArray} {maxL nL n index : Nat} {ret : Option FieldType} {ws : List Cond} {rm : Room} {Ts : List Cond} {own C : String} {b : Addr} {As : List Value} {o : Option Value} {wa wc w1 : va_W}
/-- a reading method of an object, called where cells have been made -/
theorem lvr (S : CallFix p m c cc nL s args Ts own) (hM : Met l y ws rm (PcR (.ref b :: As) D cy st sk sv B wc) (Qr o) 0 0 (fun _ => False)) (cw : CallW R s args own C index y bytes maxL ret ws rm 0 0 n) (hcs : cells ≤ R.cells ∧ slots ≤ R.slots)
    (hG : GC D cy st sk sv B s) (hS : va_S A0 s.heap H locs) (hAB : ∀ q, A0 q → B ≤ q) (hP : va_P D vwCl wa H) (is : List Nat) (hC : is.filterMap (fun i => wa[i]?) = wc) (q0 ci : Nat) {fs : List Value} {q : vw_C} (he : wc[q0]? = some (b, .inr (ci, fs))) (hc : vwCl[ci]? = some q) (hq : q.1 = C)
    (hn : As.length = n) (hsize : ls.size = nL) (hstack : st0 = As.reverse ++ .ref b :: rest) (hW : (rest.map fun v => v.category).sum ≤ 8) (hdg : decode cc pc = .ok (.invokevirtual index, 3))
    {stk : List Value} (hstk : o.toList ++ rest = stk) (kk : W p l e R s m args below meth c H locs cells slots Q (F0 m (pc + 3) ls stk)) : W p l e R s m args below meth c H locs cells slots Q (F0 m pc ls st0) := by
  have hPc := hP.sub (ws' := wc) is hC
  subst hstack
  subst hstk
  subst hq
  exact zr_call (va_runV (As := As) (rest := rest) S hM cw ⟨PcR.blind, va_recv hG.1 hPc hc he, fun U hU hW => ⟨rfl, by rw [hU]; exact hPc, hG.at hS hAB hU hW⟩⟩ rfl hn hsize rfl (lv_room hW) hdg hcs) kk
/-- a writing method of an object, called where cells have been made -/
theorem lvw (S : CallFix p m c cc nL s args Ts own) (hM : Met l y ws rm (PcW (.ref b :: As) D cy st sk sv B H.size wc) (Qw o D w1 (va_A wc H.size)) 0 0 (va_A wc H.size)) (cw : CallW R s args own C index y bytes maxL ret ws rm 0 0 n) (hcs : cells ≤ R.cells ∧ slots ≤ R.slots)
    (hG : GC D cy st sk sv B s) (hS : va_S A0 s.heap H locs) (hAB : ∀ q, A0 q → B ≤ q) (hA : ∀ q, s.heap.size ≤ q → A0 q) (hP : va_P D vwCl wa H) (hD : va_D A0 wa) (is : List Nat) (hni : va_nd is = true) (hC : is.filterMap (fun i => wa[i]?) = wc) (hC2 : is.map (fun i => wa[i]?) = wc.map some) (hl : is.length = w1.length) (hm : (swp wa is w1).map Prod.fst = wa.map Prod.fst) (q0 ci : Nat) {fs : List Value} {q : vw_C} (he : wc[q0]? = some (b, .inr (ci, fs))) (hc : vwCl[ci]? = some q) (hq : q.1 = C)
    (hn : As.length = n) (hsize : ls.size = nL) (hstack : st0 = As.reverse ++ .ref b :: rest) (hW : (rest.map fun v => v.category).sum ≤ 8) (hdg : decode cc pc = .ok (.invokevirtual index, 3))
    {stk : List Value} (hstk : o.toList ++ rest = stk) (kk : ∀ (H1 : Heap) (locs1 : List Loc), va_P D vwCl (swp wa is w1) H1 → va_D A0 (swp wa is w1) → va_S A0 s.heap H1 locs1 → W p l e R s m args below meth c H1 locs1 cells slots Q (F0 m (pc + 3) ls stk)) : W p l e R s m args below meth c H locs cells slots Q (F0 m pc ls st0) := by
  have hPc := hP.sub (ws' := wc) is hC
  have hDc := hD.sub (ws' := wc) is hni hC2
  have hFc := va_free (wc := wc) hD hS hA is hC2
  have hsz : B ≤ H.size := Nat.le_trans (hAB _ (hA _ (Nat.le_refl _))) hS.1
  subst hstack
  subst hstk
  subst hq
  refine zw_call (va_runV (As := As) (rest := rest) S hM cw ⟨PcW.blind, va_recv hG.1 hPc hc he, fun U hU hW => ⟨rfl, by rw [hU], by rw [hU]; exact hPc, hDc.weaken (fun _ _ _ h => hAB _ h), hsz, hG.at hS hAB hU hW⟩⟩ rfl hn hsize rfl (lv_room hW) hdg hcs) hS (fun q _ h => hFc q h) hFc (fun H1 locs1 hP1 _ hk1 hS1 => ?_)
  obtain ⟨hP2, hD2⟩ := zj hP hD is hC2 hl hm hk1 hP1
  exact kk H1 locs1 hP2 hD2 hS1
end ZL
