/-! THE LAW, 1b: a writing call in a large world: the world behind it is given, and compared place by place -/
theorem zjx {D : va_G} {A0 : Nat → Prop} {ws wc w1 ws' : va_W} {H H1 : Heap} (hP : va_P D vwCl ws H) (hD : va_D A0 ws) (is js : List Nat) (N : Nat) (hC : is.map (fun i => ws[i]?) = wc.map some) (h1 : is.map (fun i => ws'[i]?) = w1.map some) (h2 : js.map (fun i => ws'[i]?) = js.map (fun i => ws[i]?)) (hN : ws'.length = N) (hcov : ∀ k, k < N → k ∈ is ∨ k ∈ js) (hm : ws'.map Prod.fst = ws.map Prod.fst) (hk : ∀ q : Nat, q < H.size → ¬ va_A wc H.size q → H1[q]? = H[q]?) (hP1 : va_P D vwCl w1 H1) : va_P D vwCl ws' H1 ∧ va_D A0 ws' := by
  refine ⟨fun k q hq => ?_, zD_of hm hD⟩
  have hlt : k < N := by rw [← hN]; exact (List.getElem?_eq_some_iff.mp hq).1
  by_cases hi : k ∈ is
  · obtain ⟨j, hj⟩ := List.getElem?_of_mem hi
    have h3 : (is.map (fun i => ws'[i]?))[j]? = some (ws'[k]?) := by rw [List.getElem?_map, hj]; rfl
    rw [h1, List.getElem?_map, hq] at h3
    cases h4 : w1[j]? with
    | none => rw [h4] at h3; cases h3
    | some x =>
      rw [h4] at h3
      have h5 : x = q := Option.some.inj (Option.some.inj h3)
      exact hP1 j q (by rw [h4, h5])
  · obtain ⟨j, hj⟩ := List.getElem?_of_mem ((hcov k hlt).resolve_left hi)
    have h3 : (js.map (fun i => ws'[i]?))[j]? = some (ws'[k]?) := by rw [List.getElem?_map, hj]; rfl
    rw [h2, List.getElem?_map, hj] at h3
    have h4 : ws[k]? = some q := (Option.some.inj h3).trans hq
    have hat := hP k q h4
    refine hat.kept (hk q.1 hat.lt (fun z => ?_))
    rcases z with ⟨j, e, hj⟩ | z
    · have h5 : (wc.map some)[j]? = some (some (q.1, e)) := by rw [List.getElem?_map, hj]; rfl
      rw [← hC, List.getElem?_map] at h5
      cases h6 : is[j]? with
      | none => rw [h6] at h5; cases h5
      | some i =>
        rw [h6] at h5
        have h7 : ws[i]? = some (q.1, e) := Option.some.inj h5
        have h8 : k = i := hD.1 k i q (q.1, e) h4 h7 rfl
        exact hi (h8 ▸ List.mem_of_getElem? h6)
    · exact absurd hat.lt (Nat.not_lt.mpr z)
theorem zfm {α β : Type} (f : α → Option β) : ∀ (l : List α) (w : List β), l.map f = w.map some → l.filterMap f = w := by
  intro l
  induction l with
  | nil => intro w h; cases w with
    | nil => rfl
    | cons x xs => cases h
  | cons a l ih =>
    intro w h
    cases w with
    | nil => cases h
    | cons x xs =>
      have h1 : f a = some x := (List.cons.inj h).1
      rw [List.filterMap_cons_some h1, ih xs (List.cons.inj h).2]
section ZX
variable {p : Program} {l : Launch} {e : Env} {R : Room} {s : State} {m : MethodId} {args : Array Value} {below : List Frame} {meth : Method} {c : Code} {H : Heap} {locs : List Loc} {cells slots : Nat} {Q : State → Prop}
variable {pc : Nat} {ls : Array Slot} {rest st0 : List Value} {A0 : Nat → Prop}
variable {D : va_G} {cy : Nat → ClassId} {st sk sv : Nat → Nat} {B : Nat}
variable {y : MethodName} {bytes cc : ByteArray} {maxL nL n index : Nat} {ret : Option FieldType} {ws : List Cond} {rm : Room} {Ts : List Cond} {own C : String} {b : Addr} {As : List Value} {o : Option Value} {wa wc w1 : va_W}
theorem lvx (wa' : va_W) (S : CallFix p m c cc nL s args Ts own) (hM : Met l y ws rm (PcW (.ref b :: As) D cy st sk sv B H.size wc) (Qw o D w1 (va_A wc H.size)) 0 0 (va_A wc H.size)) (cw : CallW R s args own C index y bytes maxL ret ws rm 0 0 n) (hcs : cells ≤ R.cells ∧ slots ≤ R.slots)
    (hG : GC D cy st sk sv B s) (hS : va_S A0 s.heap H locs) (hAB : ∀ q, A0 q → B ≤ q) (hA : ∀ q, s.heap.size ≤ q → A0 q) (hP : va_P D vwCl wa H) (hD : va_D A0 wa) (is js : List Nat) (N : Nat) (hni : va_nd is = true) (hcov : ∀ k, k < N → k ∈ is ∨ k ∈ js) (hC2 : is.map (fun i => wa[i]?) = wc.map some) (h1 : is.map (fun i => wa'[i]?) = w1.map some) (wr : va_W) (h2a : js.map (fun i => wa'[i]?) = wr.map some) (h2b : js.map (fun i => wa[i]?) = wr.map some) (hN : wa'.length = N) (hm : wa'.map Prod.fst = wa.map Prod.fst) (q0 ci : Nat) {fs : List Value} {q : vw_C} (he : wc[q0]? = some (b, .inr (ci, fs))) (hc : vwCl[ci]? = some q) (hq : q.1 = C)
    (hn : As.length = n) (hsize : ls.size = nL) (hstack : st0 = As.reverse ++ .ref b :: rest) (hW : (rest.map fun v => v.category).sum ≤ 8) (hdg : decode cc pc = .ok (.invokevirtual index, 3))
    {stk : List Value} (hstk : o.toList ++ rest = stk) (kk : ∀ (H1 : Heap) (locs1 : List Loc), va_P D vwCl wa' H1 → va_D A0 wa' → va_S A0 s.heap H1 locs1 → W p l e R s m args below meth c H1 locs1 cells slots Q (F0 m (pc + 3) ls stk)) : W p l e R s m args below meth c H locs cells slots Q (F0 m pc ls st0) := by
  have hC : is.filterMap (fun i => wa[i]?) = wc := zfm _ is wc hC2
  have hPc := hP.sub (ws' := wc) is hC
  have hDc := hD.sub (ws' := wc) is hni hC2
  have hFc := va_free (wc := wc) hD hS hA is hC2
  have hsz : B ≤ H.size := Nat.le_trans (hAB _ (hA _ (Nat.le_refl _))) hS.1
  subst hstack
  subst hstk
  subst hq
  refine zw_call (va_runV (As := As) (rest := rest) S hM cw ⟨PcW.blind, va_recv hG.1 hPc hc he, fun U hU hW => ⟨rfl, by rw [hU], by rw [hU]; exact hPc, hDc.weaken (fun _ _ _ h => hAB _ h), hsz, hG.at hS hAB hU hW⟩⟩ rfl hn hsize rfl (lv_room hW) hdg hcs) hS (fun q _ h => hFc q h) hFc (fun H1 locs1 hP1 _ hk1 hS1 => ?_)
  obtain ⟨hP2, hD2⟩ := zjx hP hD is js N hC2 h1 (h2a.trans h2b.symm) hN hcov hm hk1 hP1
  exact kk H1 locs1 hP2 hD2 hS1
end ZX
