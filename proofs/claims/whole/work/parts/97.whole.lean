/-! THE LAW, 4: its start -/
theorem start_tab (n : Nat) : ∃ z : TB, fX4_clear n ((fun _ => 0), (fun _ => 0), (fun _ => 0), (fun _ => 0), (fun _ => 0), 0, 0, 0, 0, 1) = some z ∧ RK z (t0 1) := by
  obtain ⟨u, e, r⟩ := k_clear (n := n) ((fun _ => 0), (fun _ => 0), (fun _ => 0), (fun _ => 0), (fun _ => 0), 0, 0, 0, 0, 1) 1
  refine ⟨u, e, ?_⟩
  have hz : u.2.2.2.2.2.2.2.2.2 = 1 := by
    have e' : some _ = some u := e
    cases e'
    rfl
  show RK (u.1, u.2.1, u.2.2.1, u.2.2.2.1, u.2.2.2.2.1, u.2.2.2.2.2.1, u.2.2.2.2.2.2.1, u.2.2.2.2.2.2.2.1, u.2.2.2.2.2.2.2.2.1, u.2.2.2.2.2.2.2.2.2) (t0 1)
  rw [hz]
  exact r
theorem start_rel {z : TB} {s0 : Nat → Int32} (hz : RK z (t0 1)) (hs : RM s0 (t0 0)) : RelAll 0 z z ((fun _ => 0), 0, 0, 0, 0, 0) ((fun _ => 0), 0) ((fun _ _ => 0), (fun _ => -1), (fun _ => 0)) ((fun _ => 2), (fun _ => 0), (fun _ => 0), (fun _ => 0)) ((fun _ => 0), 0, 0, 0, 0, 0) (0, 0, 0, 0, 0, 0, 0, 0, 0, 0, 0, 0, 0) (upd s0 2 1) (fun _ => 0) (fun _ => 0) (fun _ => 0) (upd (upd (upd (upd (fun _ => 0) 0 (-1)) 1 (-1)) 2 (-1)) 3 (-1)) (fun _ => 0) (fun _ => 0) (fun _ => 0) (fun _ => 0) (fun _ => 0) (fun _ => 0) := by
  refine ⟨⟨t0 1, hz, RM_Z hs, ok_t0 1⟩, ⟨rfl, Or.inl rfl⟩, ⟨fun _ => 0, 0, rfl, rfl, Nat.zero_le _, fun i hi => absurd hi (Nat.not_lt_zero i)⟩, ⟨0, Nat.zero_le _, rfl, rfl, fun j hj => absurd hj (by omega)⟩, fun i hi => ?_, fun i hi => Or.inr (Or.inr ⟨rfl, rfl⟩), ⟨0, rfl, rfl, rfl, Nat.zero_le _, fun j hj => absurd hj (Nat.not_lt_zero j)⟩⟩
  rcases zc4n hi with rfl | rfl | rfl | rfl <;> exact ⟨rfl, Or.inl rfl, ⟨0, Nat.zero_le _, rfl, rfl⟩, fun k hk => rfl⟩
theorem NXblind {av : List Value} {D : va_G} {cy : Nat → ClassId} {st sk sv : Nat → Nat} {B sz : Nat} {ws : va_W} : FrameBlind (fun v U => PcW av D cy st sk sv B sz ws v U ∧ NX U) := fun a U g mk q => ⟨PcW.blind a U g mk q.1, NX.warm (s := U) (U := U.calling g mk a) (State.WarmedH.refl U) q.2⟩
set_option maxHeartbeats 4000000 in
set_option maxRecDepth 100000 in
theorem whole_start {p : Program} {e : Env} {s : State} {m : MethodId} {below : List Frame} {meth : Method} {c : Code} (l : Launch) {b L : Nat} {xs : Nat → Int32} (hL : L ≤ 2560) (C0 : lw_At p s m meth c b L xs) : W p l e room_1 s m #[Value.ref b] below meth c s.heap [] 0 0 (lw_Z below #[Value.ref b] s) (entryFrame m ([Value.ref b] : List Value).toArray 4) := by
  obtain ⟨hx, hb, hr, hml, hown, hts, hX, hbl, hlocks, hgv⟩ := id C0
  have hs : ∀ w ∈ gfl, w.before #[Value.ref b] s = true := flat_of_before _ hgv
  obtain ⟨D, cy, st, sk, sv, hG⟩ := gstart hts hs
  have hN := gnx hts
  have htl : ∀ w ∈ wsL_law, w.before #[Value.ref b] s = true := fun w h => hts w (wsL_law_in w h)
  have hb : c.code = cL_law := hb
  have hown : s.vm.findClass RL = some m.cls := hown
  have hK := hG.1
  have hA : ∀ q : Nat, s.heap.size ≤ q → LQ s q := fun _ h => h
  have hAB : ∀ q : Nat, LQ s q → s.heap.size ≤ q := fun _ h => h
  have hS : va_S (LQ s) s.heap s.heap [] := va_S.rf
  have hP : va_P D vwCl [] s.heap := fun k q h => by simp at h
  have hD : va_D (LQ s) [] := ⟨fun i j p q h => by simp at h, fun k q h => by simp at h⟩
  obtain ⟨n, hn⟩ : ∃ n : Nat, 300 ≤ n := ⟨300, Nat.le_refl _⟩
  obtain ⟨z, hz, rz⟩ := start_tab n
  obtain ⟨s0, hs0, rs0⟩ := m_begins (n := n) hn (uM := (0, 0, 0, 0, 0, 0, 0, 0, 0, 0, 0, 0, 0)) (fun _ => 0)
  have hl := lv_entry ([.ref b]) (n := 4) (Nat.le_of_ble_eq_true rfl)
  rw [lg_entry_eq]
  generalize (lg_sl ([.ref b]) ++ List.replicate (4 - (lg_sl ([.ref b])).length) Slot.unset).toArray = ls at hl ⊢
  have hl : lv_has ls 4 [(0, .ref b)] := hl
  refine va_new (ci := 6) (fs := [.null, .null, .null, .int 0, .null, .null, .null, .null, .null]) (C := RX6) (T := TX6) (N := 9) hx hb hts inX6 tyX6 tyX6_ok hown (htl (.classLink RL 7 RX6) (List.mem_of_getElem? (i := 0) rfl)) (htl (.instantiable RX6 9) (List.mem_of_getElem? (i := 1) rfl)) (htl (.initialized RX6) (List.mem_of_getElem? (i := 2) rfl)) hK hP hD hS hA rfl (by decide +kernel) (Nat.le_of_ble_eq_true rfl) (Nat.le_of_ble_eq_true rfl) dL_law_0 (fun h1 H hP hD hS => ?_)
  refine W.widen (k := 1) (n := 9) (Nat.le_of_ble_eq_true rfl) (Nat.le_of_ble_eq_true rfl) ?_
  refine lv_dup hx hb dL_law_3 rfl ?_
  have hPc := hP.sub (ws' := [(h1, .inr (6, [.null, .null, .null, .int 0, .null, .null, .null, .null, .null]))]) [0] rfl
  have hDc := hD.sub (ws' := [(h1, .inr (6, [.null, .null, .null, .int 0, .null, .null, .null, .null, .null]))]) [0] (by decide) rfl
  have hsz : s.heap.size ≤ H.size := hS.1
  refine zinit (va_runI (As := []) (rest := [.ref h1]) ⟨hx, hb, hml, hown, htl⟩ (nX6_init l D cy st sk sv s.heap.size h1 H.size n z hz) (cwI 0 htl gL_law_X6_init rfl rfl rfl (htl (.initialized RX6) (List.mem_of_getElem? (i := 2) rfl)) (htl (.methodLink RL 9 yX6_init) (List.mem_of_getElem? (i := 7) rfl)) (htl (.instanceMethod yX6_init) (List.mem_of_getElem? (i := 8) rfl)) rfl (by decide +kernel) ⟨Nat.le_of_ble_eq_true rfl, Nat.le_of_ble_eq_true rfl⟩) ⟨NXblind, fun U hU hW => ⟨⟨rfl, by rw [hU], by rw [hU]; exact hPc, hDc.weaken (fun _ _ _ h => hAB _ h), hsz, hG.at hS hAB hU hW⟩, hN.warm hW⟩⟩ rfl rfl hl.1 rfl (lv_room (Nat.le_of_ble_eq_true rfl)) dL_law_4 ⟨Nat.le_of_ble_eq_true rfl, Nat.le_of_ble_eq_true rfl⟩) hS hA hP hD (fun q1 H locs hP hD hS => ?_)
  obtain ⟨qk, hqk⟩ : ∃ qk : Nat → Nat, qk = (fun i => if i = 0 then h1 else q1 (i - 1)) := ⟨_, rfl⟩
  have e1 : h1 = qk 0 := by rw [hqk]; rfl
  have hP : va_P D vwCl (WK cy qk 0 z z z ((fun _ => 0), 0, 0, 0, 0, 0) ((fun _ => 0), 0) ((fun _ _ => 0), (fun _ => -1), (fun _ => 0)) ((fun _ => 2), (fun _ => 0), (fun _ => 0), (fun _ => 0)) ((fun _ => 0), 0, 0, 0, 0, 0)) H := by rw [hqk]; exact hP
  have hD : va_D (LQ s) (WK cy qk 0 z z z ((fun _ => 0), 0, 0, 0, 0, 0) ((fun _ => 0), 0) ((fun _ _ => 0), (fun _ => -1), (fun _ => 0)) ((fun _ => 2), (fun _ => 0), (fun _ => 0), (fun _ => 0)) ((fun _ => 0), 0, 0, 0, 0, 0)) := by rw [hqk]; exact hD
  rw [e1]
  refine W.widen (k := 39) (n := 617) (Nat.le_of_ble_eq_true rfl) (Nat.le_of_ble_eq_true rfl) ?_
  refine lv_astore_n (lv' := [(1, .ref (qk 0)), (0, .ref b)]) hx hb dL_law_7 rfl hl (by decide) rfl (fun ls hl => ?_)
  refine va_new (ci := 7) (fs := [.null, .null, .null, .null, .int 0, .null, .int 0, .int 0, .int 0, .int 0, .int 0, .int 0, .null, .int 0, .null, .null, .null, .null, .null, .null, .null, .int 0, .int 0, .int 0, .int 0, .int 0]) (C := RX7) (T := TX7) (N := 26) hx hb hts inX7 tyX7 tyX7_ok hown (htl (.classLink RL 10 RX7) (List.mem_of_getElem? (i := 3) rfl)) (htl (.instantiable RX7 26) (List.mem_of_getElem? (i := 4) rfl)) (htl (.initialized RX7) (List.mem_of_getElem? (i := 5) rfl)) hK hP hD hS hA rfl (by decide +kernel) (Nat.le_of_ble_eq_true rfl) (Nat.le_of_ble_eq_true rfl) dL_law_8 (fun h2 H hP hD hS => ?_)
  refine W.widen (k := 40) (n := 643) (Nat.le_of_ble_eq_true rfl) (Nat.le_of_ble_eq_true rfl) ?_
  refine lv_dup hx hb dL_law_11 rfl ?_
  have hPc := hP.sub (ws' := [(h2, .inr (7, [.null, .null, .null, .null, .int 0, .null, .int 0, .int 0, .int 0, .int 0, .int 0, .int 0, .null, .int 0, .null, .null, .null, .null, .null, .null, .null, .int 0, .int 0, .int 0, .int 0, .int 0]))]) [39] rfl
  have hDc := hD.sub (ws' := [(h2, .inr (7, [.null, .null, .null, .null, .int 0, .null, .int 0, .int 0, .int 0, .int 0, .int 0, .int 0, .null, .int 0, .null, .null, .null, .null, .null, .null, .null, .int 0, .int 0, .int 0, .int 0, .int 0]))]) [39] (by decide) rfl
  have hsz : s.heap.size ≤ H.size := hS.1
  refine zinit (va_runI (As := []) (rest := [.ref h2]) ⟨hx, hb, hml, hown, htl⟩ (nX7_init l D cy st sk sv s.heap.size h2 H.size n s0 hs0) (cwI 0 htl gL_law_X7_init rfl rfl rfl (htl (.initialized RX7) (List.mem_of_getElem? (i := 5) rfl)) (hts (.methodLink RL 12 yX7_init) (List.mem_of_getElem? (i := 806) (by decide +kernel))) (hts (.instanceMethod yX7_init) (List.mem_of_getElem? (i := 807) (by decide +kernel))) rfl (by decide +kernel) ⟨Nat.le_of_ble_eq_true rfl, Nat.le_of_ble_eq_true rfl⟩) ⟨PcW.blind, fun U hU hW => ⟨rfl, by rw [hU], by rw [hU]; exact hPc, hDc.weaken (fun _ _ _ h => hAB _ h), hsz, hG.at hS hAB hU hW⟩⟩ rfl rfl hl.1 rfl (lv_room (Nat.le_of_ble_eq_true rfl)) dL_law_12 ⟨Nat.le_of_ble_eq_true rfl, Nat.le_of_ble_eq_true rfl⟩) hS hA hP hD (fun q2 H locs hP hD hS => ?_)
  obtain ⟨qm, hqm⟩ : ∃ qm : Nat → Nat, qm = (fun i => if i = 0 then h2 else q2 (i - 1)) := ⟨_, rfl⟩
  have e2 : h2 = qm 0 := by rw [hqm]; rfl
  have hP : va_P D vwCl (WK cy qk 0 z z z ((fun _ => 0), 0, 0, 0, 0, 0) ((fun _ => 0), 0) ((fun _ _ => 0), (fun _ => -1), (fun _ => 0)) ((fun _ => 2), (fun _ => 0), (fun _ => 0), (fun _ => 0)) ((fun _ => 0), 0, 0, 0, 0, 0) ++ WM cy qm (0, 0, 0, 0, 0, 0, 0, 0, 0, 0, 0, 0, 0) (upd s0 2 1) (fun _ => 0) (fun _ => 0) (fun _ => 0) (fun _ => 0) (fun _ => 0) (upd (upd (upd (upd (fun _ => 0) 0 (-1)) 1 (-1)) 2 (-1)) 3 (-1)) (fun _ => 0) (fun _ => 0) (fun _ => 0) (fun _ => 0) (fun _ => 0) (fun _ => 0)) H := by rw [hqm]; exact hP
  have hD : va_D (LQ s) (WK cy qk 0 z z z ((fun _ => 0), 0, 0, 0, 0, 0) ((fun _ => 0), 0) ((fun _ _ => 0), (fun _ => -1), (fun _ => 0)) ((fun _ => 2), (fun _ => 0), (fun _ => 0), (fun _ => 0)) ((fun _ => 0), 0, 0, 0, 0, 0) ++ WM cy qm (0, 0, 0, 0, 0, 0, 0, 0, 0, 0, 0, 0, 0) (upd s0 2 1) (fun _ => 0) (fun _ => 0) (fun _ => 0) (fun _ => 0) (fun _ => 0) (upd (upd (upd (upd (fun _ => 0) 0 (-1)) 1 (-1)) 2 (-1)) 3 (-1)) (fun _ => 0) (fun _ => 0) (fun _ => 0) (fun _ => 0) (fun _ => 0) (fun _ => 0)) := by rw [hqm]; exact hD
  rw [e2]
  refine W.widen (k := 600000) (n := 7302250) (Nat.le_of_ble_eq_true rfl) (Nat.le_of_ble_eq_true rfl) ?_
  refine lv_astore_n (lv' := [(2, .ref (qm 0)), (1, .ref (qk 0)), (0, .ref b)]) hx hb dL_law_15 rfl hl (by decide) rfl (fun ls hl => ?_)
  refine lv_iconst (v := nI 0) hx hb dL_law_16 (by decide) ?_
  refine lv_istore_n (lv' := [(3, .int (nI 0)), (2, .ref (qm 0)), (1, .ref (qk 0)), (0, .ref b)]) hx hb dL_law_17 rfl hl (by decide) rfl (fun ls hl => ?_)
  exact law_loop (n := n) (D := D) (cy := cy) (st := st) (sk := sk) (sv := sv) (qk := qk) (qm := qm) ⟨hx, hb, hml, hown, htl, hX, hbl, hL, hG⟩ hr hlocks hn (L + 1) 0 (Nat.zero_le _) (by omega) 0 z z z ((fun _ => 0), 0, 0, 0, 0, 0) ((fun _ => 0), 0) ((fun _ _ => 0), (fun _ => -1), (fun _ => 0)) ((fun _ => 2), (fun _ => 0), (fun _ => 0), (fun _ => 0)) ((fun _ => 0), 0, 0, 0, 0, 0) (0, 0, 0, 0, 0, 0, 0, 0, 0, 0, 0, 0, 0) (upd s0 2 1) (fun _ => 0) (fun _ => 0) (fun _ => 0) (fun _ => 0) (fun _ => 0) (upd (upd (upd (upd (fun _ => 0) 0 (-1)) 1 (-1)) 2 (-1)) 3 (-1)) (fun _ => 0) (fun _ => 0) (fun _ => 0) (fun _ => 0) (fun _ => 0) (fun _ => 0) (start_rel rz rs0) H locs ls hP hD hS (lv_sub hl [3, 2, 1, 0] rfl)
