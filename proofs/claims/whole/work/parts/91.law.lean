/-! THE LAW, 1: what holds at its loop's head -/
abbrev LQ (s : State) : Nat → Prop := fun q => s.heap.size ≤ q
def RelAll (uK : Int32) (uN uE : TB) (uA : TP) (uW : RW) (uS : SH) (uF : SF) (uG : SG) (uM : MO) (u_s u_held u_tape u_rows u_sortOf u_sizeOf u_numbers u_holdsWhat u_holdsWhich u_holdsMany u_bodies : Nat → Int32) : Prop :=
  RelT uN u_s ∧ RelE uK uE uM.1 u_held ∧ RelA uA uM.2.1 u_tape ∧ RelW uW uM.2.2.2.2.2.2.2.1 u_rows ∧ RelS uS u_sortOf u_sizeOf u_numbers ∧ RelF uF u_holdsWhat u_holdsWhich u_holdsMany ∧ RelG uG uM.2.2.2.2.2.2.2.2.1 u_bodies
/-- what the law stands on: the machine, its code, its words, the script, the global facts -/
def LX (p : Program) (s : State) (m : MethodId) (c : Code) (b L : Nat) (xs : Nat → Int32) (D : va_G) (cy : Nat → ClassId) (st sk sv : Nat → Nat) : Prop :=
  p.tables.exec = Jvm.exec ∧ c.code = cL_law ∧ c.maxLocals = 4 ∧ s.vm.findClass RL = some m.cls ∧ (∀ w ∈ wsL_law, w.before #[Value.ref b] s = true) ∧ va_X b L xs s s.heap ∧ b < s.heap.size ∧ L ≤ 2560 ∧ GC D cy st sk sv s.heap.size s
/-- from any related worlds, at pc, with i cells read, the law comes to its end -/
def LI (p : Program) (l : Launch) (e : Env) (s : State) (m : MethodId) (below : List Frame) (meth : Method) (c : Code) (b : Nat) (D : va_G) (cy : Nat → ClassId) (qk qm : Nat → Nat) (i pc : Nat) : Prop :=
  ∀ (uK : Int32) (uN uY uE : TB) (uA : TP) (uW : RW) (uS : SH) (uF : SF) (uG : SG) (uM : MO) (u_s u_held u_aside u_before u_tape u_rows u_sortOf u_sizeOf u_numbers u_holdsWhat u_holdsWhich u_holdsMany u_bodies : Nat → Int32),
    RelAll uK uN uE uA uW uS uF uG uM u_s u_held u_tape u_rows u_sortOf u_sizeOf u_numbers u_holdsWhat u_holdsWhich u_holdsMany u_bodies →
    ∀ (H : Heap) (locs : List Loc) (ls : Array Slot), va_P D vwCl (WK cy qk uK uN uY uE uA uW uS uF uG ++ WM cy qm uM u_s u_held u_aside u_before u_tape u_rows u_sortOf u_sizeOf u_numbers u_holdsWhat u_holdsWhich u_holdsMany u_bodies) H →
    va_D (LQ s) (WK cy qk uK uN uY uE uA uW uS uF uG ++ WM cy qm uM u_s u_held u_aside u_before u_tape u_rows u_sortOf u_sizeOf u_numbers u_holdsWhat u_holdsWhich u_holdsMany u_bodies) →
    va_S (LQ s) s.heap H locs → lv_has ls 4 [(0, .ref b), (1, .ref (qk 0)), (2, .ref (qm 0)), (3, .int (nI i))] →
    W p l e room_1 s m #[Value.ref b] below meth c H locs 600000 7302250 (lw_Z below #[Value.ref b] s) (F0 m pc ls [])
section
variable {p : Program} {l : Launch} {e : Env} {R : Room} {s : State} {m : MethodId} {args : Array Value} {below : List Frame} {meth : Method} {c : Code} {H : Heap} {locs : List Loc} {cells slots : Nat} {Q : State → Prop}
variable {pc : Nat} {ls : Array Slot} {rest : List Value} {b L i : Nat} {xs : Nat → Int32} {D : va_G} {cy : Nat → ClassId} {st sk sv : Nat → Nat} {q1 q2 : Nat}
theorem lx_in {k : Nat} (hk : k < 5) (hL : L ≤ 2560) (hi : i + 5 ≤ L) : vp_in (nI i + nI k) L := by
  rw [nI_add]
  exact nI_ok (show i + k < L by omega) (by omega)
/-- a cell of the script -/
theorem law_arg (X : LX p s m c b L xs D cy st sk sv) (hi : i + 5 ≤ L) (hS : va_S (LQ s) s.heap H locs) (hl : lv_has ls 4 [(0, .ref b), (1, .ref q1), (2, .ref q2), (3, .int (nI i))]) (k : Nat) (hk : k < 5) {kI : Int} (hkI : Int32.ofInt kI = nI k)
    (d0 : decode cL_law pc = .ok (.aload_n 0, 1)) (d1 : decode cL_law (pc + 1) = .ok (.iload_n 3, 1)) (d2 : decode cL_law (pc + 2) = .ok (.iconst kI, 1)) (d3 : decode cL_law (pc + 3) = .ok (.iadd, 1)) (d4 : decode cL_law (pc + 4) = .ok (.iaload, 1))
    (kk : W p l e R s m args below meth c H locs cells slots Q (F0 m (pc + 5) ls (.int (xs (i + k)) :: rest))) : W p l e R s m args below meth c H locs cells slots Q (F0 m pc ls rest) := by
  obtain ⟨hx, hb, hml, hown, hts, hX, hbl, hL, hG⟩ := X
  refine lv_aload_n hx hb d0 rfl (lv_at hl 0 rfl) ?_
  refine lv_iload_n hx hb d1 rfl (lv_at hl 3 rfl) ?_
  refine lv_iconst (v := nI k) hx hb d2 hkI ?_
  refine lv_iadd hx hb d3 ?_
  refine va_sld hx hb hX hbl (Nat.not_le.mpr hbl) hS (lx_in hk hL hi) d4 ?_
  rw [nI_add, nI_clamp (show i + k < 2 ^ 31 by omega)]
  exact kk
def feedArg (a b : Int32) : Int64 := (a.toInt64 <<< ((32 : Int32).toInt64 &&& 63)) ||| (b.toInt64 &&& 4294967295)
/-- two cells of the script as one long -/
theorem law_long (X : LX p s m c b L xs D cy st sk sv) (hi : i + 5 ≤ L) (hS : va_S (LQ s) s.heap H locs) (hl : lv_has ls 4 [(0, .ref b), (1, .ref q1), (2, .ref q2), (3, .int (nI i))])
    (hc : (Jvm.Cond.constantLong RL 13 4294967295).before args s = true)
    (d0 : decode cL_law pc = .ok (.aload_n 0, 1)) (d1 : decode cL_law (pc + 1) = .ok (.iload_n 3, 1)) (d2 : decode cL_law (pc + 2) = .ok (.iconst 1, 1)) (d3 : decode cL_law (pc + 3) = .ok (.iadd, 1)) (d4 : decode cL_law (pc + 4) = .ok (.iaload, 1))
    (d5 : decode cL_law (pc + 5) = .ok (.i2l, 1)) (d6 : decode cL_law (pc + 6) = .ok (.bipush 32, 2)) (d8 : decode cL_law (pc + 8) = .ok (.lshl, 1))
    (d9 : decode cL_law (pc + 9) = .ok (.aload_n 0, 1)) (d10 : decode cL_law (pc + 10) = .ok (.iload_n 3, 1)) (d11 : decode cL_law (pc + 11) = .ok (.iconst 2, 1)) (d12 : decode cL_law (pc + 12) = .ok (.iadd, 1)) (d13 : decode cL_law (pc + 13) = .ok (.iaload, 1))
    (d14 : decode cL_law (pc + 14) = .ok (.i2l, 1)) (d15 : decode cL_law (pc + 15) = .ok (.ldc2_w 13, 3)) (d18 : decode cL_law (pc + 18) = .ok (.land, 1)) (d19 : decode cL_law (pc + 19) = .ok (.lor, 1))
    (kk : W p l e R s m args below meth c H locs cells slots Q (F0 m (pc + 20) ls (.long (feedArg (xs (i + 1)) (xs (i + 2))) :: rest))) : W p l e R s m args below meth c H locs cells slots Q (F0 m pc ls rest) := by
  refine law_arg X hi hS hl 1 (by decide) (by decide) d0 d1 d2 d3 d4 ?_
  have X' := X
  obtain ⟨hx, hb, hml, hown, hts, hX, hbl, hL, hG⟩ := X
  refine lv_i2l hx hb d5 rfl ?_
  refine lv_bipush (v := (32 : Int32)) hx hb d6 (by decide) ?_
  refine lv_lshl hx hb d8 rfl ?_
  refine law_arg X' hi hS hl 2 (by decide) (by decide) d9 d10 d11 d12 d13 ?_
  refine lv_i2l hx hb d14 rfl ?_
  refine lv_ldc2 (v := (4294967295 : Int64)) hx hb hown hc d15 ?_
  refine lv_land hx hb d18 ?_
  refine lv_lor hx hb d19 ?_
  exact kk
theorem lg_same (x : Int64) : lg_cmp x x = 0 := by
  unfold lg_cmp
  rw [if_neg (fun h => Int64.lt_irrefl h), if_pos rfl]
end
