/-! THE LAW, 3: its loop -/
def lawT (v : Nat) : Nat := ([220, 283, 296, 329, 352, 385, 418, 451, 484, 517, 560, 583, 606, 619, 642, 665, 698, 721, 744, 757, 780, 813, 846, 879, 902, 935, 978, 1022, 1056, 1089, 1122, 1165, 1188, 1241, 1284, 1327, 1370, 1413, 1446, 1489, 1512, 1535, 1548] : List Nat).getD v 0
theorem lawO : ∀ v, v < 43 → (#[188, 251, 264, 297, 320, 353, 386, 419, 452, 485, 528, 551, 574, 587, 610, 633, 666, 689, 712, 725, 748, 781, 814, 847, 870, 903, 946, 990, 1024, 1057, 1090, 1133, 1156, 1209, 1252, 1295, 1338, 1381, 1414, 1457, 1480, 1503, 1516] : Array Int)[v]? = some ((lawT v : Int) - 32) := by decide +kernel
theorem and63 (x : Int32) : ∃ v : Nat, v < 64 ∧ x &&& 63 = nI v := by
  have h0 : 0 ≤ (x &&& 63).toInt ∧ (x &&& 63).toInt < 64 := by
    have e : (x &&& 63).toInt = (x.toBitVec &&& 63#32).toInt := rfl
    have h1 : (x.toBitVec &&& 63#32).toNat ≤ 63 := by rw [BitVec.toNat_and]; exact Nat.le_trans Nat.and_le_right (by decide)
    have h2 : (x.toBitVec &&& 63#32).toInt = ((x.toBitVec &&& 63#32).toNat : Int) := BitVec.toInt_eq_toNat_of_lt (by omega)
    rw [e, h2]
    omega
  obtain ⟨v, hv⟩ := Int.eq_ofNat_of_zero_le h0.1
  refine ⟨v, by omega, Int32.toInt_inj.mp ?_⟩
  rw [hv, nI_toInt (by omega)]
theorem headI {L i : Nat} (hL : L ≤ 2560) (hi : i ≤ L) (h : ¬ Int32.ofNat L - 5 < nI i) : i + 5 ≤ L := by
  by_cases h5 : 5 ≤ L
  · have e : Int32.ofNat L - 5 = nI (L - 5) := by
      have e1 : Int32.ofNat L = nI (L - 5) + nI 5 := by rw [nI_add]; exact congrArg nI (show L = L - 5 + 5 by omega)
      rw [e1]
      show nI (L - 5) + nI 5 - nI 5 = _
      exact Int32.add_sub_cancel _ _
    rw [e] at h
    by_cases hc : L - 5 < i
    · exact absurd (nI_lt hc (by omega)) h
    · omega
  · exfalso
    have key : ∀ a, a < 5 → ∀ d, d ≤ a → Int32.ofNat a - 5 < nI d := by decide
    exact h (key L (by omega) i hi)
theorem law_case {p : Program} {l : Launch} {e : Env} {s : State} {m : MethodId} {below : List Frame} {meth : Method} {c : Code} {b L n : Nat} {xs : Nat → Int32} {D : va_G} {cy : Nat → ClassId} {st sk sv : Nat → Nat} {qk qm : Nat → Nat} (X : LX p s m c b L xs D cy st sk sv) (hn : 300 ≤ n) {i : Nat} (hi : i + 5 ≤ L) (nx : LI p l e s m below meth c b D cy qk qm i 1561) : ∀ v, v < 43 → LI p l e s m below meth c b D cy qk qm i (lawT v)
  | 0, _ => law_feed X hn hi nx
  | 1, _ => law_feast X hn hi nx
  | 2, _ => law_set X hn hi nx
  | 3, _ => law_lawOf X hn hi nx
  | 4, _ => law_guest X hn hi nx
  | 5, _ => law_of X hn hi nx
  | 6, _ => law_does X hn hi nx
  | 7, _ => law_mind X hn hi nx
  | 8, _ => law_give X hn hi nx
  | 9, _ => law_sink X hn hi nx
  | 10, _ => law_courses X hn hi nx
  | 11, _ => law_seed X hn hi nx
  | 12, _ => law_course X hn hi nx
  | 13, _ => law_luck X hn hi nx
  | 14, _ => law_state X hn hi nx
  | 15, _ => law_deep X hn hi nx
  | 16, _ => law_speaks X hn hi nx
  | 17, _ => law_sinks X hn hi nx
  | 18, _ => law_whole X hn hi nx
  | 19, _ => law_tale X hn hi nx
  | 20, _ => law_pieceFor X hn hi nx
  | 21, _ => law_kindFor X hn hi nx
  | 22, _ => law_goneFor X hn hi nx
  | 23, _ => law_depthFor X hn hi nx
  | 24, _ => law_strangersFor X hn hi nx
  | 25, _ => law_fits X hn hi nx
  | 26, _ => law_odds X hn hi nx
  | 27, _ => law_hope X hn hi nx
  | 28, _ => law_prove X hn hi nx
  | 29, _ => law_row X hn hi nx
  | 30, _ => law_alterRow X hn hi nx
  | 31, _ => law_judge X hn hi nx
  | 32, _ => law_minds X hn hi nx
  | 33, _ => law_sheet X hn hi nx
  | 34, _ => law_put X hn hi nx
  | 35, _ => law_item X hn hi nx
  | 36, _ => law_shelf X hn hi nx
  | 37, _ => law_taken X hn hi nx
  | 38, _ => law_act X hn hi nx
  | 39, _ => law_trace X hn hi nx
  | 40, _ => law_many X hn hi nx
  | 41, _ => law_keep X hn hi nx
  | 42, _ => law_again X hn hi nx
  | v + 43, h => absurd h (by omega)
set_option maxHeartbeats 4000000 in
theorem law_loop {p : Program} {l : Launch} {e : Env} {s : State} {m : MethodId} {below : List Frame} {meth : Method} {c : Code} {b L n : Nat} {xs : Nat → Int32} {D : va_G} {cy : Nat → ClassId} {st sk sv : Nat → Nat} {qk qm : Nat → Nat} (X : LX p s m c b L xs D cy st sk sv) (hr : meth.sig.returnType = ret) (hlocks : meth.locks = false) (hn : 300 ≤ n) : ∀ (k i : Nat), i ≤ L → L - i < k → LI p l e s m below meth c b D cy qk qm i 18 := by
  intro k
  induction k with
  | zero => intro i _ h; exact absurd h (Nat.not_lt_zero _)
  | succ k ih =>
    intro i hiL hk uK uN uY uE uA uW uS uF uG uM u_s u_held u_aside u_before u_tape u_rows u_sortOf u_sizeOf u_numbers u_holdsWhat u_holdsWhich u_holdsMany u_bodies hR H locs ls hP hD hS hl
    have X' := X
    obtain ⟨hx, hb, hml, hown, hts, hX, hbl, hL, hG⟩ := X
    refine lv_iload_n hx hb dL_law_18 rfl (lv_at hl 3 rfl) ?_
    refine lv_aload_n hx hb dL_law_19 rfl (lv_at hl 0 rfl) ?_
    refine va_slen hx hb hX hbl (Nat.not_le.mpr hbl) hS dL_law_20 ?_
    refine lv_iconst (v := (5 : Int32)) hx hb dL_law_21 (by decide) ?_
    refine lv_isub hx hb dL_law_22 ?_
    refine lv_icmp_gt (tgt := 1567) hx hb dL_law_23 (by decide) (fun _ => ?_) (fun c9 => ?_)
    · refine lv_iconst (v := (1 : Int32)) hx hb dL_law_1567 (by decide) ?_
      refine va_forget (fun q h => hS.2.2 q h) ?_
      exact lw_ret hx hb hr hlocks dL_law_1568
    · have hi : i + 5 ≤ L := headI hL hiL c9
      have nx : LI p l e s m below meth c b D cy qk qm i 1561 := by
        intro uK uN uY uE uA uW uS uF uG uM u_s u_held u_aside u_before u_tape u_rows u_sortOf u_sizeOf u_numbers u_holdsWhat u_holdsWhich u_holdsMany u_bodies hR H locs ls hP hD hS hl
        refine lv_iinc (v := nI (i + 5)) (lv' := [(3, .int (nI (i + 5))), (0, .ref b), (1, .ref (qk 0)), (2, .ref (qm 0))]) hx hb dL_law_1561 hl (k := 3) rfl (show nI i + nI 5 = nI (i + 5) from nI_add i 5) (by decide) rfl (fun ls hl => ?_)
        refine lv_goto (tgt := 18) hx hb dL_law_1564 (by decide) ?_
        exact ih (i + 5) hi (by omega) uK uN uY uE uA uW uS uF uG uM u_s u_held u_aside u_before u_tape u_rows u_sortOf u_sizeOf u_numbers u_holdsWhat u_holdsWhich u_holdsMany u_bodies hR H locs ls hP hD hS (lv_sub hl [1, 2, 3, 0] rfl)
      refine lv_aload_n hx hb dL_law_26 rfl (lv_at hl 0 rfl) ?_
      refine lv_iload_n hx hb dL_law_27 rfl (lv_at hl 3 rfl) ?_
      refine va_sld hx hb hX hbl (Nat.not_le.mpr hbl) hS (nI_ok (show i < L by omega) (by omega)) dL_law_28 ?_
      refine lv_bipush (v := (63 : Int32)) hx hb dL_law_29 (by decide) ?_
      refine lv_iand hx hb dL_law_31 ?_
      obtain ⟨v, hv, ev⟩ := and63 (xs (nI i).toNatClampNeg)
      rw [ev]
      have ei : (nI v).toInt = (v : Int) := nI_toInt (by omega)
      by_cases h43 : v < 43
      · refine lv_tableIn (off := (lawT v : Int) - 32) (tgt := lawT v) hx hb dL_law_32 (by rw [ei]; omega) (by rw [ei]; omega) (by rw [ei, Int.sub_zero, Int.toNat_natCast]; exact lawO v h43) (by omega) ?_
        exact law_case X' hn hi nx v h43 uK uN uY uE uA uW uS uF uG uM u_s u_held u_aside u_before u_tape u_rows u_sortOf u_sizeOf u_numbers u_holdsWhat u_holdsWhich u_holdsMany u_bodies hR H locs ls hP hD hS hl
      · refine lv_tableOut (tgt := 1561) hx hb dL_law_32 (Or.inr (by rw [ei]; omega)) (by decide) ?_
        exact nx uK uN uY uE uA uW uS uF uG uM u_s u_held u_aside u_before u_tape u_rows u_sortOf u_sizeOf u_numbers u_holdsWhat u_holdsWhich u_holdsMany u_bodies hR H locs ls hP hD hS hl
