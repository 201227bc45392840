/-! PURE, 26: a feast told in a text -/
def setO (t : TA) (o : Nat) : TA := (tL t, tK t, tH t, tG t, tT t, tD t, tN t, tC t, o, tZ t)
theorem RK_O {u : TB} {t : TA} (h : RK u t) (o : Nat) : RK (u.1, u.2.1, u.2.2.1, u.2.2.2.1, u.2.2.2.2.1, u.2.2.2.2.2.1, u.2.2.2.2.2.2.1, u.2.2.2.2.2.2.2.1, nI o, u.2.2.2.2.2.2.2.2.2) (setO t o) := ⟨h.1, h.2.1, h.2.2.1, h.2.2.2.1, h.2.2.2.2.1, rfl, h.2.2.2.2.2.2⟩
theorem RM_O {s : Nat → Int32} {t : TA} (h : RM s t) (o : Nat) : RM (upd s 3 (nI o)) (setO t o) := by
  obtain ⟨h0, h1, h2, h3, h4, h5⟩ := h
  refine ⟨(pk_un (by decide)).trans h0, (pk_un (by decide)).trans h1, (pk_un (by decide)).trans h2, pk_us, fun i hi => (pk_un (by omega)).trans (h4 i hi), fun g hg => ?_⟩
  obtain ⟨a, b, c, d, e⟩ := h5 g hg
  exact ⟨(pk_un (by omega)).trans a, (pk_un (by omega)).trans b, (pk_un (by omega)).trans c, (pk_un (by omega)).trans d, (pk_un (by omega)).trans e⟩
theorem ok_O {t : TA} (hO : OkT t) {o : Nat} (h : o ≤ 99999) : OkT (setO t o) := ⟨hO.1, hO.2.1, hO.2.2.1, hO.2.2.2.1, h⟩
/-- a law, or TOLD: the number, then the stop -/
theorem p_ruled {n : Nat} (hn : 300 ≤ n) {uM : MO} {by' tp s : Nat → Int32} {b : Nat → Nat} {L f c most : Nat} {num : Int32} (hB : HB by' tp b L) (hf : f ≤ L) (hs : tS b L f ≠ 0) (hc : c < 48) (hm : most ≤ 999) {Y : TB} (F : Nat → TB) (hF : ∀ v, v ≤ most → RelT (F v) (upd s c (nI v))) (G : Int32 → TB) (hG : ∀ v, G (nI v) = F v) : Out by' b L f uM ((fX5_readNumber n (kAt by' b L f num) (nI most)).bind fun r => if r.1 = 0 then some (0, Y, r.2) else ((fX5_readStop n r.2).bind fun q => if ¬ (q.1 = 0 ∨ q.1 = 1) then none else some (q.1, G r.2.2.2.2.2.2, q.2))) ((fX7_numberTo n (mAt uM b L (tQ b L f) 0) s tp (nI c) (nI most)).bind fun r => fX7_itemHere_b68 n tp r.1 r.2) := by
  obtain ⟨p1, p2⟩ := tP_b (b := b) hf
  obtain ⟨q1, q2, q3⟩ := tQ_b (b := b) hf
  have q3 := q3 hs
  obtain ⟨m1, m2⟩ := m_number hn (uM := uM) (s := s) hB q2 hm hc
  rcases k_number (uA := kAt by' b L f num) hn hB rfl q2 rfl hm with ⟨z, e⟩ | ⟨z, nu, e⟩
  · rw [e, m1 z]
    simp only [Option.bind_some, if_neg i10]
    obtain ⟨r1, r2, -⟩ := tQ_b (b := b) q2
    obtain ⟨o1, o2⟩ := tP_b (b := b) q2
    unfold fX5_readStop
    rw [k_step (uA := kAt by' b L (tQ b L f) (nI (nV b L (tQ b L f)))) hn hB rfl r2 rfl]
    simp only [Option.bind_some]
    rw [hG]
    have hh := p_stopHere hn (uM := uM) (num := nI (nV b L (tQ b L f))) hB r2 (f0 := f) (by omega) (hF _ z.2.2)
    rcases k_isStop (n := n) (num := nI (nV b L (tQ b L f))) hB r2 with ⟨w, -⟩ | ⟨w, -⟩
    · rw [w] at hh ⊢
      exact hh
    · rw [w] at hh ⊢
      exact hh
  · rw [e, m2 z]
    simp only [Option.bind_some, if_true]
    rw [m_68W hB q2]
    exact Or.inl ⟨_, nu, Y, s, rfl, rfl⟩
theorem gsI : ∀ k, k < 4 → gsF 1 k = nI (if k < 2 then 9 else 99) := gs1
-- a guest
theorem seat_H (t : TA) (k p : Nat) : setH (aSeat t k 0) (at1 (tH (aSeat t k 0)) (tN t) p) = aSeat t k p := by
  unfold setH aSeat
  show (_, _, at1 (at1 (tH t) (tN t) 0) (tN t) p, _) = (_, _, at1 (tH t) (tN t) p, _)
  have : at1 (at1 (tH t) (tN t) 0) (tN t) p = at1 (tH t) (tN t) p := by
    funext g
    unfold at1
    by_cases e : g = tN t
    · rw [if_pos e, if_pos e]
    · rw [if_neg e, if_neg e, if_neg e]
  rw [this]
theorem wrongG {n : Nat} {uM : MO} {tp s : Nat → Int32} {b : Nat → Nat} {L f : Nat} (x1 y2 : Int32) : fX7_guestHere_b61 n tp x1 (mAt uM b L f 1) s y2 = some (mAt uM b L f 1, s) := by
  unfold fX7_guestHere_b61
  rw [if_neg (show ¬ (mAt uM b L f 1).2.2.2.2.2.2.1 = 0 from i10)]
  unfold fX7_guestHere_b76
  rw [m_numberW]
  simp only [Option.bind_some]
  rw [if_neg (show ¬ (mAt uM b L f 1).2.2.2.2.2.2.1 = 0 from i10)]
  unfold fX7_guestHere_b116
  rw [if_neg (show ¬ (mAt uM b L f 1).2.2.2.2.2.2.1 = 0 from i10)]
theorem wrong116 {n : Nat} {uM : MO} {tp s : Nat → Int32} {b : Nat → Nat} {L f : Nat} (x1 y2 : Int32) : fX7_guestHere_b116 n tp x1 (mAt uM b L f 1) s y2 = some (mAt uM b L f 1, s) := by
  unfold fX7_guestHere_b116
  rw [if_neg (show ¬ (mAt uM b L f 1).2.2.2.2.2.2.1 = 0 from i10)]
/-- DROWNED or not, and the stop -/
theorem p_tail {n : Nat} (hn : 300 ≤ n) {uM : MO} {by' tp s : Nat → Int32} {b : Nat → Nat} {L f f0 i : Nat} {num x1 x2 : Int32} (hB : HB by' tp b L) (hf : f ≤ L) (h0 : f0 < f) {Y : TB} {t : TA} (hK : RK Y t) (hM : RM s t) (hO : OkT t) (hi : i < tN t) : Out by' b L f0 uM (fX5_readGuest_b72 n x2 Y (kAt by' b L f num) (nI i)) ((fX7_guestHere_b116 n tp x1 (mAt uM b L f 0) s (nI (8 + 5 * i))).bind fun r => fX7_itemHere_b68 n tp r.1 r.2) := by
  have hN := hO.1
  have h8 : i < 8 := by omega
  have kn := k_name (n := n) (num := num) hn hB hf (show 8 < 14 by decide)
  have g8 : (fX7_isName n (mAt uM b L f 0) tp 7 100 114 111 100 = some 0 ∧ ¬ nm b L f 8) ∨ (fX7_isName n (mAt uM b L f 0) tp 7 100 114 111 100 = some 1 ∧ Tst (fX7_isSame n (mAt uM b L f 0) tp 3 119 110 101) (nm b L f 8)) := m_seven (j := 8) hB hf (by decide) rfl
  have no : fX5_isName n (kAt by' b L f num) 8 = some 0 → Out by' b L f0 uM (fX5_readGuest_b72 n x2 Y (kAt by' b L f num) (nI i)) (fX7_itemHere_b68 n tp (mAt uM b L f 0) s) := by
    intro e
    unfold fX5_readGuest_b72 fX5_readGuest_b91
    rw [e]
    exact p_stopHere hn hB hf h0 ⟨t, hK, hM, hO⟩
  unfold fX7_guestHere_b116
  rw [if_pos (show (mAt uM b L f 0).2.2.2.2.2.2.1 = 0 from rfl)]
  rcases kn with ⟨e, z⟩ | ⟨e, z⟩
  · rcases g8 with ⟨c, y⟩ | ⟨c, ⟨d, y⟩ | ⟨d, y⟩⟩
    · exact absurd z y
    · rw [c]
      simp only [Option.bind_some, if_neg i10]
      rw [d]
      obtain ⟨q1, q2, -⟩ := tQ_b (b := b) hf
      simp only [Option.bind_some, if_neg i10]
      have ix : nI (8 + 5 * i) + (4 : Int32) = nI (8 + 5 * i + 4) := nI_add _ 4
      rw [m_step hn hB hf]
      simp only [Option.bind_some]
      rw [ix, if_neg (nI_ok (show 8 + 5 * i + 4 < 48 by omega) (by decide)), nI_clamp (show 8 + 5 * i + 4 < 2 ^ 31 by omega)]
      simp only [Option.bind_some]
      unfold fX5_readGuest_b72 fX5_readGuest_b91
      rw [e]
      simp only [Option.bind_some, if_neg i10]
      unfold fX4_drown
      rw [if_neg i10]
      simp only [Option.bind_some]
      rw [k_step (uA := kAt by' b L f num) hn hB rfl q2 rfl, hK.2.2.1, orI _ (mask_lt hO) _ h8]
      simp only [Option.bind_some]
      refine p_stopHere hn hB q2 (q_mono (g := 0) hf h0) ⟨setD t (tD t ||| 2 ^ i), RK_D hK _, ?_, ok_D hO (Nat.or_lt_two_pow hO.2.2.2.1 (Nat.pow_lt_pow_right (by decide) hi))⟩
      exact RM_updD (d := tD t) (x := 1) hM (fun j hj => bit_or _ (mask_lt hO) _ h8 _ (by omega))
    · exact absurd z y
  · rcases g8 with ⟨c, y⟩ | ⟨c, ⟨d, y⟩ | ⟨d, y⟩⟩
    · rw [c]
      exact no e
    · exact absurd y z
    · rw [c]
      simp only [Option.bind_some, if_neg i10]
      rw [d]
      exact no e
theorem p_guestText {n : Nat} (hn : 300 ≤ n) {uM : MO} {by' tp s : Nat → Int32} {b : Nat → Nat} {L f k : Nat} {num : Int32} (hB : HB by' tp b L) (hf : f ≤ L) (hs : tS b L f ≠ 0) (hk : k < 6) {Y : TB} {t : TA} (hK : RK Y t) (hM : RM s t) (hO : OkT t) : Out by' b L f uM (if (8 : Int32) ≤ Y.2.2.2.2.2.2.1 then some (0, Y, kAt by' b L f num) else fX5_readGuest n Y (kAt by' b L f num) (nI k)) ((fX7_guestHere n (mAt uM b L f 0) s tp (nI k)).bind fun r => fX7_itemHere_b68 n tp r.1 r.2) := by
  have hN := hO.1
  obtain ⟨p1, p2⟩ := tP_b (b := b) hf
  obtain ⟨q1, q2, q3⟩ := tQ_b (b := b) hf
  have q3 := q3 hs
  -- f2
  have f2 := q2
  obtain ⟨a1, a2⟩ := tP_b (b := b) f2
  obtain ⟨a3, a4, -⟩ := tQ_b (b := b) f2
  unfold fX7_guestHere
  rw [hK.2.2.2.1, c0, hM.1]
  by_cases hc : tN t < 8
  rotate_left 1
  · rw [if_pos (show (8 : Int32) ≤ nI (tN t) from nI_le (a := 8) (by omega) (by omega)), if_pos (show (8 : Int32) ≤ nI (tN t) from nI_le (a := 8) (by omega) (by omega))]
    unfold fX7_guestHere_b29
    rw [m_needs0]
    simp only [Option.bind_some]
    have g6 : Tst (fX7_isFour n (mAt uM b L f 1) tp 119 105 116 104) (nm b L f 6) := m_four (j := 6) hB hf (by decide) rfl
    rcases g6 with ⟨e, -⟩ | ⟨e, -⟩
    · rw [e]
      simp only [Option.bind_some]
      rw [m_needsW]
      simp only [Option.bind_some]
      rw [if_neg (show ¬ (mAt uM b L f 1).2.2.2.2.2.2.1 = 0 from i10), wrongG]
      simp only [Option.bind_some]
      rw [m_68W hB hf]
      exact Or.inl ⟨f, num, Y, s, rfl, rfl⟩
    · rw [e]
      simp only [Option.bind_some]
      rw [m_needsW]
      simp only [Option.bind_some]
      rw [if_neg (show ¬ (mAt uM b L f 1).2.2.2.2.2.2.1 = 0 from i10), wrongG]
      simp only [Option.bind_some]
      rw [m_68W hB hf]
      exact Or.inl ⟨f, num, Y, s, rfl, rfl⟩
  rw [if_neg (show ¬ (8 : Int32) ≤ nI (tN t) from nI_ge (b := 8) hc (by decide)), if_neg (show ¬ (8 : Int32) ≤ nI (tN t) from nI_ge (b := 8) hc (by decide))]
  have iy : (8 : Int32) + ((5 : Int32) * nI (tN t)) = nI (8 + 5 * tN t) := by rw [show (5 : Int32) = nI 5 from rfl, pk_mul]; exact nI_add 8 _
  rw [iy]
  unfold fX7_guestHere_b29 fX5_readGuest
  rw [m_needs1 hn hB hf, k_step (uA := kAt by' b L f num) hn hB rfl f2 rfl]
  simp only [Option.bind_some]
  have g6 : Tst (fX7_isFour n (mAt uM b L (tQ b L f) 0) tp 119 105 116 104) (nm b L (tQ b L f) 6) := m_four (j := 6) hB f2 (by decide) rfl
  rcases k_name (n := n) (num := num) hn hB f2 (show 6 < 14 by decide) with ⟨e6, z6⟩ | ⟨e6, z6⟩
  rotate_left 1
  · rcases g6 with ⟨e, y⟩ | ⟨e, y⟩
    · exact absurd y z6
    · rw [e6, e]
      simp only [Option.bind_some, if_true]
      rw [m_needs0]
      simp only [Option.bind_some]
      rw [if_neg (show ¬ (mAt uM b L (tQ b L f) 1).2.2.2.2.2.2.1 = 0 from i10), wrongG]
      simp only [Option.bind_some]
      rw [m_68W hB f2]
      exact Or.inl ⟨tQ b L f, num, Y, s, rfl, rfl⟩
  rcases g6 with ⟨eM6, -⟩ | ⟨-, y⟩
  rotate_left 1
  · exact absurd z6 y
  rw [e6, eM6]
  simp only [Option.bind_some, if_neg i10]
  rw [m_needs1 hn hB f2]
  simp only [Option.bind_some]
  obtain ⟨s1, es1, rs1⟩ := m_comes (n := n) (uM := mAt uM b L (tQ b L (tQ b L f)) 0) hM hO hc k 0
  rw [if_pos (show (mAt uM b L (tQ b L (tQ b L f)) 0).2.2.2.2.2.2.1 = 0 from rfl), show fX7_comes n (mAt uM b L (tQ b L (tQ b L f)) 0) s (nI k) 0 = _ from es1]
  simp only [Option.bind_some]
  -- f3
  have f3 := a4
  obtain ⟨b1, b2⟩ := tP_b (b := b) f3
  obtain ⟨b3, b4, -⟩ := tQ_b (b := b) f3
  unfold fX7_guestHere_b61
  rw [if_pos (show (mAt uM b L (tQ b L (tQ b L f)) 0).2.2.2.2.2.2.1 = 0 from rfl), show nI (8 + 5 * tN t) + (1 : Int32) = nI (8 + 5 * tN t + 1) from nI_add _ 1]
  unfold fX7_guestHere_b76
  obtain ⟨m1, m2⟩ := m_number hn (uM := uM) (s := s1) hB f3 (show 7 ≤ 999 by decide) (show 8 + 5 * tN t + 1 < 48 by omega)
  rcases k_number (uA := kAt by' b L (tQ b L f) num) hn hB rfl f3 rfl (show 7 ≤ 999 by decide) with ⟨z, e⟩ | ⟨z, nu, e⟩
  rotate_left 1
  · rw [show fX5_readNumber n (kAt by' b L (tQ b L f) num) 7 = _ from e, show fX7_numberTo n (mAt uM b L (tQ b L (tQ b L f)) 0) s1 tp (nI (8 + 5 * tN t + 1)) 7 = _ from m2 z]
    simp only [Option.bind_some, if_true]
    rw [if_neg (show ¬ (mAt uM b L (tQ b L (tQ b L f)) 1).2.2.2.2.2.2.1 = 0 from i10), wrong116]
    simp only [Option.bind_some]
    rw [m_68W hB f3]
    exact Or.inl ⟨_, nu, Y, s1, rfl, rfl⟩
  rw [show fX5_readNumber n (kAt by' b L (tQ b L f) num) 7 = _ from e, show fX7_numberTo n (mAt uM b L (tQ b L (tQ b L f)) 0) s1 tp (nI (8 + 5 * tN t + 1)) 7 = _ from m1 z]
  simp only [Option.bind_some, if_neg i10]
  generalize hv : nV b L (tQ b L (tQ b L f)) = v at *
  have hv7 : v ≤ 7 := by have := z.2.2; omega
  obtain ⟨Y1, ey, ry⟩ := k_seat (n := n) hK hO hc k v
  rw [ey]
  have rs2 : RM (upd s1 (8 + 5 * tN t + 1) (nI v)) (aSeat t k v) := by
    rw [← seat_H t k v]
    exact RM_H rs1
  have os2 : OkT (aSeat t k v) := ok_seat hO hc (by omega) hv7
  have hg2 : tN t < tN (aSeat t k v) := Nat.lt_succ_self _
  generalize upd s1 (8 + 5 * tN t + 1) (nI v) = s2 at *
  rw [if_pos (show (mAt uM b L (tQ b L (tQ b L (tQ b L f))) 0).2.2.2.2.2.2.1 = 0 from rfl)]
  -- f4
  have f4 := b4
  obtain ⟨d1, d2⟩ := tP_b (b := b) f4
  obtain ⟨d3, d4, -⟩ := tQ_b (b := b) f4
  rw [k_step (uA := kAt by' b L (tQ b L (tQ b L f)) (nI v)) hn hB rfl f4 rfl]
  simp only [Option.bind_some]
  have g7 : Tst (fX7_isFour n (mAt uM b L (tQ b L (tQ b L (tQ b L f))) 0) tp 103 111 110 101) (nm b L (tQ b L (tQ b L (tQ b L f))) 7) := m_four (j := 7) hB f4 (by decide) rfl
  rcases k_name (n := n) (num := nI v) hn hB f4 (show 7 < 14 by decide) with ⟨e7, z7⟩ | ⟨e7, z7⟩
  rotate_left 1
  · rcases g7 with ⟨-, y⟩ | ⟨eM7, -⟩
    · exact absurd y z7
    · rw [e7, eM7]
      simp only [Option.bind_some, if_true]
      exact p_tail hn hB f4 (by omega) ry rs2 os2 hg2
  rcases g7 with ⟨eM7, -⟩ | ⟨-, y⟩
  rotate_left 1
  · exact absurd z7 y
  rw [e7, eM7]
  simp only [Option.bind_some, if_neg i10]
  rw [m_step hn hB f4]
  simp only [Option.bind_some]
  rw [show nI (8 + 5 * tN t) + (2 : Int32) = nI (8 + 5 * tN t + 2) from nI_add _ 2]
  -- f5
  have f5 := d4
  obtain ⟨g1, g2⟩ := tP_b (b := b) f5
  obtain ⟨g3, g4, -⟩ := tQ_b (b := b) f5
  obtain ⟨m3, m4⟩ := m_number hn (uM := uM) (s := s2) hB f5 (show 99 ≤ 999 by decide) (show 8 + 5 * tN t + 2 < 48 by omega)
  rcases k_number (uA := kAt by' b L (tQ b L (tQ b L (tQ b L f))) (nI v)) hn hB rfl f5 rfl (show 99 ≤ 999 by decide) with ⟨w, e5⟩ | ⟨w, nu, e5⟩
  rotate_left 1
  · rw [show fX5_readNumber n (kAt by' b L (tQ b L (tQ b L (tQ b L f))) (nI v)) 99 = _ from e5, show fX7_numberTo n (mAt uM b L (tQ b L (tQ b L (tQ b L (tQ b L f)))) 0) s2 tp (nI (8 + 5 * tN t + 2)) 99 = _ from m4 w]
    simp only [Option.bind_some, if_true]
    rw [wrong116]
    simp only [Option.bind_some]
    rw [m_68W hB f5]
    exact Or.inl ⟨_, nu, _, s2, rfl, rfl⟩
  rw [show fX5_readNumber n (kAt by' b L (tQ b L (tQ b L (tQ b L f))) (nI v)) 99 = _ from e5, show fX7_numberTo n (mAt uM b L (tQ b L (tQ b L (tQ b L (tQ b L f)))) 0) s2 tp (nI (8 + 5 * tN t + 2)) 99 = _ from m3 w]
  simp only [Option.bind_some, if_neg i10]
  rw [if_neg (nI_ok hc (by decide)), nI_clamp (show tN t < 2 ^ 31 by omega), k_step (uA := kAt by' b L (tQ b L (tQ b L (tQ b L (tQ b L f)))) (nI (nV b L (tQ b L (tQ b L (tQ b L (tQ b L f))))))) hn hB rfl g4 rfl]
  simp only [Option.bind_some]
  exact p_tail hn hB g4 (by omega) (RK_G (i := tN t) (x := nV b L (tQ b L (tQ b L (tQ b L (tQ b L f))))) ry) (RM_G (i := tN t) (x := nV b L (tQ b L (tQ b L (tQ b L (tQ b L f))))) rs2) (ok_G os2 w.2.2) hg2
