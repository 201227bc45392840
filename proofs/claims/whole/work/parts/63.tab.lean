/-! PURE, 4: what asks the table alone -/
def RelT (uN : TB) (s : Nat → Int32) : Prop := ∃ t : TA, RK uN t ∧ RM s t ∧ OkT t
theorem i10 : ¬ (1 : Int32) = 0 := by decide
theorem p_state0 {n : Nat} {uN : TB} {s : Nat → Int32} (h : RelT uN s) : uN.2.2.2.2.2.2.1 = s 0 ∧ uN.2.2.2.2.2.2.2.1 = s 1 ∧ uN.2.2.2.2.2.2.2.2.1 = s 3 ∧ uN.2.2.2.2.2.2.2.2.2 = s 2 := by
  obtain ⟨t, hK, hM, hO⟩ := h
  exact ⟨hK.2.2.2.1.trans hM.1.symm, hK.2.2.2.2.1.trans hM.2.1.symm, hK.2.2.2.2.2.1.trans hM.2.2.2.1.symm, hK.2.2.2.2.2.2.trans hM.2.2.1.symm⟩
theorem p_tale {n : Nat} (hn : 300 ≤ n) {uK : Int32} {uN uY : TB} {uM : MO} {s a : Nat → Int32} (h : RelT uN s) (x1 : Int32) : ∃ (A : Int32) (Y' : TB) (s' a' : Nat → Int32), fX6_tale n uK uN uY x1 = some (A, Y') ∧ fX7_tale n uM s a x1 = some (A, s', a') ∧ RelT uN s' := by
  obtain ⟨t, hK, hM, hO⟩ := h
  unfold fX6_tale fX7_tale
  rcases out_or x1 (lo := 0) (hi := 60) (by decide) (by decide) with h2 | ⟨k, -, hk, rfl⟩
  · rw [show fX6_within n x1 0 60 = some 0 from k_in0 (lo := 0) (hi := 60) h2, show fX7_isIn n x1.toInt64 0 60 = some 0 from m_in0 (lo := 0) (hi := 60) (by decide) (by decide) h2]
    exact ⟨_, _, _, _, rfl, rfl, t, hK, hM, hO⟩
  · rw [show fX6_within n (nI k) 0 60 = some 1 from k_in1 (lo := 0) (hi := 60) (by omega) hk (by decide), show fX7_isIn n (nI k).toInt64 0 60 = some 1 from m_in1 (lo := 0) (hi := 60) (by omega) hk (by decide)]
    obtain ⟨u', e1, -⟩ := k_tried hn uK (uY := uY) hK hO (k := k) (by omega)
    obtain ⟨s', a', e2, h3⟩ := m_tale (uM := uM) (a := a) hn hM hO (k := k) (by omega)
    simp only [Option.bind_some, if_neg i10, e1, e2]
    exact ⟨_, _, _, _, rfl, rfl, t, hK, RM_congr hO.1 h3 hM, hO⟩
theorem p_deep {n : Nat} (hn : 300 ≤ n) {uK : Int32} {uN uY : TB} {uM : MO} {s a : Nat → Int32} (h : RelT uN s) (x1 x2 : Int32) : ∃ (A : Int32) (Y' : TB) (s' a' : Nat → Int32), fX6_deep n uK uN uY x1 x2 = some (A, Y') ∧ fX7_deep n uM s a x1 x2 = some (A, s', a') ∧ RelT uN s' := by
  obtain ⟨t, hK, hM, hO⟩ := h
  unfold fX6_deep fX7_deep
  rcases one_or x1 hO.1 with h1 | ⟨g, hg, rfl⟩
  · rw [k_has0 hK hO h1, m_one0 hM h1]
    exact ⟨_, _, _, _, rfl, rfl, t, hK, hM, hO⟩
  rw [k_has1 hK hO hg, m_one1 hM hO hg]
  rcases out_or x2 (lo := 0) (hi := 60) (by decide) (by decide) with h2 | ⟨k, -, hk, rfl⟩
  · rw [show fX6_within n x2 0 60 = some 0 from k_in0 (lo := 0) (hi := 60) h2, show fX7_isIn n x2.toInt64 0 60 = some 0 from m_in0 (lo := 0) (hi := 60) (by decide) (by decide) h2]
    exact ⟨_, _, _, _, rfl, rfl, t, hK, hM, hO⟩
  · rw [show fX6_within n (nI k) 0 60 = some 1 from k_in1 (lo := 0) (hi := 60) (by omega) hk (by decide), show fX7_isIn n (nI k).toInt64 0 60 = some 1 from m_in1 (lo := 0) (hi := 60) (by omega) hk (by decide)]
    have h8 : g < 8 := Nat.lt_of_lt_of_le hg hO.1
    obtain ⟨u', e1, r1⟩ := k_tried hn uK (uY := uY) hK hO (k := k) (by omega)
    obtain ⟨a1, e2, c2⟩ := m_copy hn s a
    obtain ⟨s1, e3, r3⟩ := m_many (uM := uM) hn hM hO (k := k) (by omega)
    obtain ⟨s2, e4, c4⟩ := m_copy hn a1 s1
    have hN : tN (aServes k t) = tN t := serves_N k t
    have e5 := m_its2 (n := n) (uM := uM) r3 (ok_serves k hO) (g := g) (by rw [hN]; exact hg)
    simp only [Option.bind_some, if_neg i10, e1, e2, e3, e4, e5]
    rw [if_neg (nI_ok h8 (by decide)), nI_cl8 h8, (r1.2.1 g (by rw [hN]; exact hg)).2.2.1]
    exact ⟨_, _, _, _, rfl, rfl, t, hK, RM_congr hO.1 (fun j hj => (c4 j hj).trans (c2 j hj)) hM, hO⟩
theorem p_courses {n : Nat} (hn : 300 ≤ n) {uK : Int32} {uN : TB} {uM : MO} {s : Nat → Int32} (h : RelT uN s) (x1 : Int32) : ∃ (A : Int32) (N' : TB) (s' : Nat → Int32), fX6_courses n uK uN x1 = some (A, N') ∧ fX7_courses n uM s x1 = some (A, s') ∧ RelT N' s' := by
  obtain ⟨t, hK, hM, hO⟩ := h
  unfold fX6_courses fX7_courses
  rcases out_or x1 (lo := 1) (hi := 60) (by decide) (by decide) with h2 | ⟨k, hk1, hk, rfl⟩
  · rw [show fX6_within n x1 1 60 = some 0 from k_in0 (lo := 1) (hi := 60) h2, show fX7_isIn n x1.toInt64 1 60 = some 0 from m_in0 (lo := 1) (hi := 60) (by decide) (by decide) h2]
    exact ⟨_, _, _, rfl, rfl, t, hK, hM, hO⟩
  · rw [show fX6_within n (nI k) 1 60 = some 1 from k_in1 (lo := 1) (hi := 60) hk1 hk (by decide), show fX7_isIn n (nI k).toInt64 1 60 = some 1 from m_in1 (lo := 1) (hi := 60) hk1 hk (by decide)]
    obtain ⟨u', e1, r1⟩ := k_told hn hK hO (k := k) (by omega)
    obtain ⟨s', e2, r2⟩ := m_many (uM := uM) hn hM hO (k := k) (by omega)
    simp only [Option.bind_some, if_neg i10, e1, e2, c3, r2.2.2.2.1]
    exact ⟨_, _, _, rfl, rfl, _, r1, r2, ok_serves k hO⟩
theorem p_lawOf {n : Nat} {uK : Int32} {uN : TB} {uM : MO} {s : Nat → Int32} (h : RelT uN s) (x1 : Int32) : ∃ A : Int32, fX6_lawOf n uK uN x1 = some A ∧ fX7_lawOf n uM s x1 = some A := by
  obtain ⟨t, hK, hM, hO⟩ := h
  unfold fX6_lawOf fX7_lawOf
  rcases out_or x1 (lo := 0) (hi := 3) (by decide) (by decide) with h2 | ⟨k, -, hk, rfl⟩
  · rw [show fX6_within n x1 0 3 = some 0 from k_in0 (lo := 0) (hi := 3) h2, show fX7_isIn n x1.toInt64 0 3 = some 0 from m_in0 (lo := 0) (hi := 3) (by decide) (by decide) h2]
    exact ⟨_, rfl, rfl⟩
  · rw [show fX6_within n (nI k) 0 3 = some 1 from k_in1 (lo := 0) (hi := 3) (by omega) hk (by decide), show fX7_isIn n (nI k).toInt64 0 3 = some 1 from m_in1 (lo := 0) (hi := 3) (by omega) hk (by decide)]
    simp only [Option.bind_some, if_neg i10]
    have e4 : (4 : Int32) + nI k = nI (4 + k) := nI_add 4 k
    rw [if_neg (nI_ok (show k < 4 by omega) (by decide)), nI_clamp (by omega), hK.1 k (by omega), e4, if_neg (nI_ok (show 4 + k < 48 by omega) (by decide)), nI_clamp (by omega), hM.2.2.2.2.1 k (by omega)]
    exact ⟨_, rfl, rfl⟩
theorem p_of {n : Nat} {uK : Int32} {uN : TB} {uM : MO} {s : Nat → Int32} (h : RelT uN s) (x1 x2 : Int32) : ∃ A : Int32, fX6_of n uK uN x1 x2 = some A ∧ fX7_of n uM s x1 x2 = some A := by
  obtain ⟨t, hK, hM, hO⟩ := h
  unfold fX6_of fX7_of
  rcases one_or x1 hO.1 with h1 | ⟨g, hg, rfl⟩
  · rw [k_has0 hK hO h1, m_one0 hM h1]
    exact ⟨_, rfl, rfl⟩
  rw [k_has1 hK hO hg, m_one1 hM hO hg]
  have h8 : g < 8 := Nat.lt_of_lt_of_le hg hO.1
  obtain ⟨q1, q2, q3, q4⟩ := hK.2.1 g hg
  have hb := bitN_le (tD t) g
  rcases out_or x2 (lo := 0) (hi := 4) (by decide) (by decide) with h2 | ⟨k, -, hk, rfl⟩
  · rw [show fX7_isIn n x2.toInt64 0 4 = some 0 from m_in0 (lo := 0) (hi := 4) (by decide) (by decide) h2]
    have ne : ∀ j, j ≤ 4 → ¬ x2 = nI j := fun j hj e => not_out (lo := 0) (hi := 4) (Nat.zero_le j) hj (by decide) (e ▸ h2)
    simp only [Option.bind_some, if_neg i10, if_neg (ne 0 (by decide)), if_neg (show ¬ x2 = 0 from ne 0 (by decide)), if_neg (show ¬ x2 = 1 from ne 1 (by decide)), if_neg (show ¬ x2 = 2 from ne 2 (by decide)), if_neg (show ¬ x2 = 3 from ne 3 (by decide)), if_neg (show ¬ x2 = 4 from ne 4 (by decide))]
    exact ⟨_, rfl, rfl⟩
  · rw [show fX7_isIn n (nI k).toInt64 0 4 = some 1 from m_in1 (lo := 0) (hi := 4) (by omega) hk (by decide)]
    have j8 : ¬ (nI g < 0 ∨ 8 ≤ g) := nI_ok2 h8 (by decide)
    simp only [Option.bind_some, if_neg i10, nI_cl8 h8, if_neg j8, q1, q2, q3, q4, k_isDrowned hK hO h8]
    rcases (show k = 0 ∨ k = 1 ∨ k = 2 ∨ k = 3 ∨ k = 4 by omega) with rfl | rfl | rfl | rfl | rfl
    · exact ⟨_, rfl, congrArg (fun z => z.bind fun r => some r) (m_its0 (n := n) (uM := uM) hM hO hg)⟩
    · exact ⟨_, rfl, congrArg (fun z => z.bind fun r => some r) (m_its1 (n := n) (uM := uM) hM hO hg)⟩
    · exact ⟨_, rfl, congrArg (fun z => z.bind fun r => some r) (m_its2 (n := n) (uM := uM) hM hO hg)⟩
    · exact ⟨_, rfl, congrArg (fun z => z.bind fun r => some r) (m_its3 (n := n) (uM := uM) hM hO hg)⟩
    · refine ⟨nI (bitN (tD t) g), ?_, congrArg (fun z => z.bind fun r => some r) (m_its4 (n := n) (uM := uM) hM hO hg)⟩
      unfold bitN
      cases (tD t).testBit g <;> rfl
