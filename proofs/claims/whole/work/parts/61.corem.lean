/-! PURE, 2: the reference's side of a COURSE -/
theorem leastI {n a N : Nat} (ha : a < 2 ^ 20) (hN : N < 2 ^ 20) : fX7_least n (nI N) (nI a + (1 : Int32)) = some (nI (min N (a + 1))) := by
  unfold fX7_least
  rw [nI_1]
  by_cases h : a + 1 ≤ N
  · rw [if_pos (nI_le h (by omega)), show min N (a + 1) = a + 1 by omega]
  · rw [if_neg (nI_ge (by omega) (by omega)), show min N (a + 1) = N by omega]
theorem m_its {n : Nat} {uM : MO} {s : Nat → Int32} {g w : Nat} (hg : g < 8) (hw : w < 5) : fX7_its n uM s (nI g) (nI w) = some (s (8 + 5 * g + w)) := by
  unfold fX7_its
  rw [ixM g hg w hw, if_neg (nI_ok (by omega) (by decide)), nI_clamp (by omega)]
theorem m_its0 {n : Nat} {uM : MO} {s : Nat → Int32} {t : TA} (hR : RM s t) (hO : OkT t) {g : Nat} (hg : g < tN t) : fX7_its n uM s (nI g) (0 : Int32) = some (nI (tK t g)) :=
  (m_its (w := 0) (Nat.lt_of_lt_of_le hg hO.1) (by decide)).trans (congrArg some (hR.2.2.2.2.2 g hg).1)
theorem m_its1 {n : Nat} {uM : MO} {s : Nat → Int32} {t : TA} (hR : RM s t) (hO : OkT t) {g : Nat} (hg : g < tN t) : fX7_its n uM s (nI g) (1 : Int32) = some (nI (tH t g)) :=
  (m_its (w := 1) (Nat.lt_of_lt_of_le hg hO.1) (by decide)).trans (congrArg some (hR.2.2.2.2.2 g hg).2.1)
theorem m_its2 {n : Nat} {uM : MO} {s : Nat → Int32} {t : TA} (hR : RM s t) (hO : OkT t) {g : Nat} (hg : g < tN t) : fX7_its n uM s (nI g) (2 : Int32) = some (nI (tG t g)) :=
  (m_its (w := 2) (Nat.lt_of_lt_of_le hg hO.1) (by decide)).trans (congrArg some (hR.2.2.2.2.2 g hg).2.2.1)
theorem m_its3 {n : Nat} {uM : MO} {s : Nat → Int32} {t : TA} (hR : RM s t) (hO : OkT t) {g : Nat} (hg : g < tN t) : fX7_its n uM s (nI g) (3 : Int32) = some (nI (tT t g)) :=
  (m_its (w := 3) (Nat.lt_of_lt_of_le hg hO.1) (by decide)).trans (congrArg some (hR.2.2.2.2.2 g hg).2.2.2.1)
theorem m_its4 {n : Nat} {uM : MO} {s : Nat → Int32} {t : TA} (hR : RM s t) (hO : OkT t) {g : Nat} (hg : g < tN t) : fX7_its n uM s (nI g) (4 : Int32) = some (nI (bitN (tD t) g)) :=
  (m_its (w := 4) (Nat.lt_of_lt_of_le hg hO.1) (by decide)).trans (congrArg some (hR.2.2.2.2.2 g hg).2.2.2.2)
theorem m_next {n : Nat} {uM : MO} {s : Nat → Int32} {t : TA} (hR : RM s t) (hO : OkT t) : fX7_next n uM s = some (nI (tO t % 8)) := by
  unfold fX7_next
  rw [c3, hR.2.2.2.1]
  exact congrArg some (pk_rem (d := 8) (by have := hO.2.2.2.2; omega) (by decide) (by decide))
theorem m_takes {n : Nat} {uM : MO} {s : Nat → Int32} {t : TA} (hR : RM s t) (hO : OkT t) {g : Nat} (hg : g < tN t) : fX7_takes n uM s (nI g) = some (nI (aP t g) - nI (aM t g)) := by
  have hk5 := (hO.2.2.1 g hg).1
  have hs := hO.2.1.2.1
  have h5 : s 5 = nI (tL t 1) := hR.2.2.2.2.1 1 (by decide)
  unfold fX7_takes
  rw [m_its0 hR hO hg, m_its1 hR hO hg, m_next hR hO, c5, h5]
  simp only [Option.bind_some]
  unfold aP aM
  have e : ∀ a : Nat, nI a - nI 0 = nI a := fun a => pk_sub (Nat.zero_le a)
  rcases (show tK t g = 0 ∨ tK t g = 1 ∨ tK t g = 2 ∨ tK t g = 3 ∨ tK t g = 4 ∨ tK t g = 5 by omega) with h | h | h | h | h | h <;> rw [h]
  · show some (4 : Int32) = some (nI 4 - nI 0)
    rw [e]; rfl
  · show some ((4 : Int32) + nI (tL t 1)) = some (nI (4 + tL t 1) - nI 0)
    rw [e]
    exact congrArg some (nI_add 4 _)
  · show some (2 : Int32) = some (nI 2 - nI 0)
    rw [e]; rfl
  · show some ((2 : Int32) * ((4 : Int32) + nI (tL t 1))) = some (nI (2 * (4 + tL t 1)) - nI 0)
    rw [e, show ((4 : Int32) + nI (tL t 1)) = nI (4 + tL t 1) from nI_add 4 _]
    exact congrArg some (pk_mul 2 _)
  · rfl
  · show (if nI (tH t g) = nI (tO t % 8) then some (9 : Int32) else some (4 : Int32)) = some (nI (if tH t g = tO t % 8 then 9 else 4) - nI 0)
    rw [e]
    have h1 := (hO.2.2.1 g hg).2.1
    by_cases q : tH t g = tO t % 8
    · rw [if_pos (congrArg nI q), if_pos q]; rfl
    · rw [if_neg (nI_inj (by omega) (by omega) q), if_neg q]; rfl
theorem m_needs {n : Nat} {uM : MO} {s : Nat → Int32} {t : TA} (hR : RM s t) (hO : OkT t) {g : Nat} (hg : g < tN t) : fX7_needsOf n uM s (nI g) = some (nI (aNd t g)) := by
  obtain ⟨hk5, -, hg9, -⟩ := hO.2.2.1 g hg
  have hs := hO.2.1.2.1
  have h5 : s 5 = nI (tL t 1) := hR.2.2.2.2.1 1 (by decide)
  unfold fX7_needsOf
  rw [m_its0 hR hO hg, m_its2 hR hO hg, c5, h5]
  simp only [Option.bind_some]
  unfold aNd
  rcases (show tK t g = 0 ∨ tK t g = 1 ∨ tK t g = 2 ∨ tK t g = 3 ∨ tK t g = 4 ∨ tK t g = 5 by omega) with h | h | h | h | h | h <;> rw [h]
  · rfl
  · rfl
  · rfl
  · show some ((15 : Int32) - nI (tL t 1)) = some (nI (15 - tL t 1))
    exact congrArg some (pk_sub (a := 15) (by omega))
  · show some ((30 : Int32) - nI (tG t g) / (10 : Int32)) = some (nI (30 - tG t g / 10))
    rw [show nI (tG t g) / (10 : Int32) = nI (tG t g / 10) from pk_div (d := 10) (by omega) (by decide) (by decide)]
    exact congrArg some (pk_sub (a := 30) (by omega))
  · rfl
theorem m_costs {n : Nat} {uM : MO} {s : Nat → Int32} {t : TA} (hR : RM s t) (hO : OkT t) {g : Nat} (hg : g < tN t) : fX7_costs n uM s (nI g) = some (nI (aCo t g)) := by
  obtain ⟨hk5, -, hg9, -⟩ := hO.2.2.1 g hg
  have hs := hO.2.1.2.1
  have h5 : s 5 = nI (tL t 1) := hR.2.2.2.2.1 1 (by decide)
  unfold fX7_costs
  rw [m_its0 hR hO hg, c5, h5]
  simp only [Option.bind_some]
  unfold aCo
  rcases (show tK t g = 0 ∨ tK t g = 1 ∨ tK t g = 2 ∨ tK t g = 3 ∨ tK t g = 4 ∨ tK t g = 5 by omega) with h | h | h | h | h | h <;> rw [h]
  · rfl
  · rfl
  · rfl
  · rfl
  · show some ((15 : Int32) - nI (tL t 1)) = some (nI (15 - tL t 1))
    exact congrArg some (pk_sub (a := 15) (by omega))
  · rfl
theorem m_tellerL {n : Nat} {uM : MO} {s : Nat → Int32} {t : TA} (hR : RM s t) (hO : OkT t) : ∀ (k i m : Nat), i + k = tN t → k < m → lpF (fX7_teller_F7 n uM s) m (nI (tO t % 8), nI i) = some (match fst (canTell t) k i with | none => -1 | some g => nI g) := by
  intro k
  induction k with
  | zero =>
    intro i m hi hm
    obtain ⟨m, rfl⟩ : ∃ x, m = x + 1 := ⟨m - 1, by omega⟩
    have hN := hO.1
    rw [lpS]
    unfold fX7_teller_F7
    rw [c0, hR.1, if_pos (nI_le (by omega) (by omega))]
    rfl
  | succ k ih =>
    intro i m hi hm
    obtain ⟨m, rfl⟩ : ∃ x, m = x + 1 := ⟨m - 1, by omega⟩
    have hN := hO.1
    have hi8 : i < 8 := by omega
    have hiN : i < tN t := by omega
    obtain ⟨q1, q2, q3, -⟩ := hO.2.2.1 i hiN
    have hnx : tO t % 8 < 8 := Nat.mod_lt _ (by decide)
    have nx : nI i + (1 : Int32) = nI (i + 1) := nI_1 i
    have ih' := ih (i + 1) m (by omega) (by omega)
    rw [lpS]
    generalize lpF (fX7_teller_F7 n uM s) m = kk at ih' ⊢
    unfold fX7_teller_F7 fX7_teller_b52
    simp only [c0, hR.1, m_its4 hR hO hiN, m_its1 hR hO hiN, m_its2 hR hO hiN, m_needs hR hO hiN, Option.bind_some, nx]
    rw [if_neg (nI_ge hiN (by omega)), ih']
    show _ = some (match (if canTell t i = true then some i else fst (canTell t) k (i + 1)) with | none => -1 | some g => nI g)
    have hnd : aNd t i < 2 ^ 20 := by unfold aNd; repeat' split
                                      all_goals omega
    by_cases a2 : (tD t).testBit i = true
    · rw [if_neg (by rw [nI_of_bit0]; simp [a2])]
      have : canTell t i = false := by simp [canTell, a2]
      rw [this]; rfl
    · rw [if_pos (by rw [nI_of_bit0]; simpa using a2)]
      by_cases a1 : tH t i = tO t % 8
      · rw [if_pos (congrArg nI a1)]
        by_cases a3 : aNd t i ≤ tG t i
        · rw [if_neg (nI_nlt a3 (by omega))]
          have : canTell t i = true := by simp [canTell, a1, a3]; simpa using a2
          rw [this]; rfl
        · rw [if_pos (nI_lt (by omega) (by omega))]
          have : canTell t i = false := by simp [canTell, a3]
          rw [this]; rfl
      · rw [if_neg (nI_inj (by omega) (by omega) a1)]
        have : canTell t i = false := by simp [canTell, a1]
        rw [this]; rfl
theorem m_teller {n : Nat} {uM : MO} {s : Nat → Int32} {t : TA} (hR : RM s t) (hO : OkT t) (hn : 8 < n) : fX7_teller n uM s = some (match aTeller t with | none => -1 | some g => nI g) := by
  unfold fX7_teller
  rw [m_next hR hO]
  exact m_tellerL hR hO (tN t) 0 n (by omega) (by have := hO.1; omega)
theorem RM_setG {s : Nat → Int32} {t : TA} {f f' : Nat → Nat} (h : RM s (setG t f)) (he : ∀ g, g < tN t → f g = f' g) : RM s (setG t f') := by
  refine ⟨h.1, h.2.1, h.2.2.1, h.2.2.2.1, h.2.2.2.2.1, fun g hg => ?_⟩
  obtain ⟨a, b, c, d⟩ := h.2.2.2.2.2 g hg
  exact ⟨a, b, c.trans (congrArg nI (he g hg)), d⟩
theorem RM_updG {s : Nat → Int32} {t : TA} {f f' : Nat → Nat} {i x : Nat} (h : RM s (setG t f)) (he : ∀ g, g < tN t → f' g = if g = i then x else f g) : RM (upd s (8 + 5 * i + 2) (nI x)) (setG t f') := by
  obtain ⟨h0, h1, h2, h3, h4, h5⟩ := h
  refine ⟨(pk_un (by omega)).trans h0, (pk_un (by omega)).trans h1, (pk_un (by omega)).trans h2, (pk_un (by omega)).trans h3, fun j hj => (pk_un (by omega)).trans (h4 j hj), fun g hg => ?_⟩
  obtain ⟨a, b, c, d, e⟩ := h5 g hg
  refine ⟨(pk_un (by omega)).trans a, (pk_un (by omega)).trans b, ?_, (pk_un (by omega)).trans d, (pk_un (by omega)).trans e⟩
  show upd s (8 + 5 * i + 2) (nI x) (8 + 5 * g + 2) = nI (f' g)
  rw [he g hg]
  by_cases q : g = i
  · subst q; rw [if_pos rfl]; exact pk_us
  · rw [if_neg q, pk_un (by omega)]; exact c
theorem m_tellsNext {n : Nat} {uM : MO} {s : Nat → Int32} {t : TA} (hR : RM s t) (hO : OkT t) {g : Nat} (hg : g < tN t) : ∃ s' : Nat → Int32, fX7_tellsNext n uM s (nI g) = some s' ∧ RM s' (aTell t g) := by
  have h8 : g < 8 := Nat.lt_of_lt_of_le hg hO.1
  obtain ⟨hk5, -, hg9, ht9⟩ := hO.2.2.1 g hg
  have hto := hO.2.2.2.2
  obtain ⟨h0, h1, h2, h3, h4, h5⟩ := id hR
  have hco : aCo t g < 2 ^ 20 := by unfold aCo; repeat' split
                                    all_goals omega
  have i3 : (((8 : Int32) + ((5 : Int32) * nI g)) + (3 : Int32)) = nI (8 + 5 * g + 3) := ixM g h8 3 (by decide)
  have i2 : (((8 : Int32) + ((5 : Int32) * nI g)) + (2 : Int32)) = nI (8 + 5 * g + 2) := ixM g h8 2 (by decide)
  unfold fX7_tellsNext
  rw [m_costs hR hO hg]
  simp only [Option.bind_some, i3, i2, c3, h3]
  rw [show (99999 : Int32) = nI 99999 from rfl, show (9999 : Int32) = nI 9999 from rfl, leastI (by omega) (by decide)]
  simp only [Option.bind_some]
  rw [if_neg (nI_ok (show 8 + 5 * g + 3 < 48 by omega) (by decide)), nI_clamp (show 8 + 5 * g + 3 < 2 ^ 31 by omega), nI_clamp (show 8 + 5 * g + 2 < 2 ^ 31 by omega), pk_un (show 8 + 5 * g + 3 ≠ 3 by omega), (h5 g hg).2.2.2.1, leastI (by omega) (by decide)]
  simp only [Option.bind_some]
  have j2 : ¬ (nI (8 + 5 * g + 2) < 0 ∨ 48 ≤ 8 + 5 * g + 2) := by
    rintro (z | z)
    · exact nI_pos (by omega) z
    · omega
  have j3 : ¬ (nI (8 + 5 * g + 3) < 0 ∨ 48 ≤ 8 + 5 * g + 3) := by
    rintro (z | z)
    · exact nI_pos (by omega) z
    · omega
  rw [if_neg j3, if_neg j2, pk_un (show 8 + 5 * g + 2 ≠ 8 + 5 * g + 3 by omega), pk_un (show 8 + 5 * g + 2 ≠ 3 by omega), (h5 g hg).2.2.1, m_within (by omega) hco]
  simp only [Option.bind_some]
  rw [if_neg j2, show min 99 (tG t g - aCo t g) = tG t g - aCo t g by omega]
  refine ⟨_, rfl, ?_, ?_, ?_, ?_, ?_, ?_⟩
  · rw [pk_un (by omega), pk_un (by omega), pk_un (by omega)]; exact h0
  · rw [pk_un (by omega), pk_un (by omega), pk_un (by omega)]; exact h1
  · rw [pk_un (by omega), pk_un (by omega), pk_un (by omega)]; exact h2
  · rw [pk_un (by omega), pk_un (by omega)]; exact pk_us
  · intro i hi
    rw [pk_un (by omega), pk_un (by omega), pk_un (by omega)]; exact h4 i hi
  · intro j hj
    obtain ⟨a, b, c, d, e⟩ := h5 j hj
    refine ⟨?_, ?_, ?_, ?_, ?_⟩
    · rw [pk_un (by omega), pk_un (by omega), pk_un (by omega)]; exact a
    · rw [pk_un (by omega), pk_un (by omega), pk_un (by omega)]; exact b
    · show _ = nI (if j = g then tG t g - aCo t g else tG t j)
      by_cases q : j = g
      · subst q; rw [if_pos rfl]; exact pk_us
      · rw [if_neg q, pk_un (by omega), pk_un (by omega), pk_un (by omega)]; exact c
    · show _ = nI (if j = g then min 9999 (tT t g + 1) else tT t j)
      by_cases q : j = g
      · subst q; rw [if_pos rfl, pk_un (by omega)]; exact pk_us
      · rw [if_neg q, pk_un (by omega), pk_un (by omega), pk_un (by omega)]; exact d
    · rw [pk_un (by omega), pk_un (by omega), pk_un (by omega)]; exact e
theorem m_phL {n : Nat} {uM : MO} {t : TA} (hO : OkT t) : ∀ (k i m : Nat) (s : Nat → Int32), i + k = tN t → k < m → RM s (aPh t i) → ∃ s' : Nat → Int32, RM s' (aPh t (tN t)) ∧ lpF (fX7_goesOn_F2 n uM) m (s, nI i) = lpF (fX7_goesOn_F80 n uM) n (s', nI (tL t 0)) := by
  intro k
  induction k with
  | zero =>
    intro i m s hi hm hR
    obtain ⟨m, rfl⟩ : ∃ x, m = x + 1 := ⟨m - 1, by omega⟩
    have hN := hO.1
    have h4 : s 4 = nI (tL t 0) := hR.2.2.2.2.1 0 (by decide)
    refine ⟨s, ?_, ?_⟩
    · rw [show tN t = i by omega]; exact hR
    · rw [lpS]
      unfold fX7_goesOn_F2
      rw [c0, if_pos (show s 0 ≤ nI i by rw [hR.1]; exact nI_le (show tN t ≤ i by omega) (by omega)), c4]
      show lpF (fX7_goesOn_F80 n uM) n (s, s 4) = _
      rw [h4]
  | succ k ih =>
    intro i m s hi hm hR
    obtain ⟨m, rfl⟩ : ∃ x, m = x + 1 := ⟨m - 1, by omega⟩
    have hN := hO.1
    have hi8 : i < 8 := by omega
    have hiN : i < tN t := by omega
    have hP := ok_ph hO i
    obtain ⟨-, -, hg', -, hb'⟩ := hR.2.2.2.2.2 i hiN
    have hg : s (8 + 5 * i + 2) = nI (tG t i) := by
      rw [hg']
      show nI (if i < i then aG1 t i else tG t i) = _
      rw [if_neg (Nat.lt_irrefl i)]
    have hb : s (8 + 5 * i + 4) = nI (bitN (tD t) i) := hb'
    have g9 := (hO.2.2.1 i hiN).2.2.1
    have nx : nI i + (1 : Int32) = nI (i + 1) := nI_1 i
    obtain ⟨p1, p2⟩ := aP_le hO i
    have i4 : (((8 : Int32) + ((5 : Int32) * nI i)) + (4 : Int32)) = nI (8 + 5 * i + 4) := ixM i hi8 4 (by decide)
    have i2 : (((8 : Int32) + ((5 : Int32) * nI i)) + (2 : Int32)) = nI (8 + 5 * i + 2) := ixM i hi8 2 (by decide)
    have e1 : nI (tG t i) + (nI (aP (aPh t i) i) - nI (aM (aPh t i) i)) = nI (tG t i + aP t i) - nI (aM t i) := addT hO hiN
    have j2 : ¬ (nI (8 + 5 * i + 2) < 0 ∨ 48 ≤ 8 + 5 * i + 2) := by
      rintro (z | z)
      · exact nI_pos (by omega) z
      · omega
    have j4 : ¬ (nI (8 + 5 * i + 4) < 0 ∨ 48 ≤ 8 + 5 * i + 4) := by
      rintro (z | z)
      · exact nI_pos (by omega) z
      · omega
    rw [lpS]
    unfold fX7_goesOn_F2 fX7_goesOn_b66
    simp only [c0, i4, i2, nI_clamp (show 8 + 5 * i + 4 < 2 ^ 31 by omega), nI_clamp (show 8 + 5 * i + 2 < 2 ^ 31 by omega), hg, hb, m_takes hR hP hiN, Option.bind_some, e1, m_within (n := n) (show tG t i + aP t i < 2 ^ 20 by omega) (show aM t i < 2 ^ 20 by omega), nx]
    rw [if_neg (show ¬ s 0 ≤ nI i by rw [hR.1]; exact nI_ge hiN (show tN t < 2 ^ 31 by omega)), if_neg j4]
    by_cases hbt : (tD t).testBit i = true
    · rw [if_pos (by rw [nI_of_bit]; exact hbt)]
      repeat rw [if_neg j2]
      refine ih (i + 1) m _ (by omega) (by omega) (RM_updG (i := i) (x := tG t i) hR (fun g hg => ?_))
      by_cases e : g = i
      · subst e
        rw [if_pos (Nat.lt_succ_self g), if_pos rfl]
        unfold aG1
        rw [if_pos hbt]
      · rw [if_neg e]
        by_cases e2 : g < i
        · rw [if_pos e2, if_pos (by omega)]
        · rw [if_neg e2, if_neg (by omega)]
    · rw [if_neg (by rw [nI_of_bit]; exact hbt)]
      repeat rw [if_neg j2]
      refine ih (i + 1) m _ (by omega) (by omega) (RM_updG (i := i) (x := min 99 (tG t i + aP t i - aM t i)) hR (fun g hg => ?_))
      by_cases e : g = i
      · subst e
        rw [if_pos (Nat.lt_succ_self g), if_pos rfl]
        unfold aG1
        rw [if_neg hbt]
      · rw [if_neg e]
        by_cases e2 : g < i
        · rw [if_pos e2, if_pos (by omega)]
        · rw [if_neg e2, if_neg (by omega)]
theorem m_tellsL {n : Nat} {uM : MO} (hn : 300 ≤ n) : ∀ (b m : Nat) (s : Nat → Int32) (t : TA), OkT t → RM s t → b < 100 → b + 1 < m → ∃ s' : Nat → Int32, RM s' (aTells b t) ∧ lpF (fX7_goesOn_F80 n uM) m (s, nI b) = lpF (fX7_goesOn_F115 n uM) n (s', 0) := by
  intro b
  induction b with
  | zero =>
    intro m s t hO hR hb hm
    obtain ⟨m, rfl⟩ : ∃ x, m = x + 1 := ⟨m - 1, by omega⟩
    exact ⟨s, hR, rfl⟩
  | succ b ih =>
    intro m s t hO hR hb hm
    obtain ⟨m, rfl⟩ : ∃ x, m = x + 1 := ⟨m - 1, by omega⟩
    have px : nI (b + 1) - (1 : Int32) = nI b := nI_pred b
    rw [lpS]
    unfold fX7_goesOn_F80 fX7_goesOn_b100 fX7_goesOn_b110
    simp only [m_teller hR hO (show 8 < n by omega), Option.bind_some, px]
    rw [if_neg (show ¬ nI (b + 1) ≤ 0 from nI_nle (by omega) (by omega))]
    show ∃ s' : Nat → Int32, RM s' (match aTeller t with | none => t | some g => aTells b (aTell t g)) ∧ _
    cases hT : aTeller t with
    | none =>
      obtain ⟨m, rfl⟩ : ∃ x, m = x + 1 := ⟨m - 1, by omega⟩
      exact ⟨s, hR, rfl⟩
    | some g =>
      have hg : g < tN t := by have := fst_some _ _ hT; omega
      have hN := hO.1
      obtain ⟨s', e', hR'⟩ := m_tellsNext (n := n) (uM := uM) hR hO hg
      simp only [e', Option.bind_some]
      rw [if_pos (show (0 : Int32) ≤ nI g from nI_pos' (by omega)), if_neg (show ¬ nI g < 0 from nI_pos (by omega))]
      exact ih m s' (aTell t g) (ok_tell hO g) hR' (by omega) (by omega)
theorem bit_or : ∀ m, m < 256 → ∀ g, g < 8 → ∀ j, j < 8 → bitN (m ||| 2 ^ g) j = if j = g then 1 else bitN m j := by decide +kernel
theorem orbI : ∀ b, b < 2 → (nI b ||| (0 : Int32)) = nI b ∧ (nI b ||| (1 : Int32)) = nI 1 := by decide +kernel
theorem RM_updD {s : Nat → Int32} {t : TA} {d d' i x : Nat} (h : RM s (setD t d)) (he : ∀ g, g < tN t → bitN d' g = if g = i then x else bitN d g) : RM (upd s (8 + 5 * i + 4) (nI x)) (setD t d') := by
  obtain ⟨h0, h1, h2, h3, h4, h5⟩ := h
  refine ⟨(pk_un (by omega)).trans h0, (pk_un (by omega)).trans h1, (pk_un (by omega)).trans h2, (pk_un (by omega)).trans h3, fun j hj => (pk_un (by omega)).trans (h4 j hj), fun g hg => ?_⟩
  obtain ⟨a, b, c, d2, e⟩ := h5 g hg
  refine ⟨(pk_un (by omega)).trans a, (pk_un (by omega)).trans b, (pk_un (by omega)).trans c, (pk_un (by omega)).trans d2, ?_⟩
  show upd s (8 + 5 * i + 4) (nI x) (8 + 5 * g + 4) = nI (bitN d' g)
  rw [he g hg]
  by_cases q : g = i
  · subst q; rw [if_pos rfl]; exact pk_us
  · rw [if_neg q, pk_un (by omega)]; exact e
theorem m_endL {n : Nat} {uM : MO} {t : TA} (hO : OkT t) : ∀ (k i m : Nat) (s : Nat → Int32), i + k = tN t → k < m → RM s (setD t (aDr t i)) → ∃ s' : Nat → Int32, RM s' (aEnd t) ∧ lpF (fX7_goesOn_F115 n uM) m (s, nI i) = some s' := by
  intro k
  induction k with
  | zero =>
    intro i m s hi hm hR
    obtain ⟨m, rfl⟩ : ∃ x, m = x + 1 := ⟨m - 1, by omega⟩
    have hN := hO.1
    have e : i = tN t := by omega
    subst e
    obtain ⟨h0, h1, h2, h3, h4, h5⟩ := hR
    rw [lpS]
    unfold fX7_goesOn_F115
    rw [c0, c1, if_pos (show s 0 ≤ nI (tN t) by rw [h0]; exact nI_le (Nat.le_refl _) (by omega))]
    refine ⟨_, ⟨(pk_un (by omega)).trans h0, ?_, (pk_un (by omega)).trans h2, (pk_un (by omega)).trans h3, fun j hj => (pk_un (by omega)).trans (h4 j hj), fun g hg => ?_⟩, rfl⟩
    · show upd s 1 (s 1 + 1) 1 = tC t + 1
      rw [pk_us, h1]
      rfl
    · obtain ⟨a, b, c, d, e⟩ := h5 g hg
      exact ⟨(pk_un (by omega)).trans a, (pk_un (by omega)).trans b, (pk_un (by omega)).trans c, (pk_un (by omega)).trans d, (pk_un (by omega)).trans e⟩
  | succ k ih =>
    intro i m s hi hm hR
    obtain ⟨m, rfl⟩ : ∃ x, m = x + 1 := ⟨m - 1, by omega⟩
    have hN := hO.1
    have hi8 : i < 8 := by omega
    have hiN : i < tN t := by omega
    obtain ⟨-, -, hg', -, hb'⟩ := hR.2.2.2.2.2 i hiN
    have hg : s (8 + 5 * i + 2) = nI (tG t i) := hg'
    have hb : s (8 + 5 * i + 4) = nI (bitN (aDr t i) i) := hb'
    have g9 := (hO.2.2.1 i hiN).2.2.1
    have hd := hO.2.1.2.2.1
    have hl : s 6 = nI (tL t 2) := hR.2.2.2.2.1 2 (by decide)
    have nx : nI i + (1 : Int32) = nI (i + 1) := nI_1 i
    have hm8 : aDr t i < 256 := Nat.lt_of_lt_of_le (aDr_lt hO i (by omega)) (Nat.pow_le_pow_right (by decide) hN)
    have i4 : (((8 : Int32) + ((5 : Int32) * nI i)) + (4 : Int32)) = nI (8 + 5 * i + 4) := ixM i hi8 4 (by decide)
    have j4 : ¬ (nI (8 + 5 * i + 4) < 0 ∨ 48 ≤ 8 + 5 * i + 4) := by
      rintro (z | z)
      · exact nI_pos (by omega) z
      · omega
    have hits : fX7_its n uM s (nI i) (2 : Int32) = some (nI (tG t i)) := (m_its (w := 2) hi8 (by decide)).trans (congrArg some hg)
    obtain ⟨o0, o1⟩ := orbI (bitN (aDr t i) i) (by have := bitN_le (aDr t i) i; omega)
    rw [lpS]
    unfold fX7_goesOn_F115 fX7_goesOn_b160
    simp only [c0, c6, i4, nI_clamp (show 8 + 5 * i + 4 < 2 ^ 31 by omega), hits, Option.bind_some, hb, hl, nx, o0, o1]
    rw [if_neg (show ¬ s 0 ≤ nI i by rw [hR.1]; exact nI_ge hiN (show tN t < 2 ^ 31 by omega)), if_neg j4, if_neg j4]
    by_cases hc : tG t i ≤ tL t 2
    · rw [if_pos (nI_le hc (by omega))]
      refine ih (i + 1) m _ (by omega) (by omega) (RM_updD (i := i) hR (fun g hg => ?_))
      have : aDr t (i + 1) = aDr t i := by
        show (if tL t 2 < tG t i then aDr t i ||| 2 ^ i else aDr t i) = _
        rw [if_neg (by omega)]
      rw [this]
      split
      · rename_i e; rw [e]
      · rfl
    · rw [if_neg (nI_ge (by omega) (by omega)), if_neg j4]
      refine ih (i + 1) m _ (by omega) (by omega) (RM_updD (i := i) hR (fun g hg => ?_))
      have : aDr t (i + 1) = aDr t i ||| 2 ^ i := by
        show (if tL t 2 < tG t i then aDr t i ||| 2 ^ i else aDr t i) = _
        rw [if_pos (by omega)]
      rw [this]
      exact bit_or _ hm8 _ hi8 _ (by omega)
/-- A COURSE, by the reference -/
theorem m_serve {n : Nat} {uM : MO} (hn : 300 ≤ n) {s : Nat → Int32} {t : TA} (hR : RM s t) (hO : OkT t) : ∃ s' : Nat → Int32, fX7_goesOn n uM s = some s' ∧ RM s' (aServe t) := by
  have hN := hO.1
  have hL := hO.2.1.1
  have h0 : RM s (aPh t 0) := RM_setG (f := tG t) hR (fun g _ => by rw [if_neg (Nat.not_lt_zero g)])
  obtain ⟨s1, h1, e1⟩ := m_phL (n := n) (uM := uM) hO (tN t) 0 n s (by omega) (by omega) h0
  obtain ⟨s2, h2, e2⟩ := m_tellsL (uM := uM) hn (tL t 0) n s1 (aPh t (tN t)) (ok_ph hO _) h1 (by omega) (by omega)
  have hN2 : tN (aTells (tL t 0) (aPh t (tN t))) = tN t := tells_N _ _
  obtain ⟨s3, h3, e3⟩ := m_endL (n := n) (uM := uM) (ok_tells (tL t 0) (ok_ph hO (tN t))) (tN t) 0 n s2 (by rw [hN2]; omega) (by omega) h2
  refine ⟨s3, ?_, h3⟩
  unfold fX7_goesOn
  exact e1.trans (e2.trans e3)
