/-! PURE, 24: names and numbers on the tape -/
def chN : List (List Nat) := [[103, 117, 101, 115, 116], [110, 105, 101, 99, 101], [97, 99, 116, 117, 97, 114, 121], [104, 101, 105, 114], [99, 108, 101, 114, 107], [103, 105, 114, 108], [119, 105, 116, 104], [103, 111, 110, 101], [100, 114, 111, 119, 110, 101, 100], [116, 111, 108, 100], [98, 114, 101, 97, 116, 104], [115, 97, 108, 116], [100, 101, 112, 116, 104], [115, 108, 105, 112]]
def ch (j i : Nat) : Nat := (chN.getD j []).getD i 0
def ln (j : Nat) : Nat := gkL.getD j 0
theorem chI : ∀ j, j < 14 → ∀ i, i < 7 → ((gkB.getD j []).getD i 0 &&& 255) = nI (ch j i) ∧ ch j i < 128 := by decide +kernel
theorem ln7 : ∀ j, j < 14 → ln j ≤ 7 ∧ 4 ≤ ln j := by decide +kernel
/-- the token at f is the name j -/
def nm (b : Nat → Nat) (L f j : Nat) : Prop := tS b L f = 1 ∧ tQ b L f = tP b L f + ln j ∧ ∀ i, i < ln j → b (tP b L f + i) = ch j i
abbrev kAt (by' : Nat → Int32) (b : Nat → Nat) (L f : Nat) (num : Int32) : TP := (by', nI L, nI (tP b L f), nI (tQ b L f), nI (tS b L f), num)
abbrev mAt (uM : MO) (b : Nat → Nat) (L f : Nat) (wr : Int32) : MO := mT uM L (tS b L f) (tP b L f) (tQ b L f) (nI (tV b L f)) wr
theorem k_nameL {n : Nat} {by' tp : Nat → Int32} {b : Nat → Nat} {L f j : Nat} {num : Int32} (hB : HB by' tp b L) (hj : j < 14) (hq : tP b L f + ln j ≤ L) : ∀ (k i m : Nat), i + k = ln j → k < m → (lpF (fX5_isName_F28 n (kAt by' b L f num) j) m (nI i) = some 1 ∧ ∀ x, i ≤ x → x < ln j → b (tP b L f + x) = ch j x) ∨ (lpF (fX5_isName_F28 n (kAt by' b L f num) j) m (nI i) = some 0 ∧ ¬ ∀ x, i ≤ x → x < ln j → b (tP b L f + x) = ch j x) := by
  have hL := hB.1
  have h7 := (ln7 j hj).1
  intro k
  induction k with
  | zero =>
    intro i m hi hm
    obtain ⟨m, rfl⟩ : ∃ x, m = x + 1 := ⟨m - 1, by omega⟩
    left
    refine ⟨?_, fun x h1 h2 => by omega⟩
    rw [lpS]
    unfold fX5_isName_F28 fJ0_length_8abf5
    simp only [Option.bind_some]
    rw [if_pos (show nI (gkL.getD j 0) ≤ nI i from nI_le (show ln j ≤ i by omega) (by omega))]
  | succ k ih =>
    intro i m hi hm
    obtain ⟨m, rfl⟩ : ∃ x, m = x + 1 := ⟨m - 1, by omega⟩
    have ih' := ih (i + 1) m (by omega) (by omega)
    obtain ⟨h1, h2, -⟩ := hB.2 (tP b L f + i) (by omega)
    obtain ⟨e1, e2⟩ := chI j hj i (by omega)
    rw [lpS]
    generalize lpF (fX5_isName_F28 n (kAt by' b L f num) j) m = kk at *
    unfold fX5_isName_F28 fJ0_length_8abf5 fJ0_charAt_5068e
    simp only [Option.bind_some, nI_add, nI_clamp (show tP b L f + i < 2 ^ 31 by omega), nI_clamp (show i < 2 ^ 31 by omega), h2, e1, show nI i + (1 : Int32) = nI (i + 1) from nI_1 i]
    rw [if_neg (show ¬ nI (gkL.getD j 0) ≤ nI i from nI_ge (show i < ln j by omega) (by show ln j < _; omega)), if_neg (nI_ok2 (show tP b L f + i < 200 by omega) (by decide)), if_neg (show ¬ (nI i < 0 ∨ gkL.getD j 0 ≤ i) from nI_ok2 (show i < ln j by omega) (by show ln j < _; omega))]
    simp only [Option.bind_some, kEq h1 e2]
    by_cases q : b (tP b L f + i) = ch j i
    · rw [if_pos q]
      rcases ih' with ⟨a, c⟩ | ⟨a, c⟩
      · left
        refine ⟨a, fun x x1 x2 => ?_⟩
        by_cases e : x = i
        · rw [e, q]
        · exact c x (by omega) x2
      · right
        exact ⟨a, fun z => c (fun x x1 x2 => z x (by omega) x2)⟩
    · rw [if_neg q]
      right
      exact ⟨rfl, fun z => q (z i (Nat.le_refl _) (by omega))⟩
theorem k_name {n : Nat} (hn : 300 ≤ n) {by' tp : Nat → Int32} {b : Nat → Nat} {L f j : Nat} {num : Int32} (hB : HB by' tp b L) (hf : f ≤ L) (hj : j < 14) : (fX5_isName n (kAt by' b L f num) j = some 1 ∧ nm b L f j) ∨ (fX5_isName n (kAt by' b L f num) j = some 0 ∧ ¬ nm b L f j) := by
  have hL := hB.1
  obtain ⟨p1, p2⟩ := tP_b (b := b) hf
  obtain ⟨q1, q2, -⟩ := tQ_b (b := b) hf
  have h7 := (ln7 j hj).1
  have hs : tS b L f ≤ 3 := sN_le _ _ _
  unfold fX5_isName fJ0_length_8abf5
  simp only [Option.bind_some]
  by_cases s1 : tS b L f = 1
  · rw [if_pos (show nI (tS b L f) = (1 : Int32) by rw [s1]; rfl), pk_sub q1]
    by_cases hl : tQ b L f - tP b L f = ln j
    · rw [if_pos (show nI (tQ b L f - tP b L f) = nI (gkL.getD j 0) from congrArg nI hl)]
      rcases k_nameL (n := n) (num := num) hB hj (f := f) (by omega) (ln j) 0 n (by omega) (by omega) with ⟨a, c⟩ | ⟨a, c⟩
      · left
        exact ⟨a, s1, by omega, fun i hi => c i (Nat.zero_le _) hi⟩
      · right
        exact ⟨a, fun z => c (fun x _ h => z.2.2 x h)⟩
    · rw [if_neg (show ¬ nI (tQ b L f - tP b L f) = nI (gkL.getD j 0) from nI_inj (by omega) (by show ln j < _; omega) hl)]
      right
      exact ⟨rfl, fun z => hl (by have := z.2.1; omega)⟩
  · rw [if_neg (show ¬ nI (tS b L f) = (1 : Int32) from nI_inj (b := 1) (by omega) (by decide) s1)]
    right
    exact ⟨rfl, fun z => s1 z.1⟩
-- the reference's
theorem m_name {n : Nat} {uM : MO} {by' tp : Nat → Int32} {b : Nat → Nat} {L f : Nat} {wr : Int32} (hB : HB by' tp b L) (hf : f ≤ L) {l a0 a1 a2 a3 : Nat} (hl : 3 ≤ l) (hl9 : l < 256) (h0 : a0 < 256) (h1 : a1 < 256) (h2 : a2 < 256) (h3 : a3 < 256) : (fX7_isName n (mAt uM b L f wr) tp (nI l) (nI a0) (nI a1) (nI a2) (nI a3) = some 1 ∧ tS b L f = 1 ∧ tQ b L f = tP b L f + l ∧ b (tP b L f) = a0 ∧ b (tP b L f + 1) = a1 ∧ b (tP b L f + 2) = a2 ∧ b (tP b L f + (l - 1)) = a3) ∨ (fX7_isName n (mAt uM b L f wr) tp (nI l) (nI a0) (nI a1) (nI a2) (nI a3) = some 0 ∧ ¬ (tS b L f = 1 ∧ tQ b L f = tP b L f + l ∧ b (tP b L f) = a0 ∧ b (tP b L f + 1) = a1 ∧ b (tP b L f + 2) = a2 ∧ b (tP b L f + (l - 1)) = a3)) := by
  have hL := hB.1
  obtain ⟨p1, p2⟩ := tP_b (b := b) hf
  obtain ⟨q1, q2, -⟩ := tQ_b (b := b) hf
  have hs : tS b L f ≤ 3 := sN_le _ _ _
  unfold fX7_isName
  rw [show (mAt uM b L f wr).2.2.1 = nI (tS b L f) from rfl, show (mAt uM b L f wr).2.2.2.1 = nI (tP b L f) from rfl, show (mAt uM b L f wr).2.2.2.2.1 = nI (tQ b L f) from rfl]
  by_cases s1 : tS b L f = 1
  rotate_left 1
  · rw [if_neg (show ¬ nI (tS b L f) = (1 : Int32) from nI_inj (b := 1) (by omega) (by decide) s1)]
    exact Or.inr ⟨rfl, fun z => s1 z.1⟩
  rw [if_pos (show nI (tS b L f) = (1 : Int32) by rw [s1]; rfl), pk_sub q1]
  by_cases hl' : tQ b L f = tP b L f + l
  rotate_left 1
  · rw [if_neg (nI_inj (by omega) (by omega) (show ¬ tQ b L f - tP b L f = l by omega))]
    exact Or.inr ⟨rfl, fun z => hl' z.2.1⟩
  have e1 : nI (tP b L f) + (1 : Int32) = nI (tP b L f + 1) := nI_add _ 1
  have e2 : nI (tP b L f) + (2 : Int32) = nI (tP b L f + 2) := nI_add _ 2
  have e3 : nI (tQ b L f) - (1 : Int32) = nI (tP b L f + (l - 1)) := by
    rw [show nI (tQ b L f) - (1 : Int32) = nI (tQ b L f - 1) from pk_sub (b := 1) (by omega), hl']
    exact congrArg nI (by omega)
  rw [if_pos (congrArg nI (show tQ b L f - tP b L f = l by omega)), e1, e2, e3, m_byteAt (uM := mAt uM b L f wr) hB rfl (show tP b L f ≤ 200 by omega), m_byteAt (uM := mAt uM b L f wr) hB rfl (show tP b L f + 1 ≤ 200 by omega), m_byteAt (uM := mAt uM b L f wr) hB rfl (show tP b L f + 2 ≤ 200 by omega), m_byteAt (uM := mAt uM b L f wr) hB rfl (show tP b L f + (l - 1) ≤ 200 by omega), if_pos (show tP b L f < L by omega), if_pos (show tP b L f + 1 < L by omega), if_pos (show tP b L f + 2 < L by omega), if_pos (show tP b L f + (l - 1) < L by omega)]
  simp only [Option.bind_some, mEq (hB.2 (tP b L f) (by omega)).1 h0, mEq (hB.2 (tP b L f + 1) (by omega)).1 h1, mEq (hB.2 (tP b L f + 2) (by omega)).1 h2, mEq (hB.2 (tP b L f + (l - 1)) (by omega)).1 h3]
  by_cases z0 : b (tP b L f) = a0
  rotate_left 1
  · rw [if_neg z0]; exact Or.inr ⟨rfl, fun z => z0 z.2.2.1⟩
  rw [if_pos z0]
  by_cases z1 : b (tP b L f + 1) = a1
  rotate_left 1
  · rw [if_neg z1]; exact Or.inr ⟨rfl, fun z => z1 z.2.2.2.1⟩
  rw [if_pos z1]
  by_cases z2 : b (tP b L f + 2) = a2
  rotate_left 1
  · rw [if_neg z2]; exact Or.inr ⟨rfl, fun z => z2 z.2.2.2.2.1⟩
  rw [if_pos z2]
  by_cases z3 : b (tP b L f + (l - 1)) = a3
  rotate_left 1
  · rw [if_neg z3]; exact Or.inr ⟨rfl, fun z => z3 z.2.2.2.2.2⟩
  rw [if_pos z3]
  exact Or.inl ⟨rfl, s1, hl', z0, z1, z2, z3⟩
theorem m_same {n : Nat} {uM : MO} {by' tp : Nat → Int32} {b : Nat → Nat} {L f : Nat} {wr : Int32} (hB : HB by' tp b L) {o a0 a1 a2 : Nat} (ho : tP b L f + o + 2 < L) (h0 : a0 < 256) (h1 : a1 < 256) (h2 : a2 < 256) : (fX7_isSame n (mAt uM b L f wr) tp (nI o) (nI a0) (nI a1) (nI a2) = some 1 ∧ b (tP b L f + o) = a0 ∧ b (tP b L f + (o + 1)) = a1 ∧ b (tP b L f + (o + 2)) = a2) ∨ (fX7_isSame n (mAt uM b L f wr) tp (nI o) (nI a0) (nI a1) (nI a2) = some 0 ∧ ¬ (b (tP b L f + o) = a0 ∧ b (tP b L f + (o + 1)) = a1 ∧ b (tP b L f + (o + 2)) = a2)) := by
  have hL := hB.1
  unfold fX7_isSame
  have e1 : nI (tP b L f + o) + (1 : Int32) = nI (tP b L f + (o + 1)) := nI_add _ 1
  have e2 : nI (tP b L f + o) + (2 : Int32) = nI (tP b L f + (o + 2)) := nI_add _ 2
  rw [show (mAt uM b L f wr).2.2.2.1 = nI (tP b L f) from rfl, nI_add, e1, e2, m_byteAt (uM := mAt uM b L f wr) hB rfl (show tP b L f + o ≤ 200 by omega), m_byteAt (uM := mAt uM b L f wr) hB rfl (show tP b L f + (o + 1) ≤ 200 by omega), m_byteAt (uM := mAt uM b L f wr) hB rfl (show tP b L f + (o + 2) ≤ 200 by omega), if_pos (show tP b L f + o < L by omega), if_pos (show tP b L f + (o + 1) < L by omega), if_pos (show tP b L f + (o + 2) < L by omega)]
  simp only [Option.bind_some, mEq (hB.2 (tP b L f + o) (by omega)).1 h0, mEq (hB.2 (tP b L f + (o + 1)) (by omega)).1 h1, mEq (hB.2 (tP b L f + (o + 2)) (by omega)).1 h2]
  by_cases z0 : b (tP b L f + o) = a0
  rotate_left 1
  · rw [if_neg z0]; exact Or.inr ⟨rfl, fun z => z0 z.1⟩
  rw [if_pos z0]
  by_cases z1 : b (tP b L f + (o + 1)) = a1
  rotate_left 1
  · rw [if_neg z1]; exact Or.inr ⟨rfl, fun z => z1 z.2.1⟩
  rw [if_pos z1]
  by_cases z2 : b (tP b L f + (o + 2)) = a2
  rotate_left 1
  · rw [if_neg z2]; exact Or.inr ⟨rfl, fun z => z2 z.2.2⟩
  rw [if_pos z2]
  exact Or.inl ⟨rfl, z0, z1, z2⟩
-- names of four, five, six, seven letters
theorem nm4 {b : Nat → Nat} {L f j : Nat} (h : ln j = 4) : nm b L f j ↔ (tS b L f = 1 ∧ tQ b L f = tP b L f + 4 ∧ b (tP b L f) = ch j 0 ∧ b (tP b L f + 1) = ch j 1 ∧ b (tP b L f + 2) = ch j 2 ∧ b (tP b L f + 3) = ch j 3) := by
  unfold nm
  rw [h]
  constructor
  · rintro ⟨a, c, d⟩
    exact ⟨a, c, d 0 (by decide), d 1 (by decide), d 2 (by decide), d 3 (by decide)⟩
  · rintro ⟨a, c, d0, d1, d2, d3⟩
    refine ⟨a, c, fun i hi => ?_⟩
    rcases (show i = 0 ∨ i = 1 ∨ i = 2 ∨ i = 3 by omega) with rfl | rfl | rfl | rfl
    · exact d0
    · exact d1
    · exact d2
    · exact d3
theorem nm5 {b : Nat → Nat} {L f j : Nat} (h : ln j = 5) : nm b L f j ↔ ((tS b L f = 1 ∧ tQ b L f = tP b L f + 5 ∧ b (tP b L f) = ch j 0 ∧ b (tP b L f + 1) = ch j 1 ∧ b (tP b L f + 2) = ch j 2 ∧ b (tP b L f + 4) = ch j 4) ∧ b (tP b L f + 3) = ch j 3) := by
  unfold nm
  rw [h]
  constructor
  · rintro ⟨a, c, d⟩
    exact ⟨⟨a, c, d 0 (by decide), d 1 (by decide), d 2 (by decide), d 4 (by decide)⟩, d 3 (by decide)⟩
  · rintro ⟨⟨a, c, d0, d1, d2, d4⟩, d3⟩
    refine ⟨a, c, fun i hi => ?_⟩
    rcases (show i = 0 ∨ i = 1 ∨ i = 2 ∨ i = 3 ∨ i = 4 by omega) with rfl | rfl | rfl | rfl | rfl
    · exact d0
    · exact d1
    · exact d2
    · exact d3
    · exact d4
theorem nm6 {b : Nat → Nat} {L f j : Nat} (h : ln j = 6) : nm b L f j ↔ ((tS b L f = 1 ∧ tQ b L f = tP b L f + 6 ∧ b (tP b L f) = ch j 0 ∧ b (tP b L f + 1) = ch j 1 ∧ b (tP b L f + 2) = ch j 2 ∧ b (tP b L f + 5) = ch j 5) ∧ b (tP b L f + 3) = ch j 3 ∧ b (tP b L f + 4) = ch j 4 ∧ b (tP b L f + 5) = ch j 5) := by
  unfold nm
  rw [h]
  constructor
  · rintro ⟨a, c, d⟩
    exact ⟨⟨a, c, d 0 (by decide), d 1 (by decide), d 2 (by decide), d 5 (by decide)⟩, d 3 (by decide), d 4 (by decide), d 5 (by decide)⟩
  · rintro ⟨⟨a, c, d0, d1, d2, d5⟩, d3, d4, -⟩
    refine ⟨a, c, fun i hi => ?_⟩
    rcases (show i = 0 ∨ i = 1 ∨ i = 2 ∨ i = 3 ∨ i = 4 ∨ i = 5 by omega) with rfl | rfl | rfl | rfl | rfl | rfl
    · exact d0
    · exact d1
    · exact d2
    · exact d3
    · exact d4
    · exact d5
theorem nm7 {b : Nat → Nat} {L f j : Nat} (h : ln j = 7) : nm b L f j ↔ ((tS b L f = 1 ∧ tQ b L f = tP b L f + 7 ∧ b (tP b L f) = ch j 0 ∧ b (tP b L f + 1) = ch j 1 ∧ b (tP b L f + 2) = ch j 2 ∧ b (tP b L f + 6) = ch j 6) ∧ b (tP b L f + 3) = ch j 3 ∧ b (tP b L f + 4) = ch j 4 ∧ b (tP b L f + 5) = ch j 5) := by
  unfold nm
  rw [h]
  constructor
  · rintro ⟨a, c, d⟩
    exact ⟨⟨a, c, d 0 (by decide), d 1 (by decide), d 2 (by decide), d 6 (by decide)⟩, d 3 (by decide), d 4 (by decide), d 5 (by decide)⟩
  · rintro ⟨⟨a, c, d0, d1, d2, d6⟩, d3, d4, d5⟩
    refine ⟨a, c, fun i hi => ?_⟩
    rcases (show i = 0 ∨ i = 1 ∨ i = 2 ∨ i = 3 ∨ i = 4 ∨ i = 5 ∨ i = 6 by omega) with rfl | rfl | rfl | rfl | rfl | rfl | rfl
    · exact d0
    · exact d1
    · exact d2
    · exact d3
    · exact d4
    · exact d5
    · exact d6
def Tst (o : Option Int32) (p : Prop) : Prop := (o = some 1 ∧ p) ∨ (o = some 0 ∧ ¬ p)
theorem m_four {n : Nat} {uM : MO} {by' tp : Nat → Int32} {b : Nat → Nat} {L f j : Nat} {wr : Int32} (hB : HB by' tp b L) (hf : f ≤ L) (hj : j < 14) (hl : ln j = 4) : Tst (fX7_isFour n (mAt uM b L f wr) tp (nI (ch j 0)) (nI (ch j 1)) (nI (ch j 2)) (nI (ch j 3))) (nm b L f j) := by
  have k0 := (chI j hj 0 (by decide)).2
  have k1 := (chI j hj 1 (by decide)).2
  have k2 := (chI j hj 2 (by decide)).2
  have k3 := (chI j hj 3 (by decide)).2
  unfold fX7_isFour
  rcases m_name (n := n) (uM := uM) (wr := wr) hB hf (l := 4) (a0 := ch j 0) (a1 := ch j 1) (a2 := ch j 2) (a3 := ch j 3) (by decide) (by decide) (by omega) (by omega) (by omega) (by omega) with ⟨e, z⟩ | ⟨e, z⟩
  · left
    rw [show fX7_isName n (mAt uM b L f wr) tp 4 (nI (ch j 0)) (nI (ch j 1)) (nI (ch j 2)) (nI (ch j 3)) = _ from e]
    exact ⟨rfl, (nm4 hl).mpr z⟩
  · right
    rw [show fX7_isName n (mAt uM b L f wr) tp 4 (nI (ch j 0)) (nI (ch j 1)) (nI (ch j 2)) (nI (ch j 3)) = _ from e]
    exact ⟨rfl, fun q => z ((nm4 hl).mp q)⟩
theorem m_five {n : Nat} {uM : MO} {by' tp : Nat → Int32} {b : Nat → Nat} {L f j : Nat} {wr : Int32} (hB : HB by' tp b L) (hf : f ≤ L) (hj : j < 14) (hl : ln j = 5) : Tst (fX7_isFive n (mAt uM b L f wr) tp (nI (ch j 0)) (nI (ch j 1)) (nI (ch j 2)) (nI (ch j 3)) (nI (ch j 4))) (nm b L f j) := by
  have hL := hB.1
  have k0 := (chI j hj 0 (by decide)).2
  have k1 := (chI j hj 1 (by decide)).2
  have k2 := (chI j hj 2 (by decide)).2
  have k3 := (chI j hj 3 (by decide)).2
  have k4 := (chI j hj 4 (by decide)).2
  obtain ⟨q1, q2, -⟩ := tQ_b (b := b) hf
  unfold fX7_isFive
  rcases m_name (n := n) (uM := uM) (wr := wr) hB hf (l := 5) (a0 := ch j 0) (a1 := ch j 1) (a2 := ch j 2) (a3 := ch j 4) (by decide) (by decide) (by omega) (by omega) (by omega) (by omega) with ⟨e, z⟩ | ⟨e, z⟩
  · rw [show fX7_isName n (mAt uM b L f wr) tp 5 (nI (ch j 0)) (nI (ch j 1)) (nI (ch j 2)) (nI (ch j 4)) = _ from e]
    have hq := z.2.1
    have e3 : nI (tP b L f) + (3 : Int32) = nI (tP b L f + 3) := nI_add _ 3
    simp only [Option.bind_some, if_neg i10]
    rw [show (mAt uM b L f wr).2.2.2.1 = nI (tP b L f) from rfl, e3, m_byteAt (uM := mAt uM b L f wr) hB rfl (show tP b L f + 3 ≤ 200 by omega), if_pos (show tP b L f + 3 < L by omega)]
    simp only [Option.bind_some, mEq (hB.2 (tP b L f + 3) (by omega)).1 (show ch j 3 < 256 by omega)]
    by_cases z3 : b (tP b L f + 3) = ch j 3
    · rw [if_pos z3]; exact Or.inl ⟨rfl, (nm5 hl).mpr ⟨z, z3⟩⟩
    · rw [if_neg z3]; exact Or.inr ⟨rfl, fun q => z3 ((nm5 hl).mp q).2⟩
  · rw [show fX7_isName n (mAt uM b L f wr) tp 5 (nI (ch j 0)) (nI (ch j 1)) (nI (ch j 2)) (nI (ch j 4)) = _ from e]
    exact Or.inr ⟨rfl, fun q => z ((nm5 hl).mp q).1⟩
/-- seven letters: first, then the three in the middle -/
theorem m_seven {n : Nat} {uM : MO} {by' tp : Nat → Int32} {b : Nat → Nat} {L f j : Nat} {wr : Int32} (hB : HB by' tp b L) (hf : f ≤ L) (hj : j < 14) (hl : ln j = 7) : (fX7_isName n (mAt uM b L f wr) tp 7 (nI (ch j 0)) (nI (ch j 1)) (nI (ch j 2)) (nI (ch j 6)) = some 0 ∧ ¬ nm b L f j) ∨ (fX7_isName n (mAt uM b L f wr) tp 7 (nI (ch j 0)) (nI (ch j 1)) (nI (ch j 2)) (nI (ch j 6)) = some 1 ∧ Tst (fX7_isSame n (mAt uM b L f wr) tp 3 (nI (ch j 3)) (nI (ch j 4)) (nI (ch j 5))) (nm b L f j)) := by
  have hL := hB.1
  have k0 := (chI j hj 0 (by decide)).2
  have k1 := (chI j hj 1 (by decide)).2
  have k2 := (chI j hj 2 (by decide)).2
  have k3 := (chI j hj 3 (by decide)).2
  have k4 := (chI j hj 4 (by decide)).2
  have k5 := (chI j hj 5 (by decide)).2
  have k6 := (chI j hj 6 (by decide)).2
  obtain ⟨q1, q2, -⟩ := tQ_b (b := b) hf
  rcases m_name (n := n) (uM := uM) (wr := wr) hB hf (l := 7) (a0 := ch j 0) (a1 := ch j 1) (a2 := ch j 2) (a3 := ch j 6) (by decide) (by decide) (by omega) (by omega) (by omega) (by omega) with ⟨e, z⟩ | ⟨e, z⟩
  · right
    refine ⟨e, ?_⟩
    have hq := z.2.1
    rcases m_same (n := n) (uM := uM) (f := f) (wr := wr) hB (o := 3) (a0 := ch j 3) (a1 := ch j 4) (a2 := ch j 5) (by omega) (by omega) (by omega) (by omega) with ⟨e2, z2⟩ | ⟨e2, z2⟩
    · exact Or.inl ⟨e2, (nm7 hl).mpr ⟨z, z2⟩⟩
    · exact Or.inr ⟨e2, fun q => z2 ((nm7 hl).mp q).2⟩
  · exact Or.inl ⟨e, fun q => z ((nm7 hl).mp q).1⟩
theorem m_six {n : Nat} {uM : MO} {by' tp : Nat → Int32} {b : Nat → Nat} {L f j : Nat} {wr : Int32} (hB : HB by' tp b L) (hf : f ≤ L) (hj : j < 14) (hl : ln j = 6) : (fX7_isName n (mAt uM b L f wr) tp 6 (nI (ch j 0)) (nI (ch j 1)) (nI (ch j 2)) (nI (ch j 5)) = some 0 ∧ ¬ nm b L f j) ∨ (fX7_isName n (mAt uM b L f wr) tp 6 (nI (ch j 0)) (nI (ch j 1)) (nI (ch j 2)) (nI (ch j 5)) = some 1 ∧ Tst (fX7_isSame n (mAt uM b L f wr) tp 3 (nI (ch j 3)) (nI (ch j 4)) (nI (ch j 5))) (nm b L f j)) := by
  have hL := hB.1
  have k0 := (chI j hj 0 (by decide)).2
  have k1 := (chI j hj 1 (by decide)).2
  have k2 := (chI j hj 2 (by decide)).2
  have k3 := (chI j hj 3 (by decide)).2
  have k4 := (chI j hj 4 (by decide)).2
  have k5 := (chI j hj 5 (by decide)).2
  obtain ⟨q1, q2, -⟩ := tQ_b (b := b) hf
  rcases m_name (n := n) (uM := uM) (wr := wr) hB hf (l := 6) (a0 := ch j 0) (a1 := ch j 1) (a2 := ch j 2) (a3 := ch j 5) (by decide) (by decide) (by omega) (by omega) (by omega) (by omega) with ⟨e, z⟩ | ⟨e, z⟩
  · right
    refine ⟨e, ?_⟩
    have hq := z.2.1
    rcases m_same (n := n) (uM := uM) (f := f) (wr := wr) hB (o := 3) (a0 := ch j 3) (a1 := ch j 4) (a2 := ch j 5) (by omega) (by omega) (by omega) (by omega) with ⟨e2, z2⟩ | ⟨e2, z2⟩
    · exact Or.inl ⟨e2, (nm6 hl).mpr ⟨z, z2⟩⟩
    · exact Or.inr ⟨e2, fun q => z2 ((nm6 hl).mp q).2⟩
  · exact Or.inl ⟨e, fun q => z ((nm6 hl).mp q).1⟩
-- two names are not one
theorem nm_first {b : Nat → Nat} {L f j : Nat} (hj : j < 14) (h : nm b L f j) : b (tP b L f) = ch j 0 := h.2.2 0 (by have := (ln7 j hj).2; omega)
theorem p_kind {n : Nat} (hn : 300 ≤ n) {uM : MO} {by' tp : Nat → Int32} {b : Nat → Nat} {L f : Nat} {num wr : Int32} (hB : HB by' tp b L) (hf : f ≤ L) : (∃ k, k < 6 ∧ fX5_kindNamed n (kAt by' b L f num) = some (nI k) ∧ fX7_kindHere n (mAt uM b L f wr) tp = some (nI k)) ∨ (fX5_kindNamed n (kAt by' b L f num) = some (-3) ∧ fX7_kindHere n (mAt uM b L f wr) tp = some (-1)) := by
  have kn : ∀ j, j < 14 → Tst (fX5_isName n (kAt by' b L f num) j) (nm b L f j) := fun j hj => k_name hn hB hf hj
  have g0 : Tst (fX7_isFive n (mAt uM b L f wr) tp 103 117 101 115 116) (nm b L f 0) := m_five (j := 0) hB hf (by decide) rfl
  have g1 : Tst (fX7_isFive n (mAt uM b L f wr) tp 110 105 101 99 101) (nm b L f 1) := m_five (j := 1) hB hf (by decide) rfl
  have g2 : (fX7_isName n (mAt uM b L f wr) tp 7 97 99 116 121 = some 0 ∧ ¬ nm b L f 2) ∨ (fX7_isName n (mAt uM b L f wr) tp 7 97 99 116 121 = some 1 ∧ Tst (fX7_isSame n (mAt uM b L f wr) tp 3 117 97 114) (nm b L f 2)) := m_seven (j := 2) hB hf (by decide) rfl
  have g3 : Tst (fX7_isFour n (mAt uM b L f wr) tp 104 101 105 114) (nm b L f 3) := m_four (j := 3) hB hf (by decide) rfl
  have g4 : Tst (fX7_isFive n (mAt uM b L f wr) tp 99 108 101 114 107) (nm b L f 4) := m_five (j := 4) hB hf (by decide) rfl
  have g5 : Tst (fX7_isFour n (mAt uM b L f wr) tp 103 105 114 108) (nm b L f 5) := m_four (j := 5) hB hf (by decide) rfl
  unfold fX5_kindNamed fX7_kindHere fX7_kindHere_b71
  rcases kn 0 (by decide) with ⟨a, z⟩ | ⟨a, z⟩
  · rcases g0 with ⟨c, y⟩ | ⟨c, y⟩
    · rw [a, c]; exact Or.inl ⟨0, by decide, rfl, rfl⟩
    · exact absurd z y
  rcases g0 with ⟨c, y⟩ | ⟨c, y⟩
  · exact absurd y z
  rw [a, c]
  simp only [Option.bind_some, if_true]
  clear a c z y
  rcases kn 1 (by decide) with ⟨a, z⟩ | ⟨a, z⟩
  · rcases g1 with ⟨c, y⟩ | ⟨c, y⟩
    · rw [a, c]; exact Or.inl ⟨1, by decide, rfl, rfl⟩
    · exact absurd z y
  rcases g1 with ⟨c, y⟩ | ⟨c, y⟩
  · exact absurd y z
  rw [a, c]
  simp only [Option.bind_some, if_true]
  clear a c z y
  -- the rest, behind the actuary
  have rest : ∀ (oK oM : Option Int32), oK = ((fX5_isName n (kAt by' b L f num) 3).bind fun r36 => if r36 = 0 then ((fX5_isName n (kAt by' b L f num) 4).bind fun r47 => if r47 = 0 then ((fX5_isName n (kAt by' b L f num) 5).bind fun r58 => if r58 = 0 then some (-3) else some 5) else some 4) else some 3) → oM = ((fX7_isFour n (mAt uM b L f wr) tp 104 101 105 114).bind fun r80 => if r80 = 0 then ((fX7_isFive n (mAt uM b L f wr) tp 99 108 101 114 107).bind fun r99 => if r99 = 0 then ((fX7_isFour n (mAt uM b L f wr) tp 103 105 114 108).bind fun r116 => if r116 = 0 then some (-1) else some 5) else some 4) else some 3) → (∃ k, k < 6 ∧ oK = some (nI k) ∧ oM = some (nI k)) ∨ (oK = some (-3) ∧ oM = some (-1)) := by
    intro oK oM hK hM
    rcases kn 3 (by decide) with ⟨a, z⟩ | ⟨a, z⟩
    · rcases g3 with ⟨c, y⟩ | ⟨c, y⟩
      · rw [hK, hM, a, c]; exact Or.inl ⟨3, by decide, rfl, rfl⟩
      · exact absurd z y
    rcases g3 with ⟨c, y⟩ | ⟨c, y⟩
    · exact absurd y z
    rw [a] at hK
    rw [c] at hM
    clear a c z y
    rcases kn 4 (by decide) with ⟨a, z⟩ | ⟨a, z⟩
    · rcases g4 with ⟨c, y⟩ | ⟨c, y⟩
      · rw [hK, hM, a, c]; exact Or.inl ⟨4, by decide, rfl, rfl⟩
      · exact absurd z y
    rcases g4 with ⟨c, y⟩ | ⟨c, y⟩
    · exact absurd y z
    rw [a] at hK
    rw [c] at hM
    clear a c z y
    rcases kn 5 (by decide) with ⟨a, z⟩ | ⟨a, z⟩
    · rcases g5 with ⟨c, y⟩ | ⟨c, y⟩
      · rw [hK, hM, a, c]; exact Or.inl ⟨5, by decide, rfl, rfl⟩
      · exact absurd z y
    rcases g5 with ⟨c, y⟩ | ⟨c, y⟩
    · exact absurd y z
    rw [hK, hM, a, c]
    exact Or.inr ⟨rfl, rfl⟩
  rcases kn 2 (by decide) with ⟨a, z⟩ | ⟨a, z⟩
  · rcases g2 with ⟨c, y⟩ | ⟨c, ⟨d, y⟩ | ⟨d, y⟩⟩
    · exact absurd z y
    · rw [a, c]
      simp only [Option.bind_some, if_neg i10]
      rw [d]
      exact Or.inl ⟨2, by decide, rfl, rfl⟩
    · exact absurd z y
  · rw [a]
    rcases g2 with ⟨c, y⟩ | ⟨c, ⟨d, y⟩ | ⟨d, y⟩⟩
    · rw [c]
      simp only [Option.bind_some, if_true]
      exact rest _ _ rfl rfl
    · exact absurd y z
    · rw [c]
      simp only [Option.bind_some, if_neg i10]
      rw [d]
      simp only [Option.bind_some, if_true]
      exact rest _ _ rfl rfl
theorem p_law {n : Nat} (hn : 300 ≤ n) {uM : MO} {by' tp : Nat → Int32} {b : Nat → Nat} {L f : Nat} {num wr : Int32} (hB : HB by' tp b L) (hf : f ≤ L) : (fX5_isName n (kAt by' b L f num) 9 = some 1 ∧ fX7_lawHere n (mAt uM b L f wr) tp = some 3) ∨ (fX5_isName n (kAt by' b L f num) 9 = some 0 ∧ ((∃ k, k < 4 ∧ fX5_lawNamed n (kAt by' b L f num) = some (nI k) ∧ fX7_lawHere n (mAt uM b L f wr) tp = some (nI (4 + k))) ∨ (fX5_lawNamed n (kAt by' b L f num) = some (-3) ∧ fX7_lawHere n (mAt uM b L f wr) tp = some (-1)))) := by
  have kn : ∀ j, j < 14 → Tst (fX5_isName n (kAt by' b L f num) j) (nm b L f j) := fun j hj => k_name hn hB hf hj
  have g10 : (fX7_isName n (mAt uM b L f wr) tp 6 98 114 101 104 = some 0 ∧ ¬ nm b L f 10) ∨ (fX7_isName n (mAt uM b L f wr) tp 6 98 114 101 104 = some 1 ∧ Tst (fX7_isSame n (mAt uM b L f wr) tp 3 97 116 104) (nm b L f 10)) := m_six (j := 10) hB hf (by decide) rfl
  have g11 : Tst (fX7_isFour n (mAt uM b L f wr) tp 115 97 108 116) (nm b L f 11) := m_four (j := 11) hB hf (by decide) rfl
  have g12 : Tst (fX7_isFive n (mAt uM b L f wr) tp 100 101 112 116 104) (nm b L f 12) := m_five (j := 12) hB hf (by decide) rfl
  have g13 : Tst (fX7_isFour n (mAt uM b L f wr) tp 115 108 105 112) (nm b L f 13) := m_four (j := 13) hB hf (by decide) rfl
  have g9 : Tst (fX7_isFour n (mAt uM b L f wr) tp 116 111 108 100) (nm b L f 9) := m_four (j := 9) hB hf (by decide) rfl
  have ne : ∀ j, j < 14 → ch j 0 ≠ 116 → nm b L f 9 → ¬ nm b L f j := fun j hj hc h1 h2 => hc ((nm_first hj h2).symm.trans (nm_first (by decide) h1))
  -- the reference, when the name is not breath
  have m33 : ∀ oM, oM = fX7_lawHere_b33 n (mAt uM b L f wr) tp → ¬ nm b L f 10 → (nm b L f 9 ∧ oM = some 3) ∨ (¬ nm b L f 9 ∧ ((nm b L f 11 ∧ oM = some 5) ∨ (¬ nm b L f 11 ∧ nm b L f 12 ∧ oM = some 6) ∨ (¬ nm b L f 11 ∧ ¬ nm b L f 12 ∧ nm b L f 13 ∧ oM = some 7) ∨ (¬ nm b L f 11 ∧ ¬ nm b L f 12 ∧ ¬ nm b L f 13 ∧ oM = some (-1)))) := by
    intro oM hM h10
    rw [hM]
    unfold fX7_lawHere_b33
    rcases g11 with ⟨c, y⟩ | ⟨c, y⟩
    · rw [c]
      exact Or.inr ⟨fun z => ne 11 (by decide) (by decide) z y, Or.inl ⟨y, rfl⟩⟩
    rw [c]
    simp only [Option.bind_some, if_true]
    rcases g12 with ⟨c2, y2⟩ | ⟨c2, y2⟩
    · rw [c2]
      exact Or.inr ⟨fun z => ne 12 (by decide) (by decide) z y2, Or.inr (Or.inl ⟨y, y2, rfl⟩)⟩
    rw [c2]
    simp only [Option.bind_some, if_true]
    rcases g13 with ⟨c3, y3⟩ | ⟨c3, y3⟩
    · rw [c3]
      exact Or.inr ⟨fun z => ne 13 (by decide) (by decide) z y3, Or.inr (Or.inr (Or.inl ⟨y, y2, y3, rfl⟩))⟩
    rw [c3]
    simp only [Option.bind_some, if_true]
    rcases g9 with ⟨c4, y4⟩ | ⟨c4, y4⟩
    · rw [c4]
      exact Or.inl ⟨y4, rfl⟩
    · rw [c4]
      exact Or.inr ⟨y4, Or.inr (Or.inr (Or.inr ⟨y, y2, y3, rfl⟩))⟩
  have mall : (nm b L f 10 ∧ fX7_lawHere n (mAt uM b L f wr) tp = some 4) ∨ (¬ nm b L f 10 ∧ fX7_lawHere n (mAt uM b L f wr) tp = fX7_lawHere_b33 n (mAt uM b L f wr) tp) := by
    unfold fX7_lawHere
    rcases g10 with ⟨c, y⟩ | ⟨c, ⟨d, y⟩ | ⟨d, y⟩⟩
    · rw [c]; exact Or.inr ⟨y, rfl⟩
    · rw [c]
      simp only [Option.bind_some, if_neg i10]
      rw [d]
      exact Or.inl ⟨y, rfl⟩
    · rw [c]
      simp only [Option.bind_some, if_neg i10]
      rw [d]
      exact Or.inr ⟨y, rfl⟩
  rcases kn 9 (by decide) with ⟨a, z⟩ | ⟨a, z⟩
  · left
    refine ⟨a, ?_⟩
    rcases mall with ⟨y, -⟩ | ⟨y, e⟩
    · exact absurd y (ne 10 (by decide) (by decide) z)
    · rcases m33 _ e y with ⟨-, w⟩ | ⟨w, -⟩
      · exact w
      · exact absurd z w
  · right
    refine ⟨a, ?_⟩
    unfold fX5_lawNamed
    rcases kn 10 (by decide) with ⟨a0, z0⟩ | ⟨a0, z0⟩
    · rw [a0]
      rcases mall with ⟨y, e⟩ | ⟨y, e⟩
      · exact Or.inl ⟨0, by decide, rfl, e⟩
      · exact absurd z0 y
    rw [a0]
    rcases mall with ⟨y, -⟩ | ⟨y, e⟩
    · exact absurd y z0
    simp only [Option.bind_some, if_true]
    rcases kn 11 (by decide) with ⟨a1, z1⟩ | ⟨a1, z1⟩
    · rw [a1]
      rcases m33 _ e y with ⟨w, -⟩ | ⟨-, ⟨-, w⟩ | ⟨w, -⟩ | ⟨w, -⟩ | ⟨w, -⟩⟩
      · exact absurd w z
      · exact Or.inl ⟨1, by decide, rfl, w⟩
      · exact absurd z1 w
      · exact absurd z1 w
      · exact absurd z1 w
    rw [a1]
    simp only [Option.bind_some, if_true]
    rcases kn 12 (by decide) with ⟨a2, z2⟩ | ⟨a2, z2⟩
    · rw [a2]
      rcases m33 _ e y with ⟨w, -⟩ | ⟨-, ⟨w, -⟩ | ⟨-, -, w⟩ | ⟨-, w, -⟩ | ⟨-, w, -⟩⟩
      · exact absurd w z
      · exact absurd w z1
      · exact Or.inl ⟨2, by decide, rfl, w⟩
      · exact absurd z2 w
      · exact absurd z2 w
    rw [a2]
    simp only [Option.bind_some, if_true]
    rcases kn 13 (by decide) with ⟨a3, z3⟩ | ⟨a3, z3⟩
    · rw [a3]
      rcases m33 _ e y with ⟨w, -⟩ | ⟨-, ⟨w, -⟩ | ⟨-, w, -⟩ | ⟨-, -, -, w⟩ | ⟨-, -, w, -⟩⟩
      · exact absurd w z
      · exact absurd w z1
      · exact absurd w z2
      · exact Or.inl ⟨3, by decide, rfl, w⟩
      · exact absurd z3 w
    rw [a3]
    rcases m33 _ e y with ⟨w, -⟩ | ⟨-, ⟨w, -⟩ | ⟨-, w, -⟩ | ⟨-, -, w, -⟩ | ⟨-, -, -, w⟩⟩
    · exact absurd w z
    · exact absurd w z1
    · exact absurd w z2
    · exact absurd w z3
    · exact Or.inr ⟨rfl, w⟩
