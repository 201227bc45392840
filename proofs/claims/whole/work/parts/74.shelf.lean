/-! PURE, 15: shelves -/
def RelF (uF : SF) (hw hi hm : Nat → Int32) : Prop := ∀ i, i < 4 → (uF.1 i = 0 ∧ hw i = 1 ∧ uF.2.1 i = hi i) ∨ (uF.1 i = 1 ∧ hw i = 2 ∧ uF.2.2.1 i = hi i ∧ uF.2.2.2 i = hm i ∧ ∃ q, q < 4 ∧ hi i = nI q) ∨ (uF.1 i = 2 ∧ hw i = 0)
theorem m_shelf0 {n : Nat} {x : Int32} (h : out x 0 3) : fX7_isShelf n x = some 0 := by
  unfold fX7_isShelf
  rw [show fX7_isIn n x.toInt64 0 3 = some 0 from m_in0 (lo := 0) (hi := 3) (by decide) (by decide) h]
  rfl
theorem m_shelf1 {n k : Nat} (h : k ≤ 3) : fX7_isShelf n (nI k) = some 1 := by
  unfold fX7_isShelf
  rw [show fX7_isIn n (nI k).toInt64 0 3 = some 1 from m_in1 (lo := 0) (hi := 3) (by omega) h (by decide)]
  rfl
theorem RelF_up {uF : SF} {hw hi hm : Nat → Int32} (h : RelF uF hw hi hm) {j : Nat} {a b c d e f g : Int32} (hj : (a = 0 ∧ e = 1 ∧ b = f) ∨ (a = 1 ∧ e = 2 ∧ c = f ∧ d = g ∧ ∃ q, q < 4 ∧ f = nI q) ∨ (a = 2 ∧ e = 0)) : RelF (upd uF.1 j a, upd uF.2.1 j b, upd uF.2.2.1 j c, upd uF.2.2.2 j d) (upd hw j e) (upd hi j f) (upd hm j g) := by
  intro i h4
  by_cases q : i = j
  · subst q
    show (upd uF.1 i a i = 0 ∧ upd hw i e i = 1 ∧ upd uF.2.1 i b i = upd hi i f i) ∨ (upd uF.1 i a i = 1 ∧ upd hw i e i = 2 ∧ upd uF.2.2.1 i c i = upd hi i f i ∧ upd uF.2.2.2 i d i = upd hm i g i ∧ ∃ q, q < 4 ∧ upd hi i f i = nI q) ∨ (upd uF.1 i a i = 2 ∧ upd hw i e i = 0)
    simp only [pk_us]
    exact hj
  · show (upd uF.1 j a i = 0 ∧ upd hw j e i = 1 ∧ upd uF.2.1 j b i = upd hi j f i) ∨ (upd uF.1 j a i = 1 ∧ upd hw j e i = 2 ∧ upd uF.2.2.1 j c i = upd hi j f i ∧ upd uF.2.2.2 j d i = upd hm j g i ∧ ∃ q, q < 4 ∧ upd hi j f i = nI q) ∨ (upd uF.1 j a i = 2 ∧ upd hw j e i = 0)
    simp only [pk_un q]
    exact h i h4
theorem upd_id {f : Nat → Int32} {i : Nat} : upd f i (f i) = f := by
  funext j
  by_cases q : j = i
  · subst q; exact pk_us
  · exact pk_un q
theorem x012 {x2 : Int32} (h : out x2 0 2) : ¬ x2 = 0 ∧ ¬ x2 = 1 ∧ ¬ x2 = 2 := by
  refine ⟨?_, ?_, ?_⟩
  · rintro rfl; exact not_out (m := 0) (lo := 0) (hi := 2) (by decide) (by decide) (by decide) h
  · rintro rfl; exact not_out (m := 1) (lo := 0) (hi := 2) (by decide) (by decide) (by decide) h
  · rintro rfl; exact not_out (m := 2) (lo := 0) (hi := 2) (by decide) (by decide) (by decide) h
theorem p_shelf {n : Nat} {uK : Int32} {uN : TB} {uS : SH} {uF : SF} {uM : MO} {s so sz nu hw hi hm : Nat → Int32} (h : RelT uN s) (hS : RelS uS so sz nu) (hF : RelF uF hw hi hm) (x1 x2 x3 : Int32) : ∃ (A : Int32) (F' : SF) (hw' hi' hm' : Nat → Int32), fX6_shelf n uK uN uS uF x1 x2 x3 = some (A, F') ∧ fX7_shelf n uM s so sz hw hi hm x1 x2 x3 = some (A, hw', hi', hm') ∧ RelF F' hw' hi' hm' := by
  obtain ⟨t, hK, hM, hO⟩ := h
  unfold fX6_shelf fX7_shelf
  rcases out_or x1 (lo := 0) (hi := 3) (by decide) (by decide) with h1 | ⟨j, -, hj, rfl⟩
  · rw [show fX6_within n x1 0 3 = some 0 from k_in0 (lo := 0) (hi := 3) h1, m_shelf0 h1]
    exact ⟨_, _, _, _, _, rfl, rfl, hF⟩
  have j4 : ¬ (nI j < 0 ∨ 4 ≤ j) := nI_ok2 (show j < 4 by omega) (by decide)
  have cj : (nI j).toNatClampNeg = j := nI_clamp (by omega)
  rw [show fX6_within n (nI j) 0 3 = some 1 from k_in1 (lo := 0) (hi := 3) (by omega) hj (by decide), m_shelf1 hj]
  rcases out_or x2 (lo := 0) (hi := 2) (by decide) (by decide) with h2 | ⟨w, -, hw2, rfl⟩
  · obtain ⟨n0, n1, n2⟩ := x012 h2
    rw [show fX7_isIn n x2.toInt64 0 2 = some 0 from m_in0 (lo := 0) (hi := 2) (by decide) (by decide) h2]
    simp only [Option.bind_some, if_neg i10, cj, if_neg j4, if_neg n0, if_neg n1, if_neg n2, if_true]
    exact ⟨_, _, _, _, _, rfl, rfl, hF⟩
  rw [show fX7_isIn n (nI w).toInt64 0 2 = some 1 from m_in1 (lo := 0) (hi := 2) (by omega) hw2 (by decide)]
  simp only [Option.bind_some, if_neg i10, cj, if_neg j4]
  rcases (show w = 0 ∨ w = 1 ∨ w = 2 by omega) with rfl | rfl | rfl
  · rw [show nI 0 = (0 : Int32) from rfl]
    unfold fX7_shelf_b31 fX7_shelf_b45 fX7_shelf_b63 fX7_shelf_b64 fX7_shelf_b89 fX7_shelf_b118 fX2_holdGuest
    simp only [if_true, if_neg (show ¬ (0 : Int32) = 1 by decide)]
    rcases one_or x3 hO.1 with h3 | ⟨g, hg, rfl⟩
    · rw [k_has0 hK hO h3, m_one0 hM h3]
      exact ⟨_, _, _, _, _, rfl, rfl, hF⟩
    · rw [k_has1 hK hO hg, m_one1 hM hO hg]
      simp only [Option.bind_some, if_neg i10, cj, if_neg j4]
      refine ⟨_, _, _, _, _, rfl, rfl, RelF_up hF (Or.inl ⟨rfl, rfl, rfl⟩)⟩
  · rw [show nI 1 = (1 : Int32) from rfl]
    unfold fX7_shelf_b31 fX7_shelf_b45 fX7_shelf_b63 fX7_shelf_b64 fX7_shelf_b89 fX7_shelf_b118 fX2_holdRow fX2_holdRow_b14
    simp only [if_true, if_neg i10]
    rcases out_or x3 (lo := 0) (hi := 3) (by decide) (by decide) with h3 | ⟨k, -, hk, rfl⟩
    · rw [show fX6_within n x3 0 3 = some 0 from k_in0 (lo := 0) (hi := 3) h3, m_sheet0 h3]
      exact ⟨_, _, _, _, _, rfl, rfl, hF⟩
    · have k4 : ¬ (nI k < 0 ∨ 4 ≤ k) := nI_ok2 (show k < 4 by omega) (by decide)
      rw [show fX6_within n (nI k) 0 3 = some 1 from k_in1 (lo := 0) (hi := 3) (by omega) hk (by decide), m_sheet1 hk]
      obtain ⟨q1, q2, ⟨L, hL, q3, q4⟩, q5⟩ := hS k (by omega)
      simp only [Option.bind_some, if_neg i10, cj, if_neg j4, nI_clamp (show k < 2 ^ 31 by omega), if_neg k4, q1, q3, q4]
      rcases so_or q2 with ⟨z1, z2⟩ | ⟨z1, z2⟩
      · simp only [if_pos z1, if_pos (Int32.not_le.mp z2), Option.bind_some]
        exact ⟨_, _, _, _, _, rfl, rfl, RelF_up hF (Or.inr (Or.inr ⟨rfl, rfl⟩))⟩
      · have hlt : ¬ so k < 0 := fun z => absurd (Int32.lt_of_lt_of_le z z2) Int32.lt_irrefl
        simp only [if_neg z1, if_neg hlt, Option.bind_some]
        exact ⟨_, _, _, _, _, rfl, rfl, RelF_up hF (Or.inr (Or.inl ⟨rfl, rfl, rfl, rfl, q2.resolve_left z1⟩))⟩
  · rw [show nI 2 = (2 : Int32) from rfl]
    unfold fX7_shelf_b31 fX7_shelf_b45 fX7_shelf_b63 fX7_shelf_b64 fX7_shelf_b89 fX7_shelf_b118
    simp only [if_true, if_neg (show ¬ (2 : Int32) = 0 by decide), if_neg (show ¬ (2 : Int32) = 1 by decide), cj, if_neg j4]
    have r := RelF_up hF (j := j) (a := 2) (b := uF.2.1 j) (c := uF.2.2.1 j) (d := uF.2.2.2 j) (e := 0) (f := 0) (g := 0) (Or.inr (Or.inr ⟨rfl, rfl⟩))
    rw [upd_id, upd_id, upd_id] at r
    exact ⟨_, _, _, _, _, rfl, rfl, r⟩
-- what is held now
theorem heldNow {n : Nat} {uK : Int32} {uN : TB} {uF : SF} {uM : MO} {s hw hi hm : Nat → Int32} {t : TA} (hK : RK uN t) (hM : RM s t) (hO : OkT t) (hF : RelF uF hw hi hm) {j : Nat} (hj : j < 4) : (∃ g, g < tN t ∧ uF.2.1 j = nI g ∧ hi j = nI g ∧ fX6_heldNow n uK uN uF j = some 0 ∧ fX7_heldOn n uM s hw hi (nI j) = some 1) ∨ (uF.2.2.1 j = hi j ∧ uF.2.2.2 j = hm j ∧ (∃ q, q < 4 ∧ hi j = nI q) ∧ fX6_heldNow n uK uN uF j = some 1 ∧ fX7_heldOn n uM s hw hi (nI j) = some 2) ∨ (fX6_heldNow n uK uN uF j = some 2 ∧ fX7_heldOn n uM s hw hi (nI j) = some 0) := by
  have j4 : ¬ (nI j < 0 ∨ 4 ≤ j) := nI_ok2 hj (by decide)
  have cj : (nI j).toNatClampNeg = j := nI_clamp (by omega)
  unfold fX6_heldNow fX7_heldOn fX7_heldOn_b27
  simp only [cj, if_neg j4]
  rcases hF j hj with ⟨a, b, c⟩ | ⟨a, b, c, d, e⟩ | ⟨a, b⟩
  · simp only [a, b, c, if_true]
    rcases one_or (hi j) hO.1 with h3 | ⟨g, hg, hh⟩
    · right; right
      rw [k_has0 hK hO h3, m_one0 hM h3]
      exact ⟨rfl, rfl⟩
    · left
      rw [hh, k_has1 hK hO hg, m_one1 hM hO hg]
      exact ⟨g, hg, rfl, rfl, rfl, rfl⟩
  · right; left
    simp only [a, b, if_neg i10, if_neg (show ¬ (2 : Int32) = 1 by decide)]
    exact ⟨c, d, e, trivial, trivial⟩
  · right; right
    simp only [a, b, if_neg (show ¬ (2 : Int32) = 0 by decide), if_neg (show ¬ (0 : Int32) = 1 by decide)]
    exact ⟨trivial, trivial⟩
def und (k w : Nat) : Bool := (w == 0) || (k == w) || (w == 1 && k == 3) || (w == 2 && k == 4)
theorem k_under {m : Nat} : ∀ k, k < 6 → ∀ w, w < 14 → fX6_isUnder (m + 7) (nI k) (nI w) = some (if und k w then 1 else 0) := by
  intro k hk w hw
  rcases (show k = 0 ∨ k = 1 ∨ k = 2 ∨ k = 3 ∨ k = 4 ∨ k = 5 by omega) with rfl | rfl | rfl | rfl | rfl | rfl <;> rcases (show w = 0 ∨ w = 1 ∨ w = 2 ∨ w = 3 ∨ w = 4 ∨ w = 5 ∨ w = 6 ∨ w = 7 ∨ w = 8 ∨ w = 9 ∨ w = 10 ∨ w = 11 ∨ w = 12 ∨ w = 13 by omega) with rfl | rfl | rfl | rfl | rfl | rfl | rfl | rfl | rfl | rfl | rfl | rfl | rfl | rfl <;> rfl
theorem m_under {n : Nat} : ∀ k, k < 6 → ∀ w, w < 6 → fX7_isUnder n (nI k) (nI w) = some (if und k w then 1 else 0) := by
  show ∀ k, k < 6 → ∀ w, w < 6 → fX7_isUnder 0 (nI k) (nI w) = some (if und k w then 1 else 0)
  decide +kernel
theorem und10 : ∀ k, k < 6 → ∀ w, w < 4 → und k (10 + w) = false := by decide
theorem sub10 : ∀ w, w < 4 → (nI (10 + w) - (10 : Int32)) = nI w := by decide
theorem sub10n : ∀ w, w < 6 → ∀ q, q < 4 → ¬ (nI w - (10 : Int32)) = nI q := by decide +kernel
theorem p_taken {n : Nat} (hn : 300 ≤ n) {uK : Int32} {uN : TB} {uF : SF} {uM : MO} {s hw hi hm : Nat → Int32} (h : RelT uN s) (hF : RelF uF hw hi hm) (x1 x2 : Int32) : ∃ A : Int32, fX6_taken n uK uN uF x1 x2 = some A ∧ fX7_taken n uM s hw hi hm x1 x2 = some A := by
  obtain ⟨t, hK, hM, hO⟩ := h
  unfold fX6_taken fX7_taken
  rcases out_or x1 (lo := 0) (hi := 3) (by decide) (by decide) with h1 | ⟨j, -, hj, rfl⟩
  · rw [show fX6_within n x1 0 3 = some 0 from k_in0 (lo := 0) (hi := 3) h1, m_shelf0 h1]
    exact ⟨_, rfl, rfl⟩
  have j4 : ¬ (nI j < 0 ∨ 4 ≤ j) := nI_ok2 (show j < 4 by omega) (by decide)
  have cj : (nI j).toNatClampNeg = j := nI_clamp (by omega)
  rw [show fX6_within n (nI j) 0 3 = some 1 from k_in1 (lo := 0) (hi := 3) (by omega) hj (by decide), m_shelf1 hj]
  rw [show fX7_isIn n x2.toInt64 0 13 = fX6_within n x2 0 13 from isIn_eq x2 0 13, show fX7_isIn n x2.toInt64 6 9 = fX6_within n x2 6 9 from isIn_eq x2 6 9]
  rcases out_or x2 (lo := 0) (hi := 13) (by decide) (by decide) with h2 | ⟨w, -, hw2, rfl⟩
  · have a5 : out x2 0 5 := h2.imp_right (fun z => Int32.lt_trans (show nI 5 < nI 13 by decide) z)
    have a1 : out x2 10 13 := h2.imp_left (fun z => Int32.lt_trans z (show nI 0 < nI 10 by decide))
    rw [show fX6_within n x2 0 13 = some 0 from k_in0 (lo := 0) (hi := 13) h2, show fX6_within n x2 0 5 = some 0 from k_in0 (lo := 0) (hi := 5) a5, show fX6_within n x2 10 13 = some 0 from k_in0 (lo := 10) (hi := 13) a1]
    exact ⟨_, rfl, rfl⟩
  rw [show fX6_within n (nI w) 0 13 = some 1 from k_in1 (lo := 0) (hi := 13) (by omega) hw2 (by decide)]
  obtain ⟨m, rfl⟩ : ∃ m, n = m + 7 := ⟨n - 7, by omega⟩
  unfold fX6_taken_b31
  simp only [Option.bind_some, if_neg i10, cj, if_neg j4]
  have hh := heldNow (n := m + 7) (uK := uK) (uM := uM) hK hM hO hF (show j < 4 by omega)
  rcases (show w < 6 ∨ (6 ≤ w ∧ w < 10) ∨ 10 ≤ w by omega) with h6 | h6 | h6
  · rw [show fX6_within (m + 7) (nI w) 0 5 = some 1 from k_in1 (lo := 0) (hi := 5) (by omega) (by omega) (by decide), show fX6_within (m + 7) (nI w) 6 9 = some 0 from k_in0 (lo := 6) (hi := 9) (Or.inl (nI_lt h6 (by decide)))]
    simp only [Option.bind_some, if_neg i10, if_true, if_neg (show ¬ (10 : Int32) ≤ nI w from nI_ge (b := 10) (by omega) (by decide))]
    rcases hh with ⟨g, hg, a, b, c, d⟩ | ⟨a, b, ⟨q, hq, e⟩, c, d⟩ | ⟨c, d⟩
    · have h8 : g < 8 := Nat.lt_of_lt_of_le hg hO.1
      have hk5 := (hO.2.2.1 g hg).1
      simp only [c, d, Option.bind_some, if_true, if_neg i10, a, b, nI_cl8 h8, if_neg (nI_ok2 h8 (by decide)), (hK.2.1 g hg).1, m_its0 hM hO hg, k_under _ (show tK t g < 6 by omega) w (by omega), m_under _ (show tK t g < 6 by omega) w (by omega)]
      cases und (tK t g) w
      · exact ⟨_, rfl, rfl⟩
      · exact ⟨_, rfl, rfl⟩
    · simp only [c, d, Option.bind_some, if_true, if_neg i10, a, b, e, if_neg (sub10n w h6 q hq), if_neg (show ¬ (2 : Int32) = 0 by decide), if_neg (show ¬ (2 : Int32) = 1 by decide)]
      exact ⟨_, rfl, rfl⟩
    · simp only [c, d, Option.bind_some, if_true, if_neg i10, if_neg (show ¬ (2 : Int32) = 0 by decide), if_neg (show ¬ (2 : Int32) = 1 by decide)]
      exact ⟨_, rfl, rfl⟩
  · rw [show fX6_within (m + 7) (nI w) 0 5 = some 0 from k_in0 (lo := 0) (hi := 5) (Or.inr (nI_lt (by omega) (by omega))), show fX6_within (m + 7) (nI w) 10 13 = some 0 from k_in0 (lo := 10) (hi := 13) (Or.inl (nI_lt (by omega) (by decide))), show fX6_within (m + 7) (nI w) 6 9 = some 1 from k_in1 (lo := 6) (hi := 9) (by omega) (by omega) (by decide)]
    exact ⟨_, rfl, rfl⟩
  · rw [show fX6_within (m + 7) (nI w) 0 5 = some 0 from k_in0 (lo := 0) (hi := 5) (Or.inr (nI_lt (by omega) (by omega))), show fX6_within (m + 7) (nI w) 10 13 = some 1 from k_in1 (lo := 10) (hi := 13) (by omega) (by omega) (by decide), show fX6_within (m + 7) (nI w) 6 9 = some 0 from k_in0 (lo := 6) (hi := 9) (Or.inr (nI_lt (by omega) (by omega)))]
    obtain ⟨w, rfl⟩ : ∃ v, w = 10 + v := ⟨w - 10, by omega⟩
    simp only [Option.bind_some, if_neg i10, if_true, if_pos (show (10 : Int32) ≤ nI (10 + w) from nI_le (a := 10) (by omega) (by omega)), sub10 w (by omega)]
    rcases hh with ⟨g, hg, a, b, c, d⟩ | ⟨a, b, ⟨q, hq, e⟩, c, d⟩ | ⟨c, d⟩
    · have h8 : g < 8 := Nat.lt_of_lt_of_le hg hO.1
      have hk5 := (hO.2.2.1 g hg).1
      simp only [c, d, Option.bind_some, if_true, if_neg i10, a, b, nI_cl8 h8, if_neg (nI_ok2 h8 (by decide)), (hK.2.1 g hg).1, k_under _ (show tK t g < 6 by omega) (10 + w) (by omega), und10 _ (show tK t g < 6 by omega) w (by omega), if_neg (show ¬ (1 : Int32) = 2 by decide), Bool.false_eq_true, if_false]
      exact ⟨_, rfl, rfl⟩
    · simp only [c, d, Option.bind_some, if_true, if_neg i10, a, b, if_neg (show ¬ (2 : Int32) = 0 by decide), eq_comm (a := nI w)]
      by_cases z : hi j = nI w
      · simp only [if_pos z]
        exact ⟨_, rfl, rfl⟩
      · simp only [if_neg z]
        exact ⟨_, rfl, rfl⟩
    · simp only [c, d, Option.bind_some, if_true, if_neg i10, if_neg (show ¬ (2 : Int32) = 0 by decide), if_neg (show ¬ (2 : Int32) = 1 by decide)]
      exact ⟨_, rfl, rfl⟩
