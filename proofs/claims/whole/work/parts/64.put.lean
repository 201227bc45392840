/-! PURE, 5: what changes the table -/
def setK (t : TA) (f : Nat → Nat) : TA := (tL t, f, tH t, tG t, tT t, tD t, tN t, tC t, tO t, tZ t)
def setH (t : TA) (f : Nat → Nat) : TA := (tL t, tK t, f, tG t, tT t, tD t, tN t, tC t, tO t, tZ t)
def setL (t : TA) (f : Nat → Nat) : TA := (f, tK t, tH t, tG t, tT t, tD t, tN t, tC t, tO t, tZ t)
def setZ (t : TA) (z : Int32) : TA := (tL t, tK t, tH t, tG t, tT t, tD t, tN t, tC t, tO t, z)
def at1 (f : Nat → Nat) (i x : Nat) : Nat → Nat := fun g => if g = i then x else f g
theorem m_becomes {n : Nat} {uM : MO} {s : Nat → Int32} {i : Nat} {v : Int32} (h : i < 48) : fX7_becomes n uM s (nI i) v = some (s i, upd s i v) := by
  unfold fX7_becomes
  rw [if_neg (nI_ok h (by decide)), if_neg (nI_ok h (by decide)), nI_clamp (by omega)]
theorem RK_K {u : TB} {t : TA} {i x : Nat} (h : RK u t) : RK (u.1, upd u.2.1 i (nI x), u.2.2) (setK t (at1 (tK t) i x)) := by
  refine ⟨h.1, fun g hg => ?_, h.2.2⟩
  obtain ⟨a, b, c, d⟩ := h.2.1 g hg
  refine ⟨?_, b, c, d⟩
  show upd u.2.1 i (nI x) g = nI (if g = i then x else tK t g)
  unfold upd
  split
  · rfl
  · exact a
theorem RK_H {u : TB} {t : TA} {i x : Nat} (h : RK u t) : RK (u.1, u.2.1, upd u.2.2.1 i (nI x), u.2.2.2) (setH t (at1 (tH t) i x)) := by
  refine ⟨h.1, fun g hg => ?_, h.2.2⟩
  obtain ⟨a, b, c, d⟩ := h.2.1 g hg
  refine ⟨a, ?_, c, d⟩
  show upd u.2.2.1 i (nI x) g = nI (if g = i then x else tH t g)
  unfold upd
  split
  · rfl
  · exact b
theorem RK_G {u : TB} {t : TA} {i x : Nat} (h : RK u t) : RK (u.1, u.2.1, u.2.2.1, upd u.2.2.2.1 i (nI x), u.2.2.2.2) (setG t (at1 (tG t) i x)) := RK_updG (f := tG t) h (fun _ _ => rfl)
theorem RK_L {u : TB} {t : TA} {i x : Nat} (h : RK u t) : RK (upd u.1 i (nI x), u.2) (setL t (at1 (tL t) i x)) := by
  refine ⟨fun j hj => ?_, h.2⟩
  show upd u.1 i (nI x) j = nI (if j = i then x else tL t j)
  unfold upd
  split
  · rfl
  · exact h.1 j hj
theorem RM_K {s : Nat → Int32} {t : TA} {i x : Nat} (h : RM s t) : RM (upd s (8 + 5 * i) (nI x)) (setK t (at1 (tK t) i x)) := by
  obtain ⟨h0, h1, h2, h3, h4, h5⟩ := h
  refine ⟨(pk_un (by omega)).trans h0, (pk_un (by omega)).trans h1, (pk_un (by omega)).trans h2, (pk_un (by omega)).trans h3, fun j hj => (pk_un (by omega)).trans (h4 j hj), fun g hg => ?_⟩
  obtain ⟨a, b, c, d, e⟩ := h5 g hg
  refine ⟨?_, (pk_un (by omega)).trans b, (pk_un (by omega)).trans c, (pk_un (by omega)).trans d, (pk_un (by omega)).trans e⟩
  show upd s (8 + 5 * i) (nI x) (8 + 5 * g) = nI (if g = i then x else tK t g)
  by_cases q : g = i
  · subst q; rw [if_pos rfl]; exact pk_us
  · rw [if_neg q, pk_un (by omega)]; exact a
theorem RM_H {s : Nat → Int32} {t : TA} {i x : Nat} (h : RM s t) : RM (upd s (8 + 5 * i + 1) (nI x)) (setH t (at1 (tH t) i x)) := by
  obtain ⟨h0, h1, h2, h3, h4, h5⟩ := h
  refine ⟨(pk_un (by omega)).trans h0, (pk_un (by omega)).trans h1, (pk_un (by omega)).trans h2, (pk_un (by omega)).trans h3, fun j hj => (pk_un (by omega)).trans (h4 j hj), fun g hg => ?_⟩
  obtain ⟨a, b, c, d, e⟩ := h5 g hg
  refine ⟨(pk_un (by omega)).trans a, ?_, (pk_un (by omega)).trans c, (pk_un (by omega)).trans d, (pk_un (by omega)).trans e⟩
  show upd s (8 + 5 * i + 1) (nI x) (8 + 5 * g + 1) = nI (if g = i then x else tH t g)
  by_cases q : g = i
  · subst q; rw [if_pos rfl]; exact pk_us
  · rw [if_neg q, pk_un (by omega)]; exact b
theorem RM_G {s : Nat → Int32} {t : TA} {i x : Nat} (h : RM s t) : RM (upd s (8 + 5 * i + 2) (nI x)) (setG t (at1 (tG t) i x)) := RM_updG (f := tG t) h (fun _ _ => rfl)
theorem RM_L {s : Nat → Int32} {t : TA} {i x : Nat} (hi : i < 4) (h : RM s t) : RM (upd s (4 + i) (nI x)) (setL t (at1 (tL t) i x)) := by
  obtain ⟨h0, h1, h2, h3, h4, h5⟩ := h
  refine ⟨(pk_un (by omega)).trans h0, (pk_un (by omega)).trans h1, (pk_un (by omega)).trans h2, (pk_un (by omega)).trans h3, fun j hj => ?_, fun g hg => ?_⟩
  · show upd s (4 + i) (nI x) (4 + j) = nI (if j = i then x else tL t j)
    by_cases q : j = i
    · subst q; rw [if_pos rfl]; exact pk_us
    · rw [if_neg q, pk_un (by omega)]; exact h4 j hj
  · obtain ⟨a, b, c, d, e⟩ := h5 g hg
    exact ⟨(pk_un (by omega)).trans a, (pk_un (by omega)).trans b, (pk_un (by omega)).trans c, (pk_un (by omega)).trans d, (pk_un (by omega)).trans e⟩
theorem RM_Z {s : Nat → Int32} {t : TA} {z : Int32} (h : RM s t) : RM (upd s 2 z) (setZ t z) := by
  obtain ⟨h0, h1, h2, h3, h4, h5⟩ := h
  refine ⟨(pk_un (by omega)).trans h0, (pk_un (by omega)).trans h1, pk_us, (pk_un (by omega)).trans h3, fun j hj => (pk_un (by omega)).trans (h4 j hj), fun g hg => ?_⟩
  obtain ⟨a, b, c, d, e⟩ := h5 g hg
  exact ⟨(pk_un (by omega)).trans a, (pk_un (by omega)).trans b, (pk_un (by omega)).trans c, (pk_un (by omega)).trans d, (pk_un (by omega)).trans e⟩
theorem ok_K {t : TA} (hO : OkT t) {i x : Nat} (hx : x ≤ 5) : OkT (setK t (at1 (tK t) i x)) := by
  refine ⟨hO.1, hO.2.1, fun g hg => ⟨?_, (hO.2.2.1 g hg).2⟩, hO.2.2.2⟩
  show (if g = i then x else tK t g) ≤ 5
  split
  · exact hx
  · exact (hO.2.2.1 g hg).1
theorem ok_H {t : TA} (hO : OkT t) {i x : Nat} (hx : x ≤ 7) : OkT (setH t (at1 (tH t) i x)) := by
  refine ⟨hO.1, hO.2.1, fun g hg => ⟨(hO.2.2.1 g hg).1, ?_, (hO.2.2.1 g hg).2.2⟩, hO.2.2.2⟩
  show (if g = i then x else tH t g) ≤ 7
  split
  · exact hx
  · exact (hO.2.2.1 g hg).2.1
theorem ok_G {t : TA} (hO : OkT t) {i x : Nat} (hx : x ≤ 99) : OkT (setG t (at1 (tG t) i x)) := by
  refine ok_setG hO (fun g hg => ?_)
  show (if g = i then x else tG t g) ≤ 99
  split
  · exact hx
  · exact (hO.2.2.1 g hg).2.2.1
theorem ok_L {t : TA} (hO : OkT t) {i x : Nat} (hi : i < 4) (hx : x ≤ if i < 2 then 9 else 99) : OkT (setL t (at1 (tL t) i x)) := by
  obtain ⟨l0, l1, l2, l3⟩ := hO.2.1
  refine ⟨hO.1, ⟨?_, ?_, ?_, ?_⟩, hO.2.2⟩
  · show (if 0 = i then x else tL t 0) ≤ 9
    split
    · rename_i e; subst e; exact hx
    · exact l0
  · show (if 1 = i then x else tL t 1) ≤ 9
    split
    · rename_i e; subst e; exact hx
    · exact l1
  · show (if 2 = i then x else tL t 2) ≤ 99
    split
    · rename_i e; subst e; exact hx
    · exact l2
  · show (if 3 = i then x else tL t 3) ≤ 99
    split
    · rename_i e; subst e; exact hx
    · exact l3
theorem ok_Z {t : TA} (hO : OkT t) (z : Int32) : OkT (setZ t z) := hO
theorem gs1 : ∀ k, k < 4 → gsF 1 k = nI (if k < 2 then 9 else 99) := by decide
theorem mostI {n : Nat} : ∀ k, k < 4 → fX7_mostOf n (nI k) = some (nI (if k < 2 then 9 else 99)) := by
  intro k hk
  rcases (show k = 0 ∨ k = 1 ∨ k = 2 ∨ k = 3 by omega) with rfl | rfl | rfl | rfl <;> rfl
theorem p_set {n : Nat} {uK : Int32} {uN : TB} {uM : MO} {s : Nat → Int32} (h : RelT uN s) (x1 x2 : Int32) : ∃ (A : Int32) (N' : TB) (s' : Nat → Int32), fX6_set n uK uN x1 x2 = some (A, N') ∧ fX7_set n uM s x1 x2 = some (A, s') ∧ RelT N' s' := by
  obtain ⟨t, hK, hM, hO⟩ := h
  unfold fX6_set fX7_set
  rcases out_or x1 (lo := 0) (hi := 3) (by decide) (by decide) with h2 | ⟨k, -, hk, rfl⟩
  · rw [show fX6_within n x1 0 3 = some 0 from k_in0 (lo := 0) (hi := 3) h2, show fX7_isIn n x1.toInt64 0 3 = some 0 from m_in0 (lo := 0) (hi := 3) (by decide) (by decide) h2]
    exact ⟨_, _, _, rfl, rfl, t, hK, hM, hO⟩
  rw [show fX6_within n (nI k) 0 3 = some 1 from k_in1 (lo := 0) (hi := 3) (by omega) hk (by decide), show fX7_isIn n (nI k).toInt64 0 3 = some 1 from m_in1 (lo := 0) (hi := 3) (by omega) hk (by decide), mostI k (by omega)]
  have e4 : (4 : Int32) + nI k = nI (4 + k) := nI_add 4 k
  have hb : (if k < 2 then 9 else 99) < 2 ^ 31 := by split <;> omega
  simp only [Option.bind_some, if_neg i10, nI_clamp (show k < 2 ^ 31 by omega), if_neg (nI_ok2 (show k < 4 by omega) (by decide)), gs1 k (by omega), e4, m_becomes (n := n) (uM := uM) (s := s) (v := x2) (show 4 + k < 48 by omega), nI_l hb]
  rcases out_or x2 (lo := 0) (hi := if k < 2 then 9 else 99) (by decide) hb with h2 | ⟨j, -, hj, rfl⟩
  · rw [show fX6_within n x2 0 (nI (if k < 2 then 9 else 99)) = some 0 from k_in0 (lo := 0) h2, show fX7_isIn n x2.toInt64 0 (lN (if k < 2 then 9 else 99)) = some 0 from m_in0 (lo := 0) (by decide) hb h2]
    exact ⟨_, _, _, rfl, rfl, t, hK, hM, hO⟩
  · rw [show fX6_within n (nI j) 0 (nI (if k < 2 then 9 else 99)) = some 1 from k_in1 (lo := 0) (by omega) hj hb, show fX7_isIn n (nI j).toInt64 0 (lN (if k < 2 then 9 else 99)) = some 1 from m_in1 (lo := 0) (by omega) hj hb]
    simp only [Option.bind_some, if_neg i10]
    rw [hK.1 k (by omega), hM.2.2.2.2.1 k (by omega)]
    exact ⟨_, _, _, rfl, rfl, _, RK_L hK, RM_L (by omega) hM, ok_L hO (by omega) hj⟩
theorem p_seed {n : Nat} {uK : Int32} {uN : TB} {uM : MO} {s : Nat → Int32} (h : RelT uN s) (x1 : Int32) : ∃ (A : Int32) (N' : TB) (s' : Nat → Int32), fX6_seed n uK uN x1 = some (A, N') ∧ fX7_seed n uM s x1 = some (A, s') ∧ RelT N' s' := by
  obtain ⟨t, hK, hM, hO⟩ := h
  unfold fX6_seed fX7_seed
  rw [show fX7_becomes n uM s (2 : Int32) x1 = some (s 2, upd s 2 x1) from m_becomes (i := 2) (by decide), hM.2.2.1, hK.2.2.2.2.2.2]
  exact ⟨_, _, _, rfl, rfl, setZ t x1, ⟨hK.1, hK.2.1, hK.2.2.1, hK.2.2.2.1, hK.2.2.2.2.1, hK.2.2.2.2.2.1, rfl⟩, RM_Z hM, hO⟩
theorem m_piece0 {n : Nat} {x : Int32} (h : out x 0 7) : fX7_isPiece n x = some 0 := by
  unfold fX7_isPiece
  rw [show fX7_isIn n x.toInt64 0 7 = some 0 from m_in0 (lo := 0) (hi := 7) (by decide) (by decide) h]
  rfl
theorem m_piece1 {n k : Nat} (h : k ≤ 7) : fX7_isPiece n (nI k) = some 1 := by
  unfold fX7_isPiece
  rw [show fX7_isIn n (nI k).toInt64 0 7 = some 1 from m_in1 (lo := 0) (hi := 7) (by omega) h (by decide)]
  rfl
theorem p_mind {n : Nat} {uK : Int32} {uN : TB} {uM : MO} {s : Nat → Int32} (h : RelT uN s) (x1 x2 : Int32) : ∃ (A : Int32) (N' : TB) (s' : Nat → Int32), fX6_mind n uK uN x1 x2 = some (A, N') ∧ fX7_mind n uM s x1 x2 = some (A, s') ∧ RelT N' s' := by
  obtain ⟨t, hK, hM, hO⟩ := h
  unfold fX6_mind fX7_mind
  rcases one_or x1 hO.1 with h1 | ⟨g, hg, rfl⟩
  · rw [k_has0 hK hO h1, m_one0 hM h1]
    exact ⟨_, _, _, rfl, rfl, t, hK, hM, hO⟩
  have h8 : g < 8 := Nat.lt_of_lt_of_le hg hO.1
  have ix : (8 : Int32) + ((5 : Int32) * nI g) = nI (8 + 5 * g) := by rw [show (5 : Int32) = nI 5 from rfl, pk_mul]; exact nI_add 8 _
  rw [k_has1 hK hO hg, m_one1 hM hO hg]
  rcases out_or x2 (lo := 0) (hi := 5) (by decide) (by decide) with h2 | ⟨k, -, hk, rfl⟩
  · rw [show fX6_within n x2 0 5 = some 0 from k_in0 (lo := 0) (hi := 5) h2, show fX7_isIn n x2.toInt64 0 5 = some 0 from m_in0 (lo := 0) (hi := 5) (by decide) (by decide) h2]
    exact ⟨_, _, _, rfl, rfl, t, hK, hM, hO⟩
  · rw [show fX6_within n (nI k) 0 5 = some 1 from k_in1 (lo := 0) (hi := 5) (by omega) hk (by decide), show fX7_isIn n (nI k).toInt64 0 5 = some 1 from m_in1 (lo := 0) (hi := 5) (by omega) hk (by decide)]
    simp only [Option.bind_some, if_neg i10, nI_cl8 h8, if_neg (nI_ok2 h8 (by decide)), ix, m_becomes (n := n) (uM := uM) (s := s) (v := nI k) (show 8 + 5 * g < 48 by omega), (hK.2.1 g hg).1, (hM.2.2.2.2.2 g hg).1]
    exact ⟨_, _, _, rfl, rfl, _, RK_K hK, RM_K hM, ok_K hO hk⟩
theorem p_give {n : Nat} {uK : Int32} {uN : TB} {uM : MO} {s : Nat → Int32} (h : RelT uN s) (x1 x2 : Int32) : ∃ (A : Int32) (N' : TB) (s' : Nat → Int32), fX6_give n uK uN x1 x2 = some (A, N') ∧ fX7_give n uM s x1 x2 = some (A, s') ∧ RelT N' s' := by
  obtain ⟨t, hK, hM, hO⟩ := h
  unfold fX6_give fX7_give
  rcases one_or x1 hO.1 with h1 | ⟨g, hg, rfl⟩
  · rw [k_has0 hK hO h1, m_one0 hM h1]
    exact ⟨_, _, _, rfl, rfl, t, hK, hM, hO⟩
  have h8 : g < 8 := Nat.lt_of_lt_of_le hg hO.1
  have ix : ((8 : Int32) + ((5 : Int32) * nI g)) + (1 : Int32) = nI (8 + 5 * g + 1) := ixM g h8 1 (by decide)
  rw [k_has1 hK hO hg, m_one1 hM hO hg]
  rcases out_or x2 (lo := 0) (hi := 7) (by decide) (by decide) with h2 | ⟨k, -, hk, rfl⟩
  · rw [show fX6_within n x2 0 7 = some 0 from k_in0 (lo := 0) (hi := 7) h2, m_piece0 h2]
    exact ⟨_, _, _, rfl, rfl, t, hK, hM, hO⟩
  · rw [show fX6_within n (nI k) 0 7 = some 1 from k_in1 (lo := 0) (hi := 7) (by omega) hk (by decide), m_piece1 hk]
    simp only [Option.bind_some, if_neg i10, nI_cl8 h8, if_neg (nI_ok2 h8 (by decide)), ix, m_becomes (n := n) (uM := uM) (s := s) (v := nI k) (show 8 + 5 * g + 1 < 48 by omega), (hK.2.1 g hg).2.1, (hM.2.2.2.2.2 g hg).2.1]
    exact ⟨_, _, _, rfl, rfl, _, RK_H hK, RM_H hM, ok_H hO hk⟩
theorem p_does {n : Nat} {uK : Int32} {uN : TB} {uM : MO} {s : Nat → Int32} (h : RelT uN s) (x1 x2 : Int32) : ∃ A : Int32, fX6_does n uK uN x1 x2 = some A ∧ fX7_does n uM s x1 x2 = some A := by
  obtain ⟨t, hK, hM, hO⟩ := h
  unfold fX6_does fX7_does
  rcases one_or x1 hO.1 with h1 | ⟨g, hg, rfl⟩
  · rw [k_has0 hK hO h1, m_one0 hM h1]
    exact ⟨_, rfl, rfl⟩
  rw [k_has1 hK hO hg, m_one1 hM hO hg]
  simp only [Option.bind_some, if_neg i10, k_takes hK hO hg, k_needs hK hO hg, k_costs hK hO hg, m_takes hM hO hg, m_needs hM hO hg, m_costs hM hO hg]
  rcases out_or x2 (lo := 0) (hi := 2) (by decide) (by decide) with h2 | ⟨k, -, hk, rfl⟩
  · rw [show fX7_isIn n x2.toInt64 0 2 = some 0 from m_in0 (lo := 0) (hi := 2) (by decide) (by decide) h2]
    have ne : ∀ j, j ≤ 2 → ¬ x2 = nI j := fun j hj e => not_out (lo := 0) (hi := 2) (Nat.zero_le j) hj (by decide) (e ▸ h2)
    rw [if_neg (show ¬ x2 = 0 from ne 0 (by decide)), if_neg (show ¬ x2 = 1 from ne 1 (by decide)), if_neg (show ¬ x2 = 2 from ne 2 (by decide))]
    exact ⟨_, rfl, rfl⟩
  · rw [show fX7_isIn n (nI k).toInt64 0 2 = some 1 from m_in1 (lo := 0) (hi := 2) (by omega) hk (by decide)]
    rcases (show k = 0 ∨ k = 1 ∨ k = 2 by omega) with rfl | rfl | rfl
    · exact ⟨_, rfl, rfl⟩
    · exact ⟨_, rfl, rfl⟩
    · exact ⟨_, rfl, rfl⟩
