/-! PURE, 14: put, item, minds -/
theorem to3264 (a : Int32) : a.toInt64.toInt32 = a := by simp
theorem lg_le (a b : Int64) : (lg_cmp a b ≤ 0) = (a ≤ b) := by
  have h := lg_gt a b
  refine propext ⟨fun z => ?_, fun z => ?_⟩
  · exact Int64.not_lt.mp (fun q => absurd (Int32.lt_of_lt_of_le (h ▸ q) z) Int32.lt_irrefl)
  · exact Int32.not_lt.mp (fun q => absurd (Int64.lt_of_lt_of_le (h ▸ q) z) Int64.lt_irrefl)
theorem le64 (a b : Int32) : (a.toInt64 ≤ b.toInt64) = (a ≤ b) := by
  have h := lt64 b a
  refine propext ⟨fun z => ?_, fun z => ?_⟩
  · exact Int32.not_lt.mp (fun q => absurd (Int64.lt_of_lt_of_le (h ▸ q) z) Int64.lt_irrefl)
  · exact Int64.not_lt.mp (fun q => absurd (Int32.lt_of_lt_of_le (h ▸ q) z) Int32.lt_irrefl)
theorem add64 : ∀ a, a < 50 → ∀ b, b < 50 → (nI a).toInt64 + (nI b).toInt64 = (nI (a + b)).toInt64 := by decide +kernel
theorem lt_or (x : Int32) {c : Nat} (hc : c < 2 ^ 31) : noOne x c ∨ ∃ g, g < c ∧ x = nI g := by
  by_cases h : x < 0
  · exact Or.inl (Or.inl h)
  · obtain ⟨v, hv, rfl⟩ := nI_of h
    by_cases q : v < c
    · exact Or.inr ⟨v, q, rfl⟩
    · exact Or.inl (Or.inr (nI_le (by omega) hv))
theorem held_or (n : Nat) (x : Int32) : ∃ v, v ≤ 99 ∧ fX6_held n x = some (nI v) ∧ fX7_within n x = some (nI v) := by
  unfold fX6_held fX7_within
  by_cases h : x < 0
  · refine ⟨0, by decide, ?_, ?_⟩
    · rw [if_pos (show x < (99 : Int32) from Int32.lt_trans h (by decide)), if_neg (fun z => absurd (Int32.lt_trans z h) Int32.lt_irrefl)]
      rfl
    · rw [if_neg (fun z => absurd (Int32.lt_of_lt_of_le h z) Int32.lt_irrefl)]
      rfl
  · obtain ⟨v, hv, rfl⟩ := nI_of h
    rw [if_pos (Int32.not_lt.mp h)]
    by_cases q : v < 99
    · refine ⟨v, by omega, ?_, ?_⟩
      · rw [if_pos (show nI v < (99 : Int32) from nI_lt (b := 99) q (by decide))]
        by_cases q0 : v = 0
        · subst q0; rfl
        · rw [if_pos (show (0 : Int32) < nI v from nI_lt (a := 0) (by omega) hv)]
      · rw [if_pos (show nI v ≤ (99 : Int32) from nI_le (b := 99) (by omega) (by decide))]
    · refine ⟨99, by decide, ?_, ?_⟩
      · rw [if_neg (show ¬ nI v < (99 : Int32) from fun z => absurd (Int32.lt_of_lt_of_le z (nI_le (a := 99) (by omega) hv)) Int32.lt_irrefl)]
        rfl
      · by_cases q9 : v = 99
        · subst q9; rfl
        · rw [if_neg (show ¬ nI v ≤ (99 : Int32) from fun z => absurd (Int32.lt_of_lt_of_le (nI_lt (a := 99) (by omega) hv) z) Int32.lt_irrefl)]
          rfl
theorem RelS_put {uS : SH} {so sz nu : Nat → Int32} (h : RelS uS so sz nu) {j k : Nat} (hj : j < 4) (hk : k < 40) (v : Int32) : RelS (va_up uS.1 j (vp_updL (uS.1 j) k v.toInt64), uS.2.1, uS.2.2) so sz (upd nu (40 * j + k) v) := by
  intro i hi
  obtain ⟨q1, q2, q3, q5⟩ := h i hi
  refine ⟨q1, q2, q3, fun m hm => ?_⟩
  show va_up uS.1 j _ i m = _
  by_cases e : i = j
  · subst e
    rw [va_up_self]
    by_cases e2 : m = k
    · subst e2
      rw [pk_us]
      exact pk_uLs
    · rw [pk_un (show 40 * i + m ≠ 40 * i + k by omega)]
      exact (pk_uLn e2).trans (q5 m hm)
  · rw [va_up_ne _ _ e, pk_un (show 40 * i + m ≠ 40 * j + k by omega)]
    exact q5 m hm
theorem p_put {n : Nat} {uK : Int32} {uS : SH} {uM : MO} {so sz nu : Nat → Int32} (hS : RelS uS so sz nu) (x1 x2 x3 : Int32) : ∃ (A : Int32) (S' : SH) (nu' : Nat → Int32), fX6_put n uK uS x1 x2 x3 = some (A, S') ∧ fX7_put n uM so sz nu x1 x2 x3 = some (A, nu') ∧ RelS S' so sz nu' := by
  unfold fX6_put fX7_put
  rcases out_or x1 (lo := 0) (hi := 3) (by decide) (by decide) with h1 | ⟨j, -, hj, rfl⟩
  · rw [show fX6_within n x1 0 3 = some 0 from k_in0 (lo := 0) (hi := 3) h1, m_sheet0 h1]
    exact ⟨_, _, _, rfl, rfl, hS⟩
  rw [show fX6_within n (nI j) 0 3 = some 1 from k_in1 (lo := 0) (hi := 3) (by omega) hj (by decide), m_sheet1 hj]
  obtain ⟨q1, q2, ⟨L, hL, q3, q4⟩, q5⟩ := hS j (by omega)
  have j4 : ¬ (nI j < 0 ∨ 4 ≤ j) := nI_ok2 (show j < 4 by omega) (by decide)
  simp only [Option.bind_some, if_neg i10, nI_clamp (show j < 2 ^ 31 by omega), if_neg j4, q1, q3, q4]
  rcases so_or q2 with ⟨z1, z2⟩ | ⟨z1, z2⟩
  · simp only [if_pos z1, if_neg z2]
    exact ⟨_, _, _, rfl, rfl, hS⟩
  simp only [if_neg z1, if_pos z2, show fX7_isIn n x2.toInt64 (0 : Int64) (nI L - 1).toInt64 = fX6_within n x2 0 (nI L - 1) from isIn_eq x2 0 (nI L - 1)]
  rcases lt_or x2 (c := L) (by omega) with h2 | ⟨k, hk, rfl⟩
  · rw [w_one0 (by omega) h2]
    exact ⟨_, _, _, rfl, rfl, hS⟩
  rw [w_one1 (by omega) hk]
  have ix : ((40 : Int32) * nI j) + nI k = nI (40 * j + k) := by rw [show (40 : Int32) = nI 40 from rfl, pk_mul, nI_add]
  have k1 : ¬ (nI k < 0 ∨ 40 ≤ k) := nI_ok2 (show k < 40 by omega) (by decide)
  have k2 : ¬ (nI (40 * j + k) < 0 ∨ 160 ≤ 40 * j + k) := nI_ok2 (show 40 * j + k < 160 by omega) (by decide)
  unfold fX6_narrowed
  simp only [Option.bind_some, if_neg i10, ix, nI_clamp (show k < 2 ^ 31 by omega), nI_clamp (show 40 * j + k < 2 ^ 31 by omega), if_neg k1, if_neg k2]
  by_cases w0 : so j = 0
  · simp only [if_pos w0, Option.bind_some]
    exact ⟨_, _, _, rfl, rfl, RelS_put hS (by omega) (by omega) _⟩
  · simp only [if_neg w0]
    by_cases w1 : so j = 1
    · simp only [if_pos w1, Option.bind_some]
      exact ⟨_, _, _, rfl, rfl, RelS_put hS (by omega) (by omega) _⟩
    · simp only [if_neg w1, Option.bind_some]
      exact ⟨_, _, _, rfl, rfl, RelS_put hS (by omega) (by omega) _⟩
theorem m_lacks {n : Nat} {uM : MO} {so : Nat → Int32} {j : Nat} (hj : j < 4) (x2 : Int32) (q2 : so j = -1 ∨ ∃ q, q < 4 ∧ so j = nI q) : fX7_lacks n uM so (nI j) x2 = if so j = -1 then some (-11) else if so j = x2 then some 0 else some (-13) := by
  unfold fX7_lacks
  simp only [nI_clamp (show j < 2 ^ 31 by omega), if_neg (nI_ok2 hj (by decide))]
  rcases so_or q2 with ⟨z1, z2⟩ | ⟨z1, z2⟩
  · simp only [if_pos z1, if_neg z2]
  · simp only [if_neg z1, if_pos z2]
theorem p_item {n : Nat} {uK : Int32} {uS : SH} {uM : MO} {so sz nu : Nat → Int32} (hS : RelS uS so sz nu) (x1 x2 x3 : Int32) : ∃ A : Int32, fX6_item n uK uS x1 x2 x3 = some A ∧ fX7_item n uM so sz nu x1 x2 x3 = some A := by
  unfold fX6_item fX7_item
  rcases out_or x1 (lo := 0) (hi := 3) (by decide) (by decide) with h1 | ⟨j, -, hj, rfl⟩
  · rw [show fX6_within n x1 0 3 = some 0 from k_in0 (lo := 0) (hi := 3) h1, m_sheet0 h1]
    exact ⟨_, rfl, rfl⟩
  rw [show fX6_within n (nI j) 0 3 = some 1 from k_in1 (lo := 0) (hi := 3) (by omega) hj (by decide), m_sheet1 hj, show fX7_isIn n x2.toInt64 0 3 = fX6_within n x2 0 3 from isIn_eq x2 0 3]
  rcases out_or x2 (lo := 0) (hi := 3) (by decide) (by decide) with h2 | ⟨w, -, hw, rfl⟩
  · rw [show fX6_within n x2 0 3 = some 0 from k_in0 (lo := 0) (hi := 3) h2]
    exact ⟨_, rfl, rfl⟩
  rw [show fX6_within n (nI w) 0 3 = some 1 from k_in1 (lo := 0) (hi := 3) (by omega) hw (by decide)]
  obtain ⟨q1, q2, ⟨L, hL, q3, q4⟩, q5⟩ := hS j (by omega)
  have j4 : ¬ (nI j < 0 ∨ 4 ≤ j) := nI_ok2 (show j < 4 by omega) (by decide)
  simp only [Option.bind_some, if_neg i10, nI_clamp (show j < 2 ^ 31 by omega), if_neg j4, q1, q3, q4, m_lacks (n := n) (uM := uM) (show j < 4 by omega) (nI w) q2]
  by_cases z1 : so j = -1
  · simp only [if_pos z1]
    exact ⟨_, rfl, rfl⟩
  simp only [if_neg z1]
  by_cases z2 : so j = nI w
  · simp only [if_pos z2, Option.bind_some, if_true, show fX7_isIn n x3.toInt64 (0 : Int64) (nI L - 1).toInt64 = fX6_within n x3 0 (nI L - 1) from isIn_eq x3 0 (nI L - 1)]
    rcases lt_or x3 (c := L) (by omega) with h2 | ⟨k, hk, rfl⟩
    · rw [w_one0 (by omega) h2]
      exact ⟨_, rfl, rfl⟩
    rw [w_one1 (by omega) hk]
    have ix : ((40 : Int32) * nI j) + nI k = nI (40 * j + k) := by rw [show (40 : Int32) = nI 40 from rfl, pk_mul, nI_add]
    have k1 : ¬ (nI k < 0 ∨ 40 ≤ k) := nI_ok2 (show k < 40 by omega) (by decide)
    have k2 : ¬ (nI (40 * j + k) < 0 ∨ 160 ≤ 40 * j + k) := nI_ok2 (show 40 * j + k < 160 by omega) (by decide)
    simp only [Option.bind_some, if_neg i10, ix, nI_clamp (show k < 2 ^ 31 by omega), nI_clamp (show 40 * j + k < 2 ^ 31 by omega), if_neg k1, if_neg k2, q5 k (by omega), to3264]
    exact ⟨_, rfl, rfl⟩
  · simp only [if_neg z2]
    exact ⟨_, rfl, rfl⟩
theorem k_mindsL {n : Nat} {uK : Int32} {uS : SH} {x1 : Int32} {j a g N : Nat} {f : Nat → Int32} (hS : ∀ k, k < 40 → uS.1 j k = (f k).toInt64) {uM : MO} {so sz nu : Nat → Int32} {i1 : Nat} (hf : ∀ k, k < 40 → f k = nu (40 * i1 + k)) (hi1 : i1 < 4) (ha : a + N ≤ 40) (hN8 : N ≤ 8) : ∀ (k i m : Nat) (uN : TB) (s : Nat → Int32) (t : TA), i + k = N → k < m → RK uN t → RM s t → OkT t → g + N ≤ tN t → ∃ (u' : TB) (s' : Nat → Int32), lpF (fX6_minds_F109 n uK uS x1 (nI a) (nI g) (nI N)) m (uN, j, nI i) = some (nI N, u') ∧ lpF (fX7_minds_F98 n uM so sz nu (nI i1) (nI a) (nI g) (nI N)) m (s, nI i) = some (nI N, s') ∧ RelT u' s' := by
  intro k
  induction k with
  | zero =>
    intro i m uN s t hi hm hK hM hO hg
    obtain ⟨m, rfl⟩ : ∃ x, m = x + 1 := ⟨m - 1, by omega⟩
    rw [lpS, lpS]
    unfold fX6_minds_F109 fX7_minds_F98
    rw [if_pos (nI_le (by omega) (by omega)), if_pos (nI_le (by omega) (by omega))]
    exact ⟨_, _, rfl, rfl, t, hK, hM, hO⟩
  | succ k ih =>
    intro i m uN s t hi hm hK hM hO hg
    obtain ⟨m, rfl⟩ : ∃ x, m = x + 1 := ⟨m - 1, by omega⟩
    have hgi : g + i < 8 := by have := hO.1; omega
    obtain ⟨v, hv, v1, v2⟩ := held_or n (nu (40 * i1 + (a + i)))
    obtain ⟨u', s', e1, e2, r⟩ := ih (i + 1) m _ _ _ (by omega) (by omega) (RK_G (i := g + i) (x := v) hK) (RM_G (i := g + i) (x := v) hM) (ok_G hO hv) hg
    rw [lpS, lpS]
    generalize lpF (fX6_minds_F109 n uK uS x1 (nI a) (nI g) (nI N)) m = kk at *
    generalize lpF (fX7_minds_F98 n uM so sz nu (nI i1) (nI a) (nI g) (nI N)) m = km at *
    unfold fX6_minds_F109 fX7_minds_F98
    have ix : ((40 : Int32) * nI i1 + nI a) + nI i = nI (40 * i1 + (a + i)) := by rw [show (40 : Int32) = nI 40 from rfl, pk_mul, nI_add, nI_add, Nat.add_assoc]
    have iy : ((8 : Int32) + ((5 : Int32) * nI (g + i))) + (2 : Int32) = nI (8 + 5 * (g + i) + 2) := ixM (g + i) hgi 2 (by decide)
    simp only [nI_add a i, nI_add g i, ix, iy, nI_clamp (show a + i < 2 ^ 31 by omega), nI_clamp (show g + i < 2 ^ 31 by omega), nI_clamp (show 40 * i1 + (a + i) < 2 ^ 31 by omega), nI_clamp (show 8 + 5 * (g + i) + 2 < 2 ^ 31 by omega), show nI i + (1 : Int32) = nI (i + 1) from nI_1 i, hS (a + i) (by omega), hf (a + i) (by omega), to3264, v1, v2, Option.bind_some]
    rw [if_neg (show ¬ nI N ≤ nI i from nI_ge (by omega) (by omega)), if_neg (show ¬ nI N ≤ nI i from nI_ge (by omega) (by omega)), if_neg (nI_ok2 (show a + i < 40 by omega) (by decide)), if_neg (nI_ok2 hgi (by decide)), if_neg (nI_ok2 (show 40 * i1 + (a + i) < 160 by omega) (by decide)), if_neg (nI_ok2 (show 8 + 5 * (g + i) + 2 < 48 by omega) (by decide))]
    exact ⟨u', s', e1, e2, r⟩
theorem p_minds {n : Nat} (hn : 300 ≤ n) {uK : Int32} {uN : TB} {uS : SH} {uM : MO} {s so sz nu : Nat → Int32} (h : RelT uN s) (hS : RelS uS so sz nu) (x1 x2 x3 x4 : Int32) : ∃ (A : Int32) (N' : TB) (s' : Nat → Int32), fX6_minds n uK uN uS x1 x2 x3 x4 = some (A, N') ∧ fX7_minds n uM s so sz nu x1 x2 x3 x4 = some (A, s') ∧ RelT N' s' := by
  obtain ⟨t, hK, hM, hO⟩ := h
  unfold fX6_minds fX7_minds
  rcases out_or x1 (lo := 0) (hi := 3) (by decide) (by decide) with h1 | ⟨j, -, hj, rfl⟩
  · rw [show fX6_within n x1 0 3 = some 0 from k_in0 (lo := 0) (hi := 3) h1, m_sheet0 h1]
    exact ⟨_, _, _, rfl, rfl, t, hK, hM, hO⟩
  rw [show fX6_within n (nI j) 0 3 = some 1 from k_in1 (lo := 0) (hi := 3) (by omega) hj (by decide), m_sheet1 hj]
  rcases one_or x3 hO.1 with h2 | ⟨g, hg, rfl⟩
  · rw [k_has0 hK hO h2, m_one0 hM h2]
    exact ⟨_, _, _, rfl, rfl, t, hK, hM, hO⟩
  rw [k_has1 hK hO hg, m_one1 hM hO hg, show fX7_isIn n x4.toInt64 0 8 = fX6_within n x4 0 8 from isIn_eq x4 0 8]
  rcases out_or x4 (lo := 0) (hi := 8) (by decide) (by decide) with h3 | ⟨N, -, hN, rfl⟩
  · rw [show fX6_within n x4 0 8 = some 0 from k_in0 (lo := 0) (hi := 8) h3]
    exact ⟨_, _, _, rfl, rfl, t, hK, hM, hO⟩
  rw [show fX6_within n (nI N) 0 8 = some 1 from k_in1 (lo := 0) (hi := 8) (by omega) hN (by decide)]
  have h8 : g < 8 := Nat.lt_of_lt_of_le hg hO.1
  have hN8 := hO.1
  obtain ⟨q1, q2, ⟨L, hL, q3, q4⟩, q5⟩ := hS j (by omega)
  have j4 : ¬ (nI j < 0 ∨ 4 ≤ j) := nI_ok2 (show j < 4 by omega) (by decide)
  simp only [Option.bind_some, if_neg i10, nI_clamp (show j < 2 ^ 31 by omega), if_neg j4, q1, q3, q4, m_lacks (n := n) (uM := uM) (show j < 4 by omega) 0 q2, nI_add, c0, hK.2.2.2.1, hM.1]
  by_cases hgN : g + N ≤ tN t
  rotate_left 1
  · rw [if_neg (show ¬ nI (g + N) ≤ nI (tN t) from nI_ge (by omega) (by omega)), if_neg (show ¬ nI (g + N) ≤ nI (tN t) from nI_ge (by omega) (by omega))]
    exact ⟨_, _, _, rfl, rfl, t, hK, hM, hO⟩
  rw [if_pos (show nI (g + N) ≤ nI (tN t) from nI_le (by omega) (by omega)), if_pos (show nI (g + N) ≤ nI (tN t) from nI_le (by omega) (by omega))]
  by_cases z1 : so j = -1
  · simp only [if_pos z1]
    exact ⟨_, _, _, rfl, rfl, t, hK, hM, hO⟩
  simp only [if_neg z1]
  by_cases z2 : so j = 0
  rotate_left 1
  · simp only [if_neg z2]
    exact ⟨_, _, _, rfl, rfl, t, hK, hM, hO⟩
  simp only [if_pos z2, Option.bind_some, if_true, show fX7_isIn n x2.toInt64 (0 : Int64) (nI L).toInt64 = fX6_within n x2 0 (nI L) from isIn_eq x2 0 (nI L)]
  rcases out_or x2 (lo := 0) (hi := L) (by decide) (by omega) with h3 | ⟨a, -, ha, rfl⟩
  · rw [show fX6_within n x2 0 (nI L) = some 0 from k_in0 (lo := 0) (hi := L) h3]
    exact ⟨_, _, _, rfl, rfl, t, hK, hM, hO⟩
  rw [show fX6_within n (nI a) 0 (nI L) = some 1 from k_in1 (lo := 0) (hi := L) (by omega) ha (by omega)]
  have e64 : (nI a).toInt64 + (nI N).toInt64 = (nI (a + N)).toInt64 := add64 a (by omega) N (by omega)
  simp only [Option.bind_some, if_neg i10, nI_add, e64, lg_le, le64]
  by_cases haN : a + N ≤ L
  · rw [if_pos (nI_le haN (by omega)), if_pos (nI_le haN (by omega))]
    obtain ⟨u', s', e1, e2, r⟩ := k_mindsL (n := n) (uK := uK) (x1 := nI j) (g := g) (uM := uM) (so := so) (sz := sz) (nu := nu) (f := fun k => nu (40 * j + k)) q5 (fun _ _ => rfl) (show j < 4 by omega) (show a + N ≤ 40 by omega) hN N 0 n uN s t (by omega) (by omega) hK hM hO hgN
    exact ⟨_, u', s', e1, e2, r⟩
  · rw [if_neg (nI_ge (by omega) (by omega)), if_neg (nI_ge (by omega) (by omega))]
    exact ⟨_, _, _, rfl, rfl, t, hK, hM, hO⟩
