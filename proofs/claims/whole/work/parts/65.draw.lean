/-! PURE, 6: a guest comes, sinks; courses by draws -/
def aSeat (t : TA) (k p : Nat) : TA := (tL t, at1 (tK t) (tN t) k, at1 (tH t) (tN t) p, at1 (tG t) (tN t) 0, at1 (tT t) (tN t) 0, tD t, tN t + 1, tC t, tO t, tZ t)
theorem bit_hi {m c : Nat} (h : m < 2 ^ c) : bitN m c = 0 := by
  unfold bitN
  rw [Nat.testBit_lt_two_pow h]
  rfl
theorem ok_seat {t : TA} (hO : OkT t) (hc : tN t < 8) {k p : Nat} (hk : k ≤ 5) (hp : p ≤ 7) : OkT (aSeat t k p) := by
  refine ⟨show tN t + 1 ≤ 8 by omega, hO.2.1, fun g hg => ?_, ?_, hO.2.2.2.2⟩
  · show (if g = tN t then k else tK t g) ≤ 5 ∧ (if g = tN t then p else tH t g) ≤ 7 ∧ (if g = tN t then 0 else tG t g) ≤ 99 ∧ (if g = tN t then 0 else tT t g) ≤ 9999
    by_cases e : g = tN t
    · simp only [if_pos e]
      omega
    · simp only [if_neg e]
      exact hO.2.2.1 g (by have : g < tN t + 1 := hg; omega)
  · show tD t < 2 ^ (tN t + 1)
    exact Nat.lt_of_lt_of_le hO.2.2.2.1 (Nat.pow_le_pow_right (by decide) (by omega))
theorem k_seat {n : Nat} {u : TB} {t : TA} (hR : RK u t) (hO : OkT t) (hc : tN t < 8) (k p : Nat) : ∃ u' : TB, fX4_seat n u (nI k) (nI p) = some (nI (tN t), u') ∧ RK u' (aSeat t k p) := by
  have j8 : ¬ (nI (tN t) < 0 ∨ 8 ≤ tN t) := nI_ok2 hc (by decide)
  unfold fX4_seat fX4_drown
  simp only [hR.2.2.2.1, nI_cl8 hc, if_neg j8, if_true, Option.bind_some]
  refine ⟨_, rfl, hR.1, fun g hg => ?_, ?_, ?_, hR.2.2.2.2⟩
  · show upd u.2.1 (tN t) (nI k) g = nI (if g = tN t then k else tK t g) ∧ upd u.2.2.1 (tN t) (nI p) g = nI (if g = tN t then p else tH t g) ∧ upd u.2.2.2.1 (tN t) 0 g = nI (if g = tN t then 0 else tG t g) ∧ upd u.2.2.2.2.1 (tN t) 0 g = nI (if g = tN t then 0 else tT t g)
    unfold upd
    by_cases e : g = tN t
    · simp only [if_pos e]
      exact ⟨trivial, trivial, rfl, rfl⟩
    · simp only [if_neg e]
      exact hR.2.1 g (by have : g < tN t + 1 := hg; omega)
  · show (u.2.2.2.2.2.1 &&& (((1 : Int32) <<< (nI (tN t) &&& 31)) ^^^ (-1 : Int32))) = nI (tD t)
    rw [hR.2.2.1, offI _ (mask_lt hO) _ hc, bit_hi hO.2.2.2.1]
    rw [Nat.zero_mul, Nat.sub_zero]
  · exact nI_1 (tN t)
theorem m_comes {n : Nat} {uM : MO} {s : Nat → Int32} {t : TA} (hR : RM s t) (hO : OkT t) (hc : tN t < 8) (k p : Nat) : ∃ s' : Nat → Int32, fX7_comes n uM s (nI k) (nI p) = some s' ∧ RM s' (aSeat t k p) := by
  have i0 : (8 : Int32) + ((5 : Int32) * nI (tN t)) = nI (8 + 5 * tN t) := by rw [show (5 : Int32) = nI 5 from rfl, pk_mul]; exact nI_add 8 _
  have i1 : nI (8 + 5 * tN t) + (1 : Int32) = nI (8 + 5 * tN t + 1) := nI_add _ 1
  have i2 : nI (8 + 5 * tN t) + (2 : Int32) = nI (8 + 5 * tN t + 2) := nI_add _ 2
  have i3 : nI (8 + 5 * tN t) + (3 : Int32) = nI (8 + 5 * tN t + 3) := nI_add _ 3
  have i4 : nI (8 + 5 * tN t) + (4 : Int32) = nI (8 + 5 * tN t + 4) := nI_add _ 4
  obtain ⟨h0, h1, h2, h3, h4, h5⟩ := id hR
  unfold fX7_comes
  simp only [c0, h0, i0, i1, i2, i3, i4, nI_clamp (show 8 + 5 * tN t < 2 ^ 31 by omega), nI_clamp (show 8 + 5 * tN t + 1 < 2 ^ 31 by omega), nI_clamp (show 8 + 5 * tN t + 2 < 2 ^ 31 by omega), nI_clamp (show 8 + 5 * tN t + 3 < 2 ^ 31 by omega), nI_clamp (show 8 + 5 * tN t + 4 < 2 ^ 31 by omega), if_neg (nI_ok2 (show 8 + 5 * tN t < 48 by omega) (by decide)), if_neg (nI_ok2 (show 8 + 5 * tN t + 1 < 48 by omega) (by decide)), if_neg (nI_ok2 (show 8 + 5 * tN t + 2 < 48 by omega) (by decide)), if_neg (nI_ok2 (show 8 + 5 * tN t + 3 < 48 by omega) (by decide)), if_neg (nI_ok2 (show 8 + 5 * tN t + 4 < 48 by omega) (by decide))]
  refine ⟨_, rfl, ?_, ?_, ?_, ?_, fun i hi => ?_, fun g hg => ?_⟩
  · rw [pk_us]
    repeat rw [pk_un (by omega)]
    rw [h0]
    exact nI_1 (tN t)
  · repeat rw [pk_un (by omega)]
    exact h1
  · repeat rw [pk_un (by omega)]
    exact h2
  · repeat rw [pk_un (by omega)]
    exact h3
  · repeat rw [pk_un (by omega)]
    exact h4 i hi
  · have hg' : g < tN t + 1 := hg
    show _ = nI (if g = tN t then k else tK t g) ∧ _ = nI (if g = tN t then p else tH t g) ∧ _ = nI (if g = tN t then 0 else tG t g) ∧ _ = nI (if g = tN t then 0 else tT t g) ∧ _ = nI (bitN (tD t) g)
    by_cases e : g = tN t
    · subst e
      simp only [if_true]
      rw [bit_hi hO.2.2.2.1]
      refine ⟨?_, ?_, ?_, ?_, ?_⟩
      · repeat rw [pk_un (by omega)]
        exact pk_us
      · repeat rw [pk_un (by omega)]
        exact pk_us
      · repeat rw [pk_un (by omega)]
        exact pk_us
      · repeat rw [pk_un (by omega)]
        exact pk_us
      · repeat rw [pk_un (by omega)]
        exact pk_us
    · simp only [if_neg e]
      obtain ⟨a, b, c, d, f⟩ := h5 g (by omega)
      refine ⟨?_, ?_, ?_, ?_, ?_⟩
      · repeat rw [pk_un (by omega)]
        exact a
      · repeat rw [pk_un (by omega)]
        exact b
      · repeat rw [pk_un (by omega)]
        exact c
      · repeat rw [pk_un (by omega)]
        exact d
      · repeat rw [pk_un (by omega)]
        exact f
theorem p_guest {n : Nat} {uK : Int32} {uN : TB} {uM : MO} {s : Nat → Int32} (h : RelT uN s) (x1 x2 : Int32) : ∃ (A : Int32) (N' : TB) (s' : Nat → Int32), fX6_guest n uK uN x1 x2 = some (A, N') ∧ fX7_guest n uM s x1 x2 = some (A, s') ∧ RelT N' s' := by
  obtain ⟨t, hK, hM, hO⟩ := h
  have hN := hO.1
  unfold fX6_guest fX7_guest
  rcases out_or x1 (lo := 0) (hi := 5) (by decide) (by decide) with h2 | ⟨k, -, hk, rfl⟩
  · rw [show fX6_within n x1 0 5 = some 0 from k_in0 (lo := 0) (hi := 5) h2, show fX7_isIn n x1.toInt64 0 5 = some 0 from m_in0 (lo := 0) (hi := 5) (by decide) (by decide) h2]
    exact ⟨_, _, _, rfl, rfl, t, hK, hM, hO⟩
  rw [show fX6_within n (nI k) 0 5 = some 1 from k_in1 (lo := 0) (hi := 5) (by omega) hk (by decide), show fX7_isIn n (nI k).toInt64 0 5 = some 1 from m_in1 (lo := 0) (hi := 5) (by omega) hk (by decide)]
  rcases out_or x2 (lo := 0) (hi := 7) (by decide) (by decide) with h2 | ⟨p, -, hp, rfl⟩
  · rw [show fX6_within n x2 0 7 = some 0 from k_in0 (lo := 0) (hi := 7) h2, m_piece0 h2]
    exact ⟨_, _, _, rfl, rfl, t, hK, hM, hO⟩
  rw [show fX6_within n (nI p) 0 7 = some 1 from k_in1 (lo := 0) (hi := 7) (by omega) hp (by decide), m_piece1 hp]
  simp only [Option.bind_some, if_neg i10, hK.2.2.2.1, c0, hM.1]
  by_cases hc : tN t < 8
  · obtain ⟨u', e1, r1⟩ := k_seat (n := n) hK hO hc k p
    obtain ⟨s', e2, r2⟩ := m_comes (n := n) (uM := uM) hM hO hc k p
    rw [if_neg (show ¬ (8 : Int32) ≤ nI (tN t) from nI_ge (b := 8) hc (by decide)), if_neg (show ¬ nI (tN t) = (8 : Int32) from nI_inj (b := 8) (by omega) (by decide) (by omega)), e1, e2]
    have e3 : s' 0 = nI (tN t + 1) := r2.1
    simp only [Option.bind_some, e3, show nI (tN t + 1) - (1 : Int32) = nI (tN t) from nI_pred _]
    exact ⟨_, _, _, rfl, rfl, _, r1, r2, ok_seat hO hc hk hp⟩
  · have e8 : tN t = 8 := by omega
    rw [e8]
    exact ⟨_, _, _, rfl, rfl, t, hK, hM, hO⟩
theorem bit_off : ∀ m, m < 256 → ∀ g, g < 8 → ∀ j, j < 8 → bitN (m - bitN m g * 2 ^ g) j = if j = g then 0 else bitN m j := by decide +kernel
theorem ok_D {t : TA} (hO : OkT t) {d : Nat} (hd : d < 2 ^ tN t) : OkT (setD t d) := ⟨hO.1, hO.2.1, hO.2.2.1, hd, hO.2.2.2.2⟩
theorem p_sink {n : Nat} {uK : Int32} {uN : TB} {uM : MO} {s : Nat → Int32} (h : RelT uN s) (x1 x2 x3 : Int32) : ∃ (A : Int32) (N' : TB) (s' : Nat → Int32), fX6_sink n uK uN x1 x2 x3 = some (A, N') ∧ fX7_sink n uM s x1 x2 x3 = some (A, s') ∧ RelT N' s' := by
  obtain ⟨t, hK, hM, hO⟩ := h
  have hN := hO.1
  unfold fX6_sink fX7_sink fX6_sink_b51 fX6_sink_b81 fX6_sink_b98 fX7_sink_b32 fX7_sink_b56
  rcases one_or x1 hO.1 with h1 | ⟨g, hg, rfl⟩
  · rw [k_has0 hK hO h1, m_one0 hM h1]
    exact ⟨_, _, _, rfl, rfl, t, hK, hM, hO⟩
  have h8 : g < 8 := Nat.lt_of_lt_of_le hg hO.1
  have i2 : ((8 : Int32) + ((5 : Int32) * nI g)) + (2 : Int32) = nI (8 + 5 * g + 2) := ixM g h8 2 (by decide)
  have i4 : ((8 : Int32) + ((5 : Int32) * nI g)) + (4 : Int32) = nI (8 + 5 * g + 4) := ixM g h8 4 (by decide)
  rw [k_has1 hK hO hg, m_one1 hM hO hg]
  simp only [Option.bind_some, if_neg i10, nI_cl8 h8, if_neg (nI_ok2 h8 (by decide)), k_isDrowned hK hO h8, i2, i4, m_becomes (n := n) (uM := uM) (s := s) (v := x3) (show 8 + 5 * g + 2 < 48 by omega), m_becomes (n := n) (uM := uM) (s := s) (v := x3) (show 8 + 5 * g + 4 < 48 by omega)]
  rcases out_or x2 (lo := 0) (hi := 1) (by decide) (by decide) with h2 | ⟨k, -, hk, rfl⟩
  · have ne : ∀ j, j ≤ 1 → ¬ x2 = nI j := fun j hj e => not_out (lo := 0) (hi := 1) (Nat.zero_le j) hj (by decide) (e ▸ h2)
    rw [show fX7_isIn n x2.toInt64 0 1 = some 0 from m_in0 (lo := 0) (hi := 1) (by decide) (by decide) h2, if_neg (show ¬ x2 = 0 from ne 0 (by decide)), if_neg (show ¬ x2 = 1 from ne 1 (by decide))]
    exact ⟨_, _, _, rfl, rfl, t, hK, hM, hO⟩
  rw [show fX7_isIn n (nI k).toInt64 0 1 = some 1 from m_in1 (lo := 0) (hi := 1) (by omega) hk (by decide)]
  rcases (show k = 0 ∨ k = 1 by omega) with rfl | rfl
  · rw [if_pos (show nI 0 = (0 : Int32) from rfl), if_neg (show ¬ nI 0 = (1 : Int32) by decide)]
    simp only [Option.bind_some, if_neg i10, if_pos (show nI 0 = (0 : Int32) from rfl)]
    rcases out_or x3 (lo := 0) (hi := 99) (by decide) (by decide) with h3 | ⟨v, -, hv, rfl⟩
    · rw [show fX6_within n x3 0 99 = some 0 from k_in0 (lo := 0) (hi := 99) h3, show fX7_isIn n x3.toInt64 0 99 = some 0 from m_in0 (lo := 0) (hi := 99) (by decide) (by decide) h3]
      exact ⟨_, _, _, rfl, rfl, t, hK, hM, hO⟩
    · rw [show fX6_within n (nI v) 0 99 = some 1 from k_in1 (lo := 0) (hi := 99) (by omega) hv (by decide), show fX7_isIn n (nI v).toInt64 0 99 = some 1 from m_in1 (lo := 0) (hi := 99) (by omega) hv (by decide)]
      simp only [Option.bind_some, if_neg i10, (hK.2.1 g hg).2.2.1, (hM.2.2.2.2.2 g hg).2.2.1]
      exact ⟨_, _, _, rfl, rfl, _, RK_G hK, RM_G hM, ok_G hO hv⟩
  · rw [if_neg (show ¬ nI 1 = (0 : Int32) by decide), if_pos (show nI 1 = (1 : Int32) from rfl)]
    simp only [Option.bind_some, if_neg i10, if_neg (show ¬ nI 1 = (0 : Int32) by decide)]
    rcases out_or x3 (lo := 0) (hi := 1) (by decide) (by decide) with h3 | ⟨v, -, hv, rfl⟩
    · rw [show fX6_within n x3 0 1 = some 0 from k_in0 (lo := 0) (hi := 1) h3, show fX7_isIn n x3.toInt64 0 1 = some 0 from m_in0 (lo := 0) (hi := 1) (by decide) (by decide) h3]
      exact ⟨_, _, _, rfl, rfl, t, hK, hM, hO⟩
    · rw [show fX6_within n (nI v) 0 1 = some 1 from k_in1 (lo := 0) (hi := 1) (by omega) hv (by decide), show fX7_isIn n (nI v).toInt64 0 1 = some 1 from m_in1 (lo := 0) (hi := 1) (by omega) hv (by decide)]
      simp only [Option.bind_some, if_neg i10, (hM.2.2.2.2.2 g hg).2.2.2.2]
      have hmk := mask_lt hO
      have hb : ∀ X : Int32 → Option (Int32 × TB), (if nI (bitN (tD t) g) = 0 then X 0 else X 1) = X (nI (bitN (tD t) g)) := by
        intro X
        unfold bitN
        cases (tD t).testBit g <;> rfl
      rcases (show v = 0 ∨ v = 1 by omega) with rfl | rfl
      · refine ⟨nI (bitN (tD t) g), (uN.1, uN.2.1, uN.2.2.1, uN.2.2.2.1, uN.2.2.2.2.1, nI (tD t - bitN (tD t) g * 2 ^ g), uN.2.2.2.2.2.2), upd s (8 + 5 * g + 4) (nI 0), ?_, rfl, setD t (tD t - bitN (tD t) g * 2 ^ g), ⟨hK.1, hK.2.1, rfl, hK.2.2.2⟩, ?_, ok_D hO (by have := hO.2.2.2.1; omega)⟩
        · rw [← offI _ hmk _ h8, ← hK.2.2.1]
          exact (hb (fun y => some (y, (uN.1, uN.2.1, uN.2.2.1, uN.2.2.2.1, uN.2.2.2.2.1, (uN.2.2.2.2.2.1 &&& (((1 : Int32) <<< (nI g &&& 31)) ^^^ (-1 : Int32))), uN.2.2.2.2.2.2))))
        · exact RM_updD (d := tD t) hM (fun j hj => bit_off _ hmk _ h8 _ (by omega))
      · refine ⟨nI (bitN (tD t) g), (uN.1, uN.2.1, uN.2.2.1, uN.2.2.2.1, uN.2.2.2.2.1, nI (tD t ||| 2 ^ g), uN.2.2.2.2.2.2), upd s (8 + 5 * g + 4) (nI 1), ?_, rfl, setD t (tD t ||| 2 ^ g), ⟨hK.1, hK.2.1, rfl, hK.2.2.2⟩, ?_, ok_D hO (Nat.or_lt_two_pow hO.2.2.2.1 (Nat.pow_lt_pow_right (by decide) hg))⟩
        · rw [← orI _ hmk _ h8, ← hK.2.2.1]
          exact (hb (fun y => some (y, (uN.1, uN.2.1, uN.2.2.1, uN.2.2.2.1, uN.2.2.2.2.1, (uN.2.2.2.2.2.1 ||| ((1 : Int32) <<< (nI g &&& 31))), uN.2.2.2.2.2.2))))
        · exact RM_updD (d := tD t) hM (fun j hj => bit_or _ hmk _ h8 _ (by omega))
