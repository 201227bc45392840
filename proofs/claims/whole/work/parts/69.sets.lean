/-! PURE, 10: sums and sets: state, many -/
theorem ex2 {o : Option Int32} (h : o ≠ none) : ∃ A : Int32, o = some A ∧ o = some A := by
  cases o with
  | none => exact absurd rfl h
  | some a => exact ⟨a, rfl, rfl⟩
def aSum (t : TA) : Nat → Nat
  | 0 => 0
  | i + 1 => aSum t i + tG t i
def aTl (t : TA) : Nat → Nat
  | 0 => 0
  | i + 1 => aTl t i + (if tT t i = 0 then 0 else 1)
def aPc (t : TA) : Nat → Nat
  | 0 => 0
  | i + 1 => if (tD t).testBit i then aPc t i else aPc t i ||| 2 ^ tH t i
def aGap (p o : Nat) : Nat → Nat → Nat
  | 0, _ => 8
  | k + 1, i => if bitN p ((o + i) % 8) = 0 then (o + i) % 8 else aGap p o k (i + 1)
def pc (p : Nat) : Nat := bitN p 0 + bitN p 1 + bitN p 2 + bitN p 3 + bitN p 4 + bitN p 5 + bitN p 6 + bitN p 7
theorem aPc_lt {t : TA} (hO : OkT t) : ∀ i, i ≤ tN t → aPc t i < 256 := by
  intro i
  induction i with
  | zero => intro _; exact (show 0 < 256 by decide)
  | succ i ih =>
    intro h
    have h7 := (hO.2.2.1 i (by omega)).2.1
    unfold aPc
    split
    · exact ih (by omega)
    · exact Nat.or_lt_two_pow (n := 8) (ih (by omega)) (Nat.pow_lt_pow_right (by decide) (by omega))
theorem k_sumL {n : Nat} {u : TB} {t : TA} (hR : RK u t) (hO : OkT t) : ∀ (k i m : Nat), i + k = tN t → k < m → lpF (fX4_goneTogether_F4 n u) m (nI (aSum t i), nI i) = some (nI (aSum t (tN t))) := by
  intro k
  induction k with
  | zero =>
    intro i m hi hm
    obtain ⟨m, rfl⟩ : ∃ x, m = x + 1 := ⟨m - 1, by omega⟩
    have hN := hO.1
    rw [lpS]
    unfold fX4_goneTogether_F4
    rw [hR.2.2.2.1, if_pos (nI_le (by omega) (by omega)), show tN t = i by omega]
  | succ k ih =>
    intro i m hi hm
    obtain ⟨m, rfl⟩ : ∃ x, m = x + 1 := ⟨m - 1, by omega⟩
    have hN := hO.1
    have h8 : i < 8 := by omega
    have ih' := ih (i + 1) m (by omega) (by omega)
    have nx : nI i + (1 : Int32) = nI (i + 1) := nI_1 i
    rw [lpS]
    generalize lpF (fX4_goneTogether_F4 n u) m = kk at *
    unfold fX4_goneTogether_F4
    simp only [nI_cl8 h8, hR.2.2.2.1, (hR.2.1 i (by omega)).2.2.1, nx, nI_add]
    rw [if_neg (nI_ge (show i < tN t by omega) (by omega)), if_neg (nI_ok2 h8 (by decide))]
    exact ih'
theorem m_sumL {n : Nat} {uM : MO} {s : Nat → Int32} {t : TA} (hR : RM s t) (hO : OkT t) : ∀ (k i m : Nat), i + k = tN t → k < m → lpF (fX7_goneOfAll_F4 n uM s) m (nI (aSum t i), nI i) = some (nI (aSum t (tN t))) := by
  intro k
  induction k with
  | zero =>
    intro i m hi hm
    obtain ⟨m, rfl⟩ : ∃ x, m = x + 1 := ⟨m - 1, by omega⟩
    have hN := hO.1
    rw [lpS]
    unfold fX7_goneOfAll_F4
    rw [c0, hR.1, if_pos (nI_le (by omega) (by omega)), show tN t = i by omega]
  | succ k ih =>
    intro i m hi hm
    obtain ⟨m, rfl⟩ : ∃ x, m = x + 1 := ⟨m - 1, by omega⟩
    have hN := hO.1
    have ih' := ih (i + 1) m (by omega) (by omega)
    have nx : nI i + (1 : Int32) = nI (i + 1) := nI_1 i
    rw [lpS]
    generalize lpF (fX7_goneOfAll_F4 n uM s) m = kk at *
    unfold fX7_goneOfAll_F4
    simp only [c0, hR.1, m_its2 hR hO (show i < tN t by omega), Option.bind_some, nx, nI_add]
    rw [if_neg (nI_ge (show i < tN t by omega) (by omega))]
    exact ih'
theorem aTl_le (t : TA) : ∀ i, aTl t i ≤ i := by
  intro i
  induction i with
  | zero => exact Nat.le_refl _
  | succ i ih =>
    unfold aTl
    split <;> omega
theorem k_tlL {n : Nat} {u : TB} {t : TA} (hR : RK u t) (hO : OkT t) : ∀ (k i m : Nat), i + k = tN t → k < m → lpF (fX4_tellers_F4 n u) m (nI (aTl t i), nI i) = some (nI (aTl t (tN t))) := by
  intro k
  induction k with
  | zero =>
    intro i m hi hm
    obtain ⟨m, rfl⟩ : ∃ x, m = x + 1 := ⟨m - 1, by omega⟩
    have hN := hO.1
    rw [lpS]
    unfold fX4_tellers_F4
    rw [hR.2.2.2.1, if_pos (nI_le (by omega) (by omega)), show tN t = i by omega]
  | succ k ih =>
    intro i m hi hm
    obtain ⟨m, rfl⟩ : ∃ x, m = x + 1 := ⟨m - 1, by omega⟩
    have hN := hO.1
    have h8 : i < 8 := by omega
    have ih' := ih (i + 1) m (by omega) (by omega)
    have t9 := (hO.2.2.1 i (by omega)).2.2.2
    have nx : nI i + (1 : Int32) = nI (i + 1) := nI_1 i
    have na : nI (aTl t i) + (1 : Int32) = nI (aTl t i + 1) := nI_1 _
    rw [lpS]
    generalize lpF (fX4_tellers_F4 n u) m = kk at *
    unfold fX4_tellers_F4 fX4_tellers_b24
    simp only [nI_cl8 h8, hR.2.2.2.1, (hR.2.1 i (by omega)).2.2.2, nx, na]
    rw [if_neg (nI_ge (show i < tN t by omega) (by omega)), if_neg (nI_ok2 h8 (by decide))]
    rw [show aTl t (i + 1) = aTl t i + (if tT t i = 0 then 0 else 1) from rfl] at ih'
    by_cases q : tT t i = 0
    · rw [q, if_pos (show nI 0 ≤ 0 by decide)]
      rw [if_pos q] at ih'
      exact ih'
    · rw [if_neg (nI_nle (by omega) (by omega))]
      rw [if_neg q] at ih'
      exact ih'
theorem m_tlL {n : Nat} {uM : MO} {s : Nat → Int32} {x : Int32} {t : TA} (hR : RM s t) (hO : OkT t) : ∀ (k i m : Nat), i + k = tN t → k < m → lpF (fX7_many_F61 n uM s x) m (nI (aTl t i), nI i) = some (nI (aTl t (tN t))) := by
  intro k
  induction k with
  | zero =>
    intro i m hi hm
    obtain ⟨m, rfl⟩ : ∃ x, m = x + 1 := ⟨m - 1, by omega⟩
    have hN := hO.1
    rw [lpS]
    unfold fX7_many_F61
    rw [c0, hR.1, if_pos (nI_le (by omega) (by omega)), show tN t = i by omega]
  | succ k ih =>
    intro i m hi hm
    obtain ⟨m, rfl⟩ : ∃ x, m = x + 1 := ⟨m - 1, by omega⟩
    have hN := hO.1
    have ih' := ih (i + 1) m (by omega) (by omega)
    have t9 := (hO.2.2.1 i (by omega)).2.2.2
    have nx : nI i + (1 : Int32) = nI (i + 1) := nI_1 i
    have na : nI (aTl t i) + (1 : Int32) = nI (aTl t i + 1) := nI_1 _
    have n0 : nI (aTl t i) + (0 : Int32) = nI (aTl t i + 0) := nI_add _ 0
    rw [lpS]
    generalize lpF (fX7_many_F61 n uM s x) m = kk at *
    unfold fX7_many_F61 fX7_many_b86
    simp only [c0, hR.1, m_its3 hR hO (show i < tN t by omega), Option.bind_some, nx, na, n0]
    rw [if_neg (nI_ge (show i < tN t by omega) (by omega))]
    rw [show aTl t (i + 1) = aTl t i + (if tT t i = 0 then 0 else 1) from rfl] at ih'
    by_cases q : tT t i = 0
    · rw [q, if_pos (show nI 0 ≤ 0 by decide)]
      rw [if_pos q] at ih'
      exact ih'
    · rw [if_neg (nI_nle (by omega) (by omega))]
      rw [if_neg q] at ih'
      exact ih'
theorem modI : ∀ m, m < 256 → ∀ i, i < 8 → (nI (m % 2 ^ i) ||| (nI (bitN m i) <<< (nI i &&& 31))) = nI (m % 2 ^ (i + 1)) := by decide +kernel
theorem m_drL {n : Nat} {uM : MO} {s : Nat → Int32} {t : TA} (hR : RM s t) (hO : OkT t) : ∀ (k i m : Nat), i + k = tN t → k < m → lpF (fX7_drownedOnes_F4 n uM s) m (nI (tD t % 2 ^ i), nI i) = some (nI (tD t)) := by
  intro k
  induction k with
  | zero =>
    intro i m hi hm
    obtain ⟨m, rfl⟩ : ∃ x, m = x + 1 := ⟨m - 1, by omega⟩
    have hN := hO.1
    rw [lpS]
    unfold fX7_drownedOnes_F4
    rw [c0, hR.1, if_pos (nI_le (by omega) (by omega))]
    rw [show i = tN t by omega, Nat.mod_eq_of_lt hO.2.2.2.1]
  | succ k ih =>
    intro i m hi hm
    obtain ⟨m, rfl⟩ : ∃ x, m = x + 1 := ⟨m - 1, by omega⟩
    have hN := hO.1
    have ih' := ih (i + 1) m (by omega) (by omega)
    have nx : nI i + (1 : Int32) = nI (i + 1) := nI_1 i
    rw [lpS]
    generalize lpF (fX7_drownedOnes_F4 n uM s) m = kk at *
    unfold fX7_drownedOnes_F4
    simp only [c0, hR.1, m_its4 hR hO (show i < tN t by omega), Option.bind_some, nx, modI _ (mask_lt hO) i (by omega)]
    rw [if_neg (nI_ge (show i < tN t by omega) (by omega))]
    exact ih'
theorem m_drowned {n : Nat} {uM : MO} (hn : 300 ≤ n) {s : Nat → Int32} {t : TA} (hR : RM s t) (hO : OkT t) : fX7_drownedOnes n uM s = some (nI (tD t)) := by
  have hN := hO.1
  have := m_drL (n := n) (uM := uM) hR hO (tN t) 0 n (by omega) (by omega)
  rwa [Nat.pow_zero, Nat.mod_one] at this
theorem notI : ∀ m, m < 256 → ∀ i, i < 8 → (((nI m ^^^ (-1 : Int32)) >>> (nI i &&& 31)) &&& (1 : Int32)) = nI (1 - bitN m i) := by decide +kernel
theorem k_pcL {n : Nat} {u : TB} {t : TA} (hR : RK u t) (hO : OkT t) : ∀ (k i m : Nat), i + k = tN t → k < m → lpF (fX4_piecesOf_F4 n u (nI (tD t) ^^^ (-1 : Int32))) m (nI (aPc t i), nI i) = some (nI (aPc t (tN t))) := by
  intro k
  induction k with
  | zero =>
    intro i m hi hm
    obtain ⟨m, rfl⟩ : ∃ x, m = x + 1 := ⟨m - 1, by omega⟩
    have hN := hO.1
    rw [lpS]
    unfold fX4_piecesOf_F4
    rw [hR.2.2.2.1, if_pos (nI_le (by omega) (by omega)), show tN t = i by omega]
  | succ k ih =>
    intro i m hi hm
    obtain ⟨m, rfl⟩ : ∃ x, m = x + 1 := ⟨m - 1, by omega⟩
    have hN := hO.1
    have h8 : i < 8 := by omega
    have ih' := ih (i + 1) m (by omega) (by omega)
    have h7 := (hO.2.2.1 i (by omega)).2.1
    have nx : nI i + (1 : Int32) = nI (i + 1) := nI_1 i
    rw [lpS]
    generalize lpF (fX4_piecesOf_F4 n u (nI (tD t) ^^^ (-1 : Int32))) m = kk at *
    unfold fX4_piecesOf_F4 fX4_piecesOf_b32
    simp only [nI_cl8 h8, hR.2.2.2.1, (hR.2.1 i (by omega)).2.1, nx, notI _ (mask_lt hO) i h8, orI _ (aPc_lt hO i (by omega)) _ (show tH t i < 8 by omega)]
    rw [if_neg (nI_ge (show i < tN t by omega) (by omega)), if_neg (nI_ok2 h8 (by decide))]
    rw [show aPc t (i + 1) = (if (tD t).testBit i then aPc t i else aPc t i ||| 2 ^ tH t i) from rfl] at ih'
    unfold bitN
    by_cases q : (tD t).testBit i = true
    · rw [if_pos q, if_neg (show ¬ nI (1 - 1) = (1 : Int32) by decide)]
      rw [if_pos q] at ih'
      exact ih'
    · rw [if_neg q, if_pos (show nI (1 - 0) = (1 : Int32) from rfl)]
      rw [if_neg q] at ih'
      exact ih'
theorem k_pieces {n : Nat} (hn : 300 ≤ n) {u : TB} {t : TA} (hR : RK u t) (hO : OkT t) : fX4_piecesOf n u (u.2.2.2.2.2.1 ^^^ (-1 : Int32)) = some (nI (aPc t (tN t))) := by
  have hN := hO.1
  unfold fX4_piecesOf
  rw [hR.2.2.1]
  exact k_pcL hR hO (tN t) 0 n (by omega) (by omega)
theorem or0 (a : Int32) : a ||| (0 : Int32) = a := by
  apply Int32.toBitVec_inj.mp
  simp
theorem m_pcL {n : Nat} {uM : MO} {s : Nat → Int32} {t : TA} (hR : RM s t) (hO : OkT t) : ∀ (k i m : Nat), i + k = tN t → k < m → lpF (fX7_pieces_F4 n uM s) m (nI (aPc t i), nI i) = some (nI (aPc t (tN t))) := by
  intro k
  induction k with
  | zero =>
    intro i m hi hm
    obtain ⟨m, rfl⟩ : ∃ x, m = x + 1 := ⟨m - 1, by omega⟩
    have hN := hO.1
    rw [lpS]
    unfold fX7_pieces_F4
    rw [c0, hR.1, if_pos (nI_le (by omega) (by omega)), show tN t = i by omega]
  | succ k ih =>
    intro i m hi hm
    obtain ⟨m, rfl⟩ : ∃ x, m = x + 1 := ⟨m - 1, by omega⟩
    have hN := hO.1
    have ih' := ih (i + 1) m (by omega) (by omega)
    have h7 := (hO.2.2.1 i (by omega)).2.1
    have nx : nI i + (1 : Int32) = nI (i + 1) := nI_1 i
    rw [lpS]
    generalize lpF (fX7_pieces_F4 n uM s) m = kk at *
    unfold fX7_pieces_F4 fX7_pieces_b36
    simp only [c0, hR.1, m_its4 hR hO (show i < tN t by omega), m_its1 hR hO (show i < tN t by omega), Option.bind_some, nx, or0, orI _ (aPc_lt hO i (by omega)) _ (show tH t i < 8 by omega)]
    rw [if_neg (nI_ge (show i < tN t by omega) (by omega))]
    rw [show aPc t (i + 1) = (if (tD t).testBit i then aPc t i else aPc t i ||| 2 ^ tH t i) from rfl] at ih'
    by_cases q : (tD t).testBit i = true
    · rw [if_neg (by rw [nI_of_bit0]; simp [q])]
      rw [if_pos q] at ih'
      exact ih'
    · rw [if_pos (by rw [nI_of_bit0]; simpa using q)]
      rw [if_neg q] at ih'
      exact ih'
theorem m_pieces {n : Nat} {uM : MO} (hn : 300 ≤ n) {s : Nat → Int32} {t : TA} (hR : RM s t) (hO : OkT t) : fX7_pieces n uM s = some (nI (aPc t (tN t))) := by
  have hN := hO.1
  exact m_pcL hR hO (tN t) 0 n (by omega) (by omega)
theorem bit0I {p j : Nat} : (nI (bitN p j) = (0 : Int32)) = (bitN p j = 0) := by
  unfold bitN
  cases p.testBit j <;> simp <;> decide
theorem k_gapL {n : Nat} {u : TB} {t : TA} (hR : RK u t) (hO : OkT t) {p : Nat} (hp : p < 256) : ∀ (k i m : Nat), i + k = 8 → k < m → lpF (fX4_gap_F13 n u) m (nI p, nI i) = some (nI (aGap p (tO t) k i)) := by
  intro k
  induction k with
  | zero =>
    intro i m hi hm
    obtain ⟨m, rfl⟩ : ∃ x, m = x + 1 := ⟨m - 1, by omega⟩
    rw [lpS]
    unfold fX4_gap_F13
    rw [if_pos (show (8 : Int32) ≤ nI i from nI_le (a := 8) (by omega) (by omega))]
    rfl
  | succ k ih =>
    intro i m hi hm
    obtain ⟨m, rfl⟩ : ∃ x, m = x + 1 := ⟨m - 1, by omega⟩
    have ih' := ih (i + 1) m (by omega) (by omega)
    have h9 := hO.2.2.2.2
    have nx : nI i + (1 : Int32) = nI (i + 1) := nI_1 i
    have e8 : nI (tO t + i) - nI (tO t + i) / (8 : Int32) * (8 : Int32) = nI ((tO t + i) % 8) := pk_rem (d := 8) (by omega) (by decide) (by decide)
    rw [lpS]
    generalize lpF (fX4_gap_F13 n u) m = kk at *
    unfold fX4_gap_F13
    simp only [hR.2.2.2.2.2.1, nI_add, e8, nx, bitI _ hp ((tO t + i) % 8) (Nat.mod_lt _ (by decide)), bit0I]
    rw [if_neg (show ¬ (8 : Int32) ≤ nI i from nI_ge (b := 8) (by omega) (by decide)), ih']
    show _ = some (nI (if bitN p ((tO t + i) % 8) = 0 then (tO t + i) % 8 else aGap p (tO t) k (i + 1)))
    split <;> rfl
theorem m_gapL {n : Nat} {uM : MO} {s : Nat → Int32} {t : TA} (hR : RM s t) (hO : OkT t) {p : Nat} (hp : p < 256) : ∀ (k i m : Nat), i + k = 8 → k < m → lpF (fX7_gap_F7 n uM s) m (nI p, nI i) = some (nI (aGap p (tO t) k i)) := by
  intro k
  induction k with
  | zero =>
    intro i m hi hm
    obtain ⟨m, rfl⟩ : ∃ x, m = x + 1 := ⟨m - 1, by omega⟩
    rw [lpS]
    unfold fX7_gap_F7
    rw [if_pos (show (8 : Int32) ≤ nI i from nI_le (a := 8) (by omega) (by omega))]
    rfl
  | succ k ih =>
    intro i m hi hm
    obtain ⟨m, rfl⟩ : ∃ x, m = x + 1 := ⟨m - 1, by omega⟩
    have ih' := ih (i + 1) m (by omega) (by omega)
    have nx : nI i + (1 : Int32) = nI (i + 1) := nI_1 i
    have e8 : nI (tO t % 8 + i) - nI (tO t % 8 + i) / (8 : Int32) * (8 : Int32) = nI ((tO t + i) % 8) := by
      rw [show (tO t + i) % 8 = (tO t % 8 + i) % 8 by omega]
      exact pk_rem (d := 8) (by omega) (by decide) (by decide)
    rw [lpS]
    generalize lpF (fX7_gap_F7 n uM s) m = kk at *
    unfold fX7_gap_F7
    simp only [m_next hR hO, Option.bind_some, nI_add, e8, nx, bitI _ hp ((tO t + i) % 8) (Nat.mod_lt _ (by decide)), bit0I]
    rw [if_neg (show ¬ (8 : Int32) ≤ nI i from nI_ge (b := 8) (by omega) (by decide)), ih']
    show _ = some (nI (if bitN p ((tO t + i) % 8) = 0 then (tO t + i) % 8 else aGap p (tO t) k (i + 1)))
    split <;> rfl
theorem p_state {n : Nat} (hn : 300 ≤ n) {uK : Int32} {uN : TB} {uM : MO} {s : Nat → Int32} (h : RelT uN s) (x1 : Int32) : ∃ A : Int32, fX6_state n uK uN x1 = some A ∧ fX7_state n uM s x1 = some A := by
  obtain ⟨t, hK, hM, hO⟩ := h
  have hN := hO.1
  have hp := aPc_lt hO (tN t) (Nat.le_refl _)
  unfold fX6_state fX7_state fX4_goneTogether fX7_goneOfAll fX4_gap fX7_gap
  rw [k_pieces hn hK hO, m_pieces hn hM hO, k_next hK hO, m_next hM hO, m_drowned hn hM hO]
  simp only [Option.bind_some, c1, c3, hM.2.1, hM.2.2.2.1, hK.2.2.2.2.1, hK.2.2.2.2.2.1, hK.2.2.1, show lpF (fX4_goneTogether_F4 n uN) n (0, 0) = _ from k_sumL hK hO (tN t) 0 n (by omega) (by omega), show lpF (fX7_goneOfAll_F4 n uM s) n (0, 0) = _ from m_sumL hM hO (tN t) 0 n (by omega) (by omega), show lpF (fX4_gap_F13 n uN) n (nI (aPc t (tN t)), 0) = _ from k_gapL hK hO hp 8 0 n (by omega) (by omega), show lpF (fX7_gap_F7 n uM s) n (nI (aPc t (tN t)), 0) = _ from m_gapL hM hO hp 8 0 n (by omega) (by omega)]
  refine ex2 ?_
  repeat' split
  all_goals simp
theorem bcI : ∀ p, p < 256 → fJ6_bitCount_0f7a4 0 (nI p) = some (nI (pc p)) := by decide +kernel
theorem k_bc {n p : Nat} (hp : p < 256) : fJ6_bitCount_0f7a4 n (nI p) = some (nI (pc p)) := bcI p hp
theorem szI : ∀ p, p < 256 → p ≠ 0 → (nI p &&& (nI p - (1 : Int32))) = nI (p &&& (p - 1)) ∧ pc (p &&& (p - 1)) + 1 = pc p ∧ p &&& (p - 1) < 256 := by decide +kernel
theorem pc0 : ∀ p, p < 256 → pc p = 0 → p = 0 := by decide +kernel
theorem pc_le : ∀ p, p < 256 → pc p ≤ 8 := by decide +kernel
theorem m_sizeL {n : Nat} {x : Int32} : ∀ (k p acc m : Nat), p < 256 → pc p = k → k < m → lpF (fX7_size_F4 n x) m (nI acc, nI p) = some (nI (acc + k)) := by
  intro k
  induction k with
  | zero =>
    intro p acc m hp hk hm
    obtain ⟨m, rfl⟩ : ∃ x, m = x + 1 := ⟨m - 1, by omega⟩
    have := pc0 p hp hk
    subst this
    rfl
  | succ k ih =>
    intro p acc m hp hk hm
    obtain ⟨m, rfl⟩ : ∃ x, m = x + 1 := ⟨m - 1, by omega⟩
    have hp0 : p ≠ 0 := by
      intro e
      subst e
      have : pc 0 = 0 := by decide
      omega
    obtain ⟨e1, e2, e3⟩ := szI p hp hp0
    have ih' := ih (p &&& (p - 1)) (acc + 1) m e3 (by omega) (by omega)
    rw [lpS]
    generalize lpF (fX7_size_F4 n x) m = kk at *
    unfold fX7_size_F4
    simp only [e1]
    rw [if_neg (nI_ne0 (by omega) (by omega)), show nI acc + (1 : Int32) = nI (acc + 1) from nI_1 acc, ih', show acc + 1 + k = acc + (k + 1) by omega]
theorem m_size {n p : Nat} (hn : 300 ≤ n) (hp : p < 256) : fX7_size n (nI p) = some (nI (pc p)) := by
  have h8 := pc_le p hp
  have := m_sizeL (n := n) (x := nI p) (pc p) p 0 n hp rfl (by omega)
  rwa [Nat.zero_add] at this
theorem p_many {n : Nat} (hn : 300 ≤ n) {uK : Int32} {uN : TB} {uA : TP} {uW : RW} {uG : SG} {uM : MO} {s : Nat → Int32} (h : RelT uN s) (hW : uW.2 = uM.2.2.2.2.2.2.2.1) (hA : uA.2.1 = uM.2.1) (hG : uG.2.1 = uM.2.2.2.2.2.2.2.2.1) (x1 : Int32) : ∃ A : Int32, fX6_many n uK uN uA uW uG x1 = some A ∧ fX7_many n uM s x1 = some A := by
  obtain ⟨t, hK, hM, hO⟩ := h
  have hN := hO.1
  have hp := aPc_lt hO (tN t) (Nat.le_refl _)
  unfold fX6_many fX7_many fX4_tellers
  rw [k_pieces hn hK hO, m_pieces hn hM hO, m_drowned hn hM hO, hK.2.2.1, hW, hA, hG]
  simp only [Option.bind_some, c0, hM.1, hK.2.2.2.1, k_bc (mask_lt hO), k_bc hp, m_size hn (mask_lt hO), m_size hn hp, show lpF (fX4_tellers_F4 n uN) n (0, 0) = _ from k_tlL hK hO (tN t) 0 n (by omega) (by omega), show lpF (fX7_many_F61 n uM s x1) n (0, 0) = _ from m_tlL hM hO (tN t) 0 n (by omega) (by omega)]
  refine ex2 ?_
  repeat' split
  all_goals simp
