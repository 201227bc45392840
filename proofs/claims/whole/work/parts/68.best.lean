/-! PURE, 9: with which piece, as what kind, how far gone -/
theorem leM {a M : Nat} (ha : a < 2 ^ 20) (hM : M < 2 ^ 20) : (nI a ≤ nI M - (1 : Int32)) = (a + 1 ≤ M) := by
  cases M with
  | zero =>
    refine propext ⟨fun z => ?_, fun z => absurd z (by omega)⟩
    exact absurd (Int32.le_trans (nI_pos' (n := a) (by omega)) z) (by decide)
  | succ M =>
    rw [show nI (M + 1) - (1 : Int32) = nI M from nI_pred M, nI_leI (by omega) (by omega)]
    exact propext ⟨fun z => by omega, fun z => by omega⟩
/-- the first of the best -/
def aBest (F : Nat → Nat) : Nat → Nat → Nat → Nat → Nat
  | 0, _, best, _ => best
  | k + 1, v, best, M => if F v + 1 ≤ M then aBest F k (v + 1) best M else aBest F k (v + 1) v (F v + 1)
theorem m_short0 {n : Nat} {x : Int32} (h : out x 1 40) : fX7_isShort n x = some 0 := by
  unfold fX7_isShort
  rw [show fX7_isIn n x.toInt64 1 40 = some 0 from m_in0 (lo := 1) (hi := 40) (by decide) (by decide) h]
  rfl
theorem m_short1 {n k : Nat} (h1 : 1 ≤ k) (h : k ≤ 40) : fX7_isShort n (nI k) = some 1 := by
  unfold fX7_isShort
  rw [show fX7_isIn n (nI k).toInt64 1 40 = some 1 from m_in1 (lo := 1) (hi := 40) h1 h (by decide)]
  rfl
theorem k_pieceL {n : Nat} (hn : 300 ≤ n) {uK : Int32} {uN : TB} {t : TA} (hR : RK uN t) (hO : OkT t) {g w : Nat} (hg : g < tN t) (hw : w ≤ 40) : ∀ (k v m : Nat) (uY : TB) (best M : Nat), v + k = 8 → k < m → M ≤ 100000 → ∃ Y' : TB, lpF (fX6_pieceFor_F31 n uK uN (nI g) (nI w)) m (uY, nI best, nI M - 1, nI v) = some (nI (aBest (fun x => tO (aServes w (setH t (at1 (tH t) g x)))) k v best M), Y') := by
  intro k
  induction k with
  | zero =>
    intro v m uY best M hi hm hM
    obtain ⟨m, rfl⟩ : ∃ x, m = x + 1 := ⟨m - 1, by omega⟩
    rw [lpS]
    unfold fX6_pieceFor_F31
    rw [if_pos (show (8 : Int32) ≤ nI v from nI_le (a := 8) (by omega) (by omega))]
    exact ⟨_, rfl⟩
  | succ k ih =>
    intro v m uY best M hi hm hM
    obtain ⟨m, rfl⟩ : ∃ x, m = x + 1 := ⟨m - 1, by omega⟩
    have h8 : g < 8 := Nat.lt_of_lt_of_le hg hO.1
    obtain ⟨u1, e1, r1⟩ := k_copy n uY uN
    have o2 : OkT (setH t (at1 (tH t) g v)) := ok_H hO (by omega)
    obtain ⟨u2, e2, r2⟩ := k_told hn (RK_H (i := g) (x := v) (r1 t hO.1 hR)) o2 (k := w) (by omega)
    have o9 := (ok_serves w o2).2.2.2.2
    have nx : nI v + (1 : Int32) = nI (v + 1) := nI_1 v
    rw [lpS]
    generalize hkk : lpF (fX6_pieceFor_F31 n uK uN (nI g) (nI w)) m = kk at *
    unfold fX6_pieceFor_F31 fX6_pieceFor_b84
    simp only [e1, Option.bind_some, nI_cl8 h8, nx]
    rw [if_neg (show ¬ (8 : Int32) ≤ nI v from nI_ge (b := 8) (by omega) (by decide)), if_neg (nI_ok2 h8 (by decide)), show fX4_toldBehind n (u1.1, u1.2.1, upd u1.2.2.1 g (nI v), u1.2.2.2.1, u1.2.2.2.2.1, u1.2.2.2.2.2.1, u1.2.2.2.2.2.2.1, u1.2.2.2.2.2.2.2.1, u1.2.2.2.2.2.2.2.2.1, u1.2.2.2.2.2.2.2.2.2) (nI w) = _ from e2]
    simp only [Option.bind_some, leM (show tO (aServes w (setH t (at1 (tH t) g v))) < 2 ^ 20 by omega) (show M < 2 ^ 20 by omega)]
    rw [← hkk]
    show ∃ Y' : TB, _ = some (nI (if tO (aServes w (setH t (at1 (tH t) g v))) + 1 ≤ M then aBest _ k (v + 1) best M else aBest _ k (v + 1) v (tO (aServes w (setH t (at1 (tH t) g v))) + 1)), Y')
    by_cases hc : tO (aServes w (setH t (at1 (tH t) g v))) + 1 ≤ M
    · rw [if_pos hc, if_pos hc]
      exact ih (v + 1) m u2 best M (by omega) (by omega) hM
    · rw [if_neg hc, if_neg hc]
      have := ih (v + 1) m u2 v (tO (aServes w (setH t (at1 (tH t) g v))) + 1) (by omega) (by omega) (by omega)
      rwa [show nI (tO (aServes w (setH t (at1 (tH t) g v))) + 1) - (1 : Int32) = nI (tO (aServes w (setH t (at1 (tH t) g v)))) from nI_pred _] at this
theorem k_kindL {n : Nat} (hn : 300 ≤ n) {uK : Int32} {uN : TB} {t : TA} (hR : RK uN t) (hO : OkT t) {g w : Nat} (hg : g < tN t) (hw : w ≤ 40) : ∀ (k v m : Nat) (uY : TB) (best M : Nat), v + k = 6 → k < m → M ≤ 100000 → ∃ Y' : TB, lpF (fX6_kindFor_F31 n uK uN (nI g) (nI w)) m (uY, nI best, nI M - 1, nI v) = some (nI (aBest (fun x => tO (aServes w (setK t (at1 (tK t) g x)))) k v best M), Y') := by
  intro k
  induction k with
  | zero =>
    intro v m uY best M hi hm hM
    obtain ⟨m, rfl⟩ : ∃ x, m = x + 1 := ⟨m - 1, by omega⟩
    rw [lpS]
    unfold fX6_kindFor_F31
    rw [if_pos (show (6 : Int32) ≤ nI v from nI_le (a := 6) (by omega) (by omega))]
    exact ⟨_, rfl⟩
  | succ k ih =>
    intro v m uY best M hi hm hM
    obtain ⟨m, rfl⟩ : ∃ x, m = x + 1 := ⟨m - 1, by omega⟩
    have h8 : g < 8 := Nat.lt_of_lt_of_le hg hO.1
    obtain ⟨u1, e1, r1⟩ := k_copy n uY uN
    have o2 : OkT (setK t (at1 (tK t) g v)) := ok_K hO (by omega)
    obtain ⟨u2, e2, r2⟩ := k_told hn (RK_K (i := g) (x := v) (r1 t hO.1 hR)) o2 (k := w) (by omega)
    have o9 := (ok_serves w o2).2.2.2.2
    have nx : nI v + (1 : Int32) = nI (v + 1) := nI_1 v
    rw [lpS]
    generalize hkk : lpF (fX6_kindFor_F31 n uK uN (nI g) (nI w)) m = kk at *
    unfold fX6_kindFor_F31 fX6_kindFor_b84
    simp only [e1, Option.bind_some, nI_cl8 h8, nx]
    rw [if_neg (show ¬ (6 : Int32) ≤ nI v from nI_ge (b := 6) (by omega) (by decide)), if_neg (nI_ok2 h8 (by decide)), show fX4_toldBehind n (u1.1, upd u1.2.1 g (nI v), u1.2.2.1, u1.2.2.2.1, u1.2.2.2.2.1, u1.2.2.2.2.2.1, u1.2.2.2.2.2.2.1, u1.2.2.2.2.2.2.2.1, u1.2.2.2.2.2.2.2.2.1, u1.2.2.2.2.2.2.2.2.2) (nI w) = _ from e2]
    simp only [Option.bind_some, leM (show tO (aServes w (setK t (at1 (tK t) g v))) < 2 ^ 20 by omega) (show M < 2 ^ 20 by omega)]
    rw [← hkk]
    show ∃ Y' : TB, _ = some (nI (if tO (aServes w (setK t (at1 (tK t) g v))) + 1 ≤ M then aBest _ k (v + 1) best M else aBest _ k (v + 1) v (tO (aServes w (setK t (at1 (tK t) g v))) + 1)), Y')
    by_cases hc : tO (aServes w (setK t (at1 (tK t) g v))) + 1 ≤ M
    · rw [if_pos hc, if_pos hc]
      exact ih (v + 1) m u2 best M (by omega) (by omega) hM
    · rw [if_neg hc, if_neg hc]
      have := ih (v + 1) m u2 v (tO (aServes w (setK t (at1 (tK t) g v))) + 1) (by omega) (by omega) (by omega)
      rwa [show nI (tO (aServes w (setK t (at1 (tK t) g v))) + 1) - (1 : Int32) = nI (tO (aServes w (setK t (at1 (tK t) g v)))) from nI_pred _] at this
/-- with which number at a place of the row most is told -/
theorem m_mostL {n : Nat} {uM : MO} (hn : 300 ≤ n) {A last w : Nat} (hA : A < 48) (hl : last ≤ 7) (hw : w ≤ 40) {s0 : Nat → Int32} (T : Nat → TA) (hT : ∀ v, v ≤ last → RM (upd s0 A (nI v)) (T v) ∧ OkT (T v)) : ∀ (k v m : Nat) (s a : Nat → Int32) (best M : Nat), v + k = last + 1 → k < m → M ≤ 100000 → (∀ j, j < 48 → j ≠ A → s j = s0 j) → ∃ s' a' : Nat → Int32, lpF (fX7_mostBy_F17 n uM (nI A) (nI last) (nI w)) m (s, a, s0 A, nI best, nI M - 1, nI v) = some (nI (aBest (fun x => tO (aServes w (T x))) k v best M), s', a') ∧ ∀ j, j < 48 → s' j = s0 j := by
  intro k
  induction k with
  | zero =>
    intro v m s a best M hi hm hM hs
    obtain ⟨m, rfl⟩ : ∃ x, m = x + 1 := ⟨m - 1, by omega⟩
    rw [lpS]
    unfold fX7_mostBy_F17
    simp only [nI_clamp (show A < 2 ^ 31 by omega)]
    rw [if_pos (show nI last < nI v from nI_lt (by omega) (by omega)), if_neg (nI_ok2 hA (by decide))]
    refine ⟨_, _, rfl, fun j hj => ?_⟩
    by_cases e : j = A
    · subst e; exact pk_us
    · exact (pk_un e).trans (hs j hj e)
  | succ k ih =>
    intro v m s a best M hi hm hM hs
    obtain ⟨m, rfl⟩ : ∃ x, m = x + 1 := ⟨m - 1, by omega⟩
    obtain ⟨r0, o0⟩ := hT v (by omega)
    have r1 : RM (upd s A (nI v)) (T v) := RM_congr o0.1 (fun j hj => by
      by_cases e : j = A
      · subst e; rw [pk_us, pk_us]
      · rw [pk_un e, pk_un e]; exact hs j hj e) r0
    obtain ⟨s1, a1, e1, c1'⟩ := m_tale (uM := uM) (a := a) hn r1 o0 (k := w) (by omega)
    have o9 := (ok_serves w o0).2.2.2.2
    have nx : nI v + (1 : Int32) = nI (v + 1) := nI_1 v
    have hs1 : ∀ j, j < 48 → j ≠ A → s1 j = s0 j := fun j hj e => (c1' j hj).trans ((pk_un e).trans (hs j hj e))
    rw [lpS]
    generalize hkk : lpF (fX7_mostBy_F17 n uM (nI A) (nI last) (nI w)) m = kk at *
    unfold fX7_mostBy_F17 fX7_mostBy_b52
    simp only [nI_clamp (show A < 2 ^ 31 by omega), e1, Option.bind_some, nx, leM (show tO (aServes w (T v)) < 2 ^ 20 by omega) (show M < 2 ^ 20 by omega)]
    rw [if_neg (show ¬ nI last < nI v from nI_nlt (by omega) (by omega)), if_neg (nI_ok2 hA (by decide)), ← hkk]
    show ∃ s' a' : Nat → Int32, _ = some (nI (if tO (aServes w (T v)) + 1 ≤ M then aBest _ k (v + 1) best M else aBest _ k (v + 1) v (tO (aServes w (T v)) + 1)), s', a') ∧ _
    by_cases hc : tO (aServes w (T v)) + 1 ≤ M
    · rw [if_pos hc, if_pos hc]
      have eg : fX7_greatest n (nI M - 1) (nI (tO (aServes w (T v)))) = some (nI M - 1) := by
        obtain ⟨M, rfl⟩ : ∃ x, M = x + 1 := ⟨M - 1, by omega⟩
        rw [show nI (M + 1) - (1 : Int32) = nI M from nI_pred M]
        unfold fX7_greatest
        by_cases e : M = tO (aServes w (T v))
        · rw [← e, if_pos (nI_le (Nat.le_refl _) (by omega))]
        · rw [if_neg (nI_ge (by omega) (by omega))]
      rw [eg]
      exact ih (v + 1) m s1 a1 best M (by omega) (by omega) hM hs1
    · rw [if_neg hc, if_neg hc]
      have eg : fX7_greatest n (nI M - 1) (nI (tO (aServes w (T v)))) = some (nI (tO (aServes w (T v)))) := by
        unfold fX7_greatest
        rw [if_pos]
        exact Int32.le_of_lt (Int32.not_le.mp (fun z => hc ((leM (show tO (aServes w (T v)) < 2 ^ 20 by omega) (show M < 2 ^ 20 by omega)).mp z)))
      rw [eg]
      have := ih (v + 1) m s1 a1 v (tO (aServes w (T v)) + 1) (by omega) (by omega) (by omega) hs1
      rwa [show nI (tO (aServes w (T v)) + 1) - (1 : Int32) = nI (tO (aServes w (T v))) from nI_pred _] at this
theorem m_mostBy {n : Nat} {uM : MO} (hn : 300 ≤ n) {A last w : Nat} (hA : A < 48) (hl : last ≤ 7) (hw : w ≤ 40) {s a : Nat → Int32} (T : Nat → TA) (hT : ∀ v, v ≤ last → RM (upd s A (nI v)) (T v) ∧ OkT (T v)) : ∃ s' a' : Nat → Int32, fX7_mostBy n uM s a (nI A) (nI last) (nI w) = some (nI (aBest (fun x => tO (aServes w (T x))) (last + 1) 0 0 0), s', a') ∧ ∀ j, j < 48 → s' j = s j := by
  unfold fX7_mostBy
  rw [if_neg (nI_ok hA (by decide)), nI_clamp (by omega)]
  exact m_mostL hn hA hl hw T hT (last + 1) 0 n s a 0 0 (by omega) (by omega) (by omega) (fun _ _ _ => rfl)
theorem p_pieceFor {n : Nat} (hn : 300 ≤ n) {uK : Int32} {uN uY : TB} {uM : MO} {s a : Nat → Int32} (h : RelT uN s) (x1 x2 : Int32) : ∃ (A : Int32) (Y' : TB) (s' a' : Nat → Int32), fX6_pieceFor n uK uN uY x1 x2 = some (A, Y') ∧ fX7_pieceFor n uM s a x1 x2 = some (A, s', a') ∧ RelT uN s' := by
  obtain ⟨t, hK, hM, hO⟩ := h
  unfold fX6_pieceFor fX7_pieceFor
  rcases one_or x1 hO.1 with h1 | ⟨g, hg, rfl⟩
  · rw [k_has0 hK hO h1, m_one0 hM h1]
    exact ⟨_, _, _, _, rfl, rfl, t, hK, hM, hO⟩
  have h8 : g < 8 := Nat.lt_of_lt_of_le hg hO.1
  have ix : ((8 : Int32) + ((5 : Int32) * nI g)) + (1 : Int32) = nI (8 + 5 * g + 1) := ixM g h8 1 (by decide)
  rw [k_has1 hK hO hg, m_one1 hM hO hg]
  rcases out_or x2 (lo := 1) (hi := 40) (by decide) (by decide) with h2 | ⟨w, hw1, hw, rfl⟩
  · rw [show fX6_within n x2 1 40 = some 0 from k_in0 (lo := 1) (hi := 40) h2, m_short0 h2]
    exact ⟨_, _, _, _, rfl, rfl, t, hK, hM, hO⟩
  · rw [show fX6_within n (nI w) 1 40 = some 1 from k_in1 (lo := 1) (hi := 40) hw1 hw (by decide), m_short1 hw1 hw]
    obtain ⟨Y', e1⟩ := k_pieceL hn (uK := uK) hK hO hg hw 8 0 n uY 0 0 (by omega) (by omega) (by omega)
    obtain ⟨s', a', e2, r2⟩ := m_mostBy hn (uM := uM) (a := a) (A := 8 + 5 * g + 1) (last := 7) (by omega) (by omega) hw (fun x => setH t (at1 (tH t) g x)) (fun v hv => ⟨RM_H hM, ok_H hO hv⟩)
    simp only [Option.bind_some, if_neg i10, ix, show fX7_mostBy n uM s a (nI (8 + 5 * g + 1)) 7 (nI w) = _ from e2]
    exact ⟨_, _, _, _, e1, rfl, t, hK, RM_congr hO.1 r2 hM, hO⟩
theorem p_kindFor {n : Nat} (hn : 300 ≤ n) {uK : Int32} {uN uY : TB} {uM : MO} {s a : Nat → Int32} (h : RelT uN s) (x1 x2 : Int32) : ∃ (A : Int32) (Y' : TB) (s' a' : Nat → Int32), fX6_kindFor n uK uN uY x1 x2 = some (A, Y') ∧ fX7_kindFor n uM s a x1 x2 = some (A, s', a') ∧ RelT uN s' := by
  obtain ⟨t, hK, hM, hO⟩ := h
  unfold fX6_kindFor fX7_kindFor
  rcases one_or x1 hO.1 with h1 | ⟨g, hg, rfl⟩
  · rw [k_has0 hK hO h1, m_one0 hM h1]
    exact ⟨_, _, _, _, rfl, rfl, t, hK, hM, hO⟩
  have h8 : g < 8 := Nat.lt_of_lt_of_le hg hO.1
  have ix : (8 : Int32) + ((5 : Int32) * nI g) = nI (8 + 5 * g) := by rw [show (5 : Int32) = nI 5 from rfl, pk_mul]; exact nI_add 8 _
  rw [k_has1 hK hO hg, m_one1 hM hO hg]
  rcases out_or x2 (lo := 1) (hi := 40) (by decide) (by decide) with h2 | ⟨w, hw1, hw, rfl⟩
  · rw [show fX6_within n x2 1 40 = some 0 from k_in0 (lo := 1) (hi := 40) h2, m_short0 h2]
    exact ⟨_, _, _, _, rfl, rfl, t, hK, hM, hO⟩
  · rw [show fX6_within n (nI w) 1 40 = some 1 from k_in1 (lo := 1) (hi := 40) hw1 hw (by decide), m_short1 hw1 hw]
    obtain ⟨Y', e1⟩ := k_kindL hn (uK := uK) hK hO hg hw 6 0 n uY 0 0 (by omega) (by omega) (by omega)
    obtain ⟨s', a', e2, r2⟩ := m_mostBy hn (uM := uM) (a := a) (A := 8 + 5 * g) (last := 5) (by omega) (by omega) hw (fun x => setK t (at1 (tK t) g x)) (fun v hv => ⟨RM_K hM, ok_K hO hv⟩)
    simp only [Option.bind_some, if_neg i10, ix, show fX7_mostBy n uM s a (nI (8 + 5 * g)) 5 (nI w) = _ from e2]
    exact ⟨_, _, _, _, e1, rfl, t, hK, RM_congr hO.1 r2 hM, hO⟩
/-- the least GONE with which it speaks -/
def aGf (t : TA) (g w : Nat) : Nat → Nat → Option Nat
  | 0, _ => none
  | k + 1, v => match aUp (fun x => tT x g) (tT t g) w 1 (setG t (at1 (tG t) g v)) with
    | none => aGf t g w k (v + 1)
    | some _ => some v
theorem k_goneL {n : Nat} (hn : 300 ≤ n) {uK : Int32} {uN : TB} {t : TA} (hR : RK uN t) (hO : OkT t) {g w : Nat} (hg : g < tN t) (hw : w ≤ 40) : ∀ (k v m : Nat) (uY : TB), v + k = 100 → k < m → ∃ Y' : TB, lpF (fX6_goneFor_F25 n uK uN (nI g) (nI w)) m (uY, nI v) = some ((match aGf t g w k v with | none => -3 | some j => nI j), Y') := by
  intro k
  induction k with
  | zero =>
    intro v m uY hi hm
    obtain ⟨m, rfl⟩ : ∃ x, m = x + 1 := ⟨m - 1, by omega⟩
    rw [lpS]
    unfold fX6_goneFor_F25
    rw [if_pos (show (99 : Int32) < nI v from nI_lt (a := 99) (by omega) (by omega))]
    exact ⟨_, rfl⟩
  | succ k ih =>
    intro v m uY hi hm
    obtain ⟨m, rfl⟩ : ∃ x, m = x + 1 := ⟨m - 1, by omega⟩
    have h8 : g < 8 := Nat.lt_of_lt_of_le hg hO.1
    obtain ⟨u1, e1, r1⟩ := k_copy n uY uN
    obtain ⟨u2, e2⟩ := k_until hn (g := g) (most := w) (by omega) (RK_G (i := g) (x := v) (r1 t hO.1 hR)) (ok_G hO (by omega)) hg
    have nx : nI v + (1 : Int32) = nI (v + 1) := nI_1 v
    rw [lpS]
    generalize hkk : lpF (fX6_goneFor_F25 n uK uN (nI g) (nI w)) m = kk at *
    unfold fX6_goneFor_F25
    simp only [e1, Option.bind_some, nI_cl8 h8, nx]
    rw [if_neg (show ¬ (99 : Int32) < nI v from nI_nlt (b := v) (a := 99) (by omega) (by omega)), if_neg (nI_ok2 h8 (by decide)), show fX4_coursesUntilTelling n (u1.1, u1.2.1, u1.2.2.1, upd u1.2.2.2.1 g (nI v), u1.2.2.2.2.1, u1.2.2.2.2.2.1, u1.2.2.2.2.2.2.1, u1.2.2.2.2.2.2.2.1, u1.2.2.2.2.2.2.2.2.1, u1.2.2.2.2.2.2.2.2.2) (nI g) (nI w) = _ from e2, ← hkk]
    unfold aGf
    show ∃ Y' : TB, _ = some ((match (match aUp (fun x => tT x g) (tT t g) w 1 (setG t (at1 (tG t) g v)) with | none => aGf t g w k (v + 1) | some _ => some v) with | none => -3 | some j => nI j), Y')
    have et : tT (setG t (at1 (tG t) g v)) g = tT t g := rfl
    rw [et]
    cases hU : aUp (fun x => tT x g) (tT t g) w 1 (setG t (at1 (tG t) g v)) with
    | none => exact ih (v + 1) m u2 (by omega) (by omega)
    | some j =>
      have hj := aUp_le _ _ _ hU
      simp only [Option.bind_some]
      rw [if_neg (show ¬ nI j = (-3 : Int32) from fun z => nI_pos (n := j) (by omega) (by rw [z]; decide))]
      exact ⟨_, rfl⟩
theorem m_goneL {n : Nat} {uM : MO} (hn : 300 ≤ n) {t : TA} (hO : OkT t) {g w : Nat} (hg : g < tN t) (hw : w ≤ 40) {s0 : Nat → Int32} (hM : RM s0 t) : ∀ (k v m : Nat) (s a : Nat → Int32), v + k = 100 → k + 1 < m → (∀ j, j < 48 → j ≠ 8 + 5 * g + 2 → s j = s0 j) → ∃ s' a' : Nat → Int32, lpF (fX7_goneFor_F41 n uM (nI g) (nI w)) m (s, a, nI (8 + 5 * g + 2), s0 (8 + 5 * g + 2), -3, nI v) = some ((match aGf t g w k v with | none => -3 | some j => nI j), s', a') ∧ ∀ j, j < 48 → s' j = s0 j := by
  have h8 : g < 8 := Nat.lt_of_lt_of_le hg hO.1
  have hA : 8 + 5 * g + 2 < 48 := by omega
  have clA : (nI (8 + 5 * g + 2)).toNatClampNeg = 8 + 5 * g + 2 := nI_clamp (by omega)
  have back : ∀ s : Nat → Int32, (∀ j, j < 48 → j ≠ 8 + 5 * g + 2 → s j = s0 j) → ∀ j, j < 48 → upd s (8 + 5 * g + 2) (s0 (8 + 5 * g + 2)) j = s0 j := by
    intro s hs j hj
    by_cases e : j = 8 + 5 * g + 2
    · subst e; exact pk_us
    · exact (pk_un e).trans (hs j hj e)
  intro k
  induction k with
  | zero =>
    intro v m s a hi hm hs
    obtain ⟨m, rfl⟩ : ∃ x, m = x + 1 := ⟨m - 1, by omega⟩
    rw [lpS]
    unfold fX7_goneFor_F41 fX7_goneFor_b86
    simp only [clA]
    rw [if_pos (show (99 : Int32) < nI v from nI_lt (a := 99) (by omega) (by omega)), if_neg (nI_ok2 hA (by decide))]
    exact ⟨_, _, rfl, back s hs⟩
  | succ k ih =>
    intro v m s a hi hm hs
    obtain ⟨m, rfl⟩ : ∃ x, m = x + 1 + 1 := ⟨m - 2, by omega⟩
    have r0 : RM (upd s0 (8 + 5 * g + 2) (nI v)) (setG t (at1 (tG t) g v)) := RM_G hM
    have o0 : OkT (setG t (at1 (tG t) g v)) := ok_G hO (by omega)
    have r1 : RM (upd s (8 + 5 * g + 2) (nI v)) (setG t (at1 (tG t) g v)) := RM_congr o0.1 (fun j hj => by
      by_cases e : j = 8 + 5 * g + 2
      · subst e; rw [pk_us, pk_us]
      · rw [pk_un e, pk_un e]; exact hs j hj e) r0
    obtain ⟨s1, a1, e1, cc⟩ := m_until hn (uM := uM) (a := a) (most := w) (by omega) r1 o0 hg
    have hs1 : ∀ j, j < 48 → j ≠ 8 + 5 * g + 2 → s1 j = s0 j := fun j hj e => (cc j hj).trans ((pk_un e).trans (hs j hj e))
    have nx : nI v + (1 : Int32) = nI (v + 1) := nI_1 v
    rw [lpS]
    generalize hkk : lpF (fX7_goneFor_F41 n uM (nI g) (nI w)) (m + 1) = kk at *
    unfold fX7_goneFor_F41 fX7_goneFor_b78
    simp only [clA, e1, Option.bind_some, nx]
    rw [if_neg (show ¬ (99 : Int32) < nI v from nI_nlt (b := v) (a := 99) (by omega) (by omega)), if_neg (show ¬ (0 : Int32) ≤ -3 by decide), if_neg (nI_ok2 hA (by decide)), ← hkk]
    unfold aGf
    have et : tT (setG t (at1 (tG t) g v)) g = tT t g := rfl
    rw [et]
    cases hU : aUp (fun x => tT x g) (tT t g) w 1 (setG t (at1 (tG t) g v)) with
    | none =>
      show ∃ s' a' : Nat → Int32, (if nI w < nI (w + 1) then _ else _) = _ ∧ _
      rw [if_pos (nI_lt (by omega) (by omega))]
      exact ih (v + 1) (m + 1) s1 a1 (by omega) (by omega) hs1
    | some j =>
      have hj := aUp_le _ _ _ hU
      show ∃ s' a' : Nat → Int32, (if nI w < nI j then _ else _) = some (nI v, s', a') ∧ _
      rw [if_neg (nI_nlt (by omega) (by omega)), lpS]
      unfold fX7_goneFor_F41 fX7_goneFor_b86
      simp only [clA]
      have hp : (0 : Int32) ≤ nI v := nI_pos' (by omega)
      by_cases h9 : (99 : Int32) < nI (v + 1)
      · rw [if_pos h9, if_neg (nI_ok2 hA (by decide))]
        exact ⟨_, _, rfl, back s1 hs1⟩
      · rw [if_neg h9, if_pos hp, if_neg (nI_ok2 hA (by decide))]
        exact ⟨_, _, rfl, back s1 hs1⟩
theorem p_goneFor {n : Nat} (hn : 300 ≤ n) {uK : Int32} {uN uY : TB} {uM : MO} {s a : Nat → Int32} (h : RelT uN s) (x1 x2 : Int32) : ∃ (A : Int32) (Y' : TB) (s' a' : Nat → Int32), fX6_goneFor n uK uN uY x1 x2 = some (A, Y') ∧ fX7_goneFor n uM s a x1 x2 = some (A, s', a') ∧ RelT uN s' := by
  obtain ⟨t, hK, hM, hO⟩ := h
  unfold fX6_goneFor fX7_goneFor
  rcases one_or x1 hO.1 with h1 | ⟨g, hg, rfl⟩
  · rw [k_has0 hK hO h1, m_one0 hM h1]
    exact ⟨_, _, _, _, rfl, rfl, t, hK, hM, hO⟩
  have h8 : g < 8 := Nat.lt_of_lt_of_le hg hO.1
  have ix : ((8 : Int32) + ((5 : Int32) * nI g)) + (2 : Int32) = nI (8 + 5 * g + 2) := ixM g h8 2 (by decide)
  rw [k_has1 hK hO hg, m_one1 hM hO hg]
  rcases out_or x2 (lo := 1) (hi := 40) (by decide) (by decide) with h2 | ⟨w, hw1, hw, rfl⟩
  · rw [show fX6_within n x2 1 40 = some 0 from k_in0 (lo := 1) (hi := 40) h2, m_short0 h2]
    exact ⟨_, _, _, _, rfl, rfl, t, hK, hM, hO⟩
  · rw [show fX6_within n (nI w) 1 40 = some 1 from k_in1 (lo := 1) (hi := 40) hw1 hw (by decide), m_short1 hw1 hw]
    obtain ⟨Y', e1⟩ := k_goneL hn (uK := uK) hK hO hg hw 100 0 n uY (by omega) (by omega)
    obtain ⟨s', a', e2, r2⟩ := m_goneL hn (uM := uM) hO hg hw hM 100 0 n s a (by omega) (by omega) (fun _ _ _ => rfl)
    simp only [Option.bind_some, if_neg i10, ix]
    rw [if_neg (nI_ok (show 8 + 5 * g + 2 < 48 by omega) (by decide)), nI_clamp (show 8 + 5 * g + 2 < 2 ^ 31 by omega)]
    exact ⟨_, _, _, _, e1, e2, t, hK, RM_congr hO.1 r2 hM, hO⟩
