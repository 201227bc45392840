/-! PURE, 8: behind the fewest courses: speaks, sinks, whole -/
theorem tell_mono {t : TA} (hO : OkT t) {g h : Nat} (hh : h < tN t) : tT t h ≤ tT (aTell t g) h := by
  have h9 := (hO.2.2.1 h hh).2.2.2
  show tT t h ≤ (if h = g then min 9999 (tT t g + 1) else tT t h)
  split
  · rename_i e; subst e; omega
  · exact Nat.le_refl _
theorem tells_mono : ∀ (b : Nat) {t : TA}, OkT t → ∀ {h : Nat}, h < tN t → tT t h ≤ tT (aTells b t) h ∧ tO t ≤ tO (aTells b t) ∧ tD (aTells b t) = tD t := by
  intro b
  induction b with
  | zero => intro t _ h _; exact ⟨Nat.le_refl _, Nat.le_refl _, rfl⟩
  | succ b ih =>
    intro t hO h hh
    unfold aTells
    split
    · exact ⟨Nat.le_refl _, Nat.le_refl _, rfl⟩
    · rename_i g _
      obtain ⟨a, c, d⟩ := ih (ok_tell hO g) (h := h) hh
      have h9 := hO.2.2.2.2
      refine ⟨Nat.le_trans (tell_mono hO hh) a, Nat.le_trans ?_ c, d⟩
      show tO t ≤ min 99999 (tO t + 1)
      omega
theorem tells_monoO : ∀ (b : Nat) {t : TA}, OkT t → tO t ≤ tO (aTells b t) := by
  intro b
  induction b with
  | zero => intro t _; exact Nat.le_refl _
  | succ b ih =>
    intro t hO
    unfold aTells
    split
    · exact Nat.le_refl _
    · rename_i g _
      have h9 := hO.2.2.2.2
      refine Nat.le_trans ?_ (ih (ok_tell hO g))
      show tO t ≤ min 99999 (tO t + 1)
      omega
theorem serve_mono {t : TA} (hO : OkT t) {h : Nat} (hh : h < tN t) : tT t h ≤ tT (aServe t) h := (tells_mono (tL t 0) (ok_ph hO _) (h := h) hh).1
theorem serve_monoO {t : TA} (hO : OkT t) : tO t ≤ tO (aServe t) := tells_monoO (tL t 0) (ok_ph hO _)
theorem tells_drowned : ∀ (b : Nat) {t : TA} {h : Nat}, (tD t).testBit h = true → tT (aTells b t) h = tT t h := by
  intro b
  induction b with
  | zero => intro t h _; rfl
  | succ b ih =>
    intro t h hd
    unfold aTells
    split
    · rfl
    · rename_i g hg
      have hc := (fst_some _ _ hg).2.2
      have hne : ¬ h = g := by
        intro e
        subst e
        simp [canTell, hd] at hc
      rw [ih (t := aTell t g) (h := h) hd]
      show (if h = g then min 9999 (tT t g + 1) else tT t h) = tT t h
      rw [if_neg hne]
theorem aDr_keep (t : TA) (h : Nat) : ∀ i, (tD t).testBit h = true → (aDr t i).testBit h = true := by
  intro i
  induction i with
  | zero => intro hd; exact hd
  | succ i ih =>
    intro hd
    unfold aDr
    split
    · rw [Nat.testBit_or, ih hd]; rfl
    · exact ih hd
theorem tells_D : ∀ (b : Nat) (t : TA), tD (aTells b t) = tD t := by
  intro b
  induction b with
  | zero => intro t; rfl
  | succ b ih =>
    intro t
    unfold aTells
    split
    · rfl
    · exact ih _
theorem serve_drowned {t : TA} {h : Nat} (hd : (tD t).testBit h = true) : tT (aServe t) h = tT t h ∧ (tD (aServe t)).testBit h = true := by
  refine ⟨tells_drowned (tL t 0) (t := aPh t (tN t)) hd, ?_⟩
  refine aDr_keep _ h _ ?_
  rw [tells_D]
  exact hd
/-- the first course behind which a number is more than b -/
def aUp (f : TA → Nat) (b : Nat) : Nat → Nat → TA → Option Nat
  | 0, _, _ => none
  | k + 1, i, t => if f (aServe t) ≤ b then aUp f b k (i + 1) (aServe t) else some i
theorem aUp_drowned {g b : Nat} : ∀ (k i : Nat) (t : TA), (tD t).testBit g = true → tT t g ≤ b → aUp (fun x => tT x g) b k i t = none := by
  intro k
  induction k with
  | zero => intro i t _ _; rfl
  | succ k ih =>
    intro i t hd hb
    obtain ⟨e1, e2⟩ := serve_drowned hd
    unfold aUp
    rw [if_pos (show tT (aServe t) g ≤ b by rw [e1]; exact hb)]
    exact ih _ _ e2 (by rw [e1]; exact hb)
theorem aUp_le {f : TA → Nat} {b : Nat} : ∀ (k i : Nat) (t : TA) {j : Nat}, aUp f b k i t = some j → i ≤ j ∧ j < i + k := by
  intro k
  induction k with
  | zero => intro i t j h; cases h
  | succ k ih =>
    intro i t j h
    unfold aUp at h
    split at h
    · obtain ⟨a, c⟩ := ih _ _ h
      omega
    · cases h
      omega
theorem k_untilL {n : Nat} (hn : 300 ≤ n) {g b most : Nat} (hm : most ≤ 100) (hb9 : b ≤ 9999) : ∀ (k i m : Nat) (u : TB) (t : TA), i + k = most + 1 → k < m → RK u t → OkT t → g < tN t → tT t g ≤ b → ∃ u' : TB, lpF (fX4_coursesUntilTelling_F10 n (nI g) (nI most)) m (u, nI b, nI i) = some ((match aUp (fun x => tT x g) b k i t with | none => -3 | some j => nI j), u') := by
  intro k
  induction k with
  | zero =>
    intro i m u t hi hm' hR hO hg hb
    obtain ⟨m, rfl⟩ : ∃ x, m = x + 1 := ⟨m - 1, by omega⟩
    rw [lpS]
    unfold fX4_coursesUntilTelling_F10
    rw [if_pos (show nI most < nI i from nI_lt (by omega) (by omega))]
    exact ⟨_, rfl⟩
  | succ k ih =>
    intro i m u t hi hm' hR hO hg hb
    obtain ⟨m, rfl⟩ : ∃ x, m = x + 1 := ⟨m - 1, by omega⟩
    have hN := hO.1
    have h8 : g < 8 := by omega
    obtain ⟨u1, e1, r1⟩ := k_serve hn hR hO
    have o1 := ok_serve hO
    have hN1 := serve_N t
    have q1 : u1.2.2.2.2.1 g = nI (tT (aServe t) g) := (r1.2.1 g (by rw [hN1]; exact hg)).2.2.2
    have q9 := (o1.2.2.1 g (by rw [hN1]; exact hg)).2.2.2
    have nx : nI i + (1 : Int32) = nI (i + 1) := nI_1 i
    rw [lpS]
    generalize hkk : lpF (fX4_coursesUntilTelling_F10 n (nI g) (nI most)) m = kk at *
    unfold fX4_coursesUntilTelling_F10
    simp only [k_isDrowned hR hO h8, e1, Option.bind_some, nI_cl8 h8, q1, nx]
    rw [if_neg (show ¬ nI most < nI i from nI_nlt (by omega) (by omega)), if_neg (nI_ok2 h8 (by decide))]
    by_cases hd : (tD t).testBit g = true
    · rw [if_neg (by rw [nI_of_bit0]; simp [hd]), aUp_drowned _ _ _ hd hb]
      exact ⟨_, rfl⟩
    · rw [if_pos (by rw [nI_of_bit0]; simpa using hd)]
      show ∃ u' : TB, _ = some ((match (if tT (aServe t) g ≤ b then aUp (fun x => tT x g) b k (i + 1) (aServe t) else some i) with | none => -3 | some j => nI j), u')
      by_cases hc : tT (aServe t) g ≤ b
      · rw [if_pos hc, if_pos (nI_le hc (by omega)), ← hkk]
        exact ih (i + 1) m u1 (aServe t) (by omega) (by omega) r1 o1 (by rw [hN1]; exact hg) hc
      · rw [if_neg hc, if_neg (nI_ge (by omega) (by omega))]
        exact ⟨_, rfl⟩
theorem k_until {n : Nat} (hn : 300 ≤ n) {g most : Nat} (hm : most ≤ 100) {u : TB} {t : TA} (hR : RK u t) (hO : OkT t) (hg : g < tN t) : ∃ u' : TB, fX4_coursesUntilTelling n u (nI g) (nI most) = some ((match aUp (fun x => tT x g) (tT t g) most 1 t with | none => -3 | some j => nI j), u') := by
  have h8 : g < 8 := Nat.lt_of_lt_of_le hg hO.1
  unfold fX4_coursesUntilTelling
  rw [if_neg (nI_ok h8 (by decide)), nI_cl8 h8, (hR.2.1 g hg).2.2.2]
  exact k_untilL hn hm (hO.2.2.1 g hg).2.2.2 most 1 n u t (by omega) (by omega) hR hO hg (Nat.le_refl _)
theorem m_untilL {n : Nat} {uM : MO} (hn : 300 ≤ n) {g b most : Nat} (hm : most ≤ 100) (hb9 : b ≤ 9999) {a : Nat → Int32} : ∀ (k i m : Nat) (s : Nat → Int32) (t : TA), i + k = most → k + 1 < m → RM s t → OkT t → g < tN t → tT t g = b → ∃ s' : Nat → Int32, lpF (fX7_speaksBy_F21 n uM (nI g) (nI most)) m (s, a, nI b, nI i) = some (nI (match aUp (fun x => tT x g) b k (i + 1) t with | none => most + 1 | some j => j), s', a) ∧ ∀ j, j < 48 → s' j = a j := by
  intro k
  induction k with
  | zero =>
    intro i m s t hi hm' hR hO hg hb
    obtain ⟨m, rfl⟩ : ∃ x, m = x + 1 + 1 := ⟨m - 2, by omega⟩
    obtain ⟨s1, e1, r1⟩ := m_serve (uM := uM) hn hR hO
    obtain ⟨s2, e2, r2⟩ := m_copy hn a s1
    have nx : nI i + (1 : Int32) = nI (i + 1) := nI_1 i
    have hi' : i = most := by omega
    subst hi'
    rw [lpS]
    generalize hkk : lpF (fX7_speaksBy_F21 n uM (nI g) (nI i)) (m + 1) = kk at *
    unfold fX7_speaksBy_F21
    simp only [m_its3 hR hO hg, e1, Option.bind_some, nx, hb]
    rw [if_neg (show ¬ nI i < nI i from nI_nlt (Nat.le_refl _) (by omega)), if_pos trivial, ← hkk, lpS]
    unfold fX7_speaksBy_F21 fX7_speaksBy_b47
    rw [if_pos (show nI i < nI (i + 1) from nI_lt (by omega) (by omega))]
    simp only [e2, Option.bind_some]
    exact ⟨s2, rfl, r2⟩
  | succ k ih =>
    intro i m s t hi hm' hR hO hg hb
    obtain ⟨m, rfl⟩ : ∃ x, m = x + 1 + 1 := ⟨m - 2, by omega⟩
    obtain ⟨s1, e1, r1⟩ := m_serve (uM := uM) hn hR hO
    have o1 := ok_serve hO
    have hN1 := serve_N t
    have hg1 : g < tN (aServe t) := by rw [hN1]; exact hg
    have mo := serve_mono hO hg
    have q9 := (o1.2.2.1 g hg1).2.2.2
    have nx : nI i + (1 : Int32) = nI (i + 1) := nI_1 i
    rw [lpS]
    generalize hkk : lpF (fX7_speaksBy_F21 n uM (nI g) (nI most)) (m + 1) = kk at *
    unfold fX7_speaksBy_F21
    simp only [m_its3 hR hO hg, e1, Option.bind_some, nx, hb]
    rw [if_neg (show ¬ nI most < nI i from nI_nlt (by omega) (by omega)), if_pos trivial, ← hkk]
    show ∃ s' : Nat → Int32, _ = some (nI (match (if tT (aServe t) g ≤ b then aUp (fun x => tT x g) b k (i + 1 + 1) (aServe t) else some (i + 1)) with | none => most + 1 | some j => j), s', a) ∧ _
    by_cases hc : tT (aServe t) g ≤ b
    · rw [if_pos hc]
      exact ih (i + 1) (m + 1) s1 (aServe t) (by omega) (by omega) r1 o1 hg1 (by omega)
    · rw [if_neg hc, lpS]
      obtain ⟨s2, e2, r2⟩ := m_copy hn a s1
      generalize lpF (fX7_speaksBy_F21 n uM (nI g) (nI most)) m = kk2
      unfold fX7_speaksBy_F21 fX7_speaksBy_b47
      simp only [m_its3 r1 o1 hg1, Option.bind_some, e2]
      rw [if_neg (show ¬ nI most < nI (i + 1) from nI_nlt (by omega) (by omega)), if_neg (nI_inj (by omega) (by omega) (by omega))]
      exact ⟨s2, rfl, r2⟩
theorem m_until {n : Nat} {uM : MO} (hn : 300 ≤ n) {g most : Nat} (hm : most ≤ 100) {s a : Nat → Int32} {t : TA} (hR : RM s t) (hO : OkT t) (hg : g < tN t) : ∃ s' a' : Nat → Int32, fX7_speaksBy n uM s a (nI g) (nI most) = some (nI (match aUp (fun x => tT x g) (tT t g) most 1 t with | none => most + 1 | some j => j), s', a') ∧ ∀ j, j < 48 → s' j = s j := by
  obtain ⟨a1, e1, r1⟩ := m_copy hn s a
  unfold fX7_speaksBy
  simp only [e1, m_its3 hR hO hg, Option.bind_some]
  obtain ⟨s', e2, r2⟩ := m_untilL hn (uM := uM) (a := a1) hm (hO.2.2.1 g hg).2.2.2 most 0 n s t (by omega) (by omega) hR hO hg rfl
  exact ⟨s', a1, e2, fun j hj => (r2 j hj).trans (r1 j hj)⟩
theorem p_speaks {n : Nat} (hn : 300 ≤ n) {uK : Int32} {uN uY : TB} {uM : MO} {s a : Nat → Int32} (h : RelT uN s) (x1 : Int32) : ∃ (A : Int32) (Y' : TB) (s' a' : Nat → Int32), fX6_speaks n uK uN uY x1 = some (A, Y') ∧ fX7_speaks n uM s a x1 = some (A, s', a') ∧ RelT uN s' := by
  obtain ⟨t, hK, hM, hO⟩ := h
  unfold fX6_speaks fX7_speaks
  rcases one_or x1 hO.1 with h1 | ⟨g, hg, rfl⟩
  · rw [k_has0 hK hO h1, m_one0 hM h1]
    exact ⟨_, _, _, _, rfl, rfl, t, hK, hM, hO⟩
  rw [k_has1 hK hO hg, m_one1 hM hO hg]
  obtain ⟨u1, e1, r1⟩ := k_copy n uY uN
  obtain ⟨u2, e2⟩ := k_until hn (most := 60) (by omega) (r1 t hO.1 hK) hO hg
  obtain ⟨s', a', e3, r3⟩ := m_until hn (uM := uM) (a := a) (most := 60) (by omega) hM hO hg
  simp only [Option.bind_some, if_neg i10, e1, show fX4_coursesUntilTelling n u1 (nI g) 60 = _ from e2, show fX7_speaksBy n uM s a (nI g) 60 = _ from e3]
  cases hU : aUp (fun x => tT x g) (tT t g) 60 1 t with
  | none => exact ⟨_, _, _, _, rfl, rfl, t, hK, RM_congr hO.1 r3 hM, hO⟩
  | some j =>
    have hj := aUp_le _ _ _ hU
    refine ⟨nI j, u2, s', a', rfl, ?_, t, hK, RM_congr hO.1 r3 hM, hO⟩
    show (if (60 : Int32) < nI j then _ else _) = _
    rw [if_neg (show ¬ (60 : Int32) < nI j from nI_nlt (b := j) (a := 60) (by omega) (by omega))]
/-- the first of the states that is DROWNED -/
def aSk (g : Nat) : Nat → Nat → TA → Option Nat
  | 0, _, _ => none
  | k + 1, i, t => if (tD t).testBit g then some i else aSk g k (i + 1) (aServe t)
theorem aSk_le {g : Nat} : ∀ (k i : Nat) (t : TA) {j : Nat}, aSk g k i t = some j → i ≤ j ∧ j < i + k := by
  intro k
  induction k with
  | zero => intro i t j h; cases h
  | succ k ih =>
    intro i t j h
    unfold aSk at h
    split at h
    · cases h
      omega
    · obtain ⟨a, c⟩ := ih _ _ h
      omega
theorem k_sinksL {n : Nat} (hn : 300 ≤ n) {g : Nat} : ∀ (k i m : Nat) (u : TB) (t : TA), i + k = 61 → k < m → RK u t → OkT t → g < tN t → ∃ u' : TB, lpF (fX4_coursesUntilDrowned_F2 n (nI g) 60) m (u, nI i) = some ((match aSk g k i t with | none => -3 | some j => nI j), u') := by
  intro k
  induction k with
  | zero =>
    intro i m u t hi hm' hR hO hg
    obtain ⟨m, rfl⟩ : ∃ x, m = x + 1 := ⟨m - 1, by omega⟩
    rw [lpS]
    unfold fX4_coursesUntilDrowned_F2
    rw [if_pos (show (60 : Int32) < nI i from nI_lt (a := 60) (by omega) (by omega))]
    exact ⟨_, rfl⟩
  | succ k ih =>
    intro i m u t hi hm' hR hO hg
    obtain ⟨m, rfl⟩ : ∃ x, m = x + 1 := ⟨m - 1, by omega⟩
    have hN := hO.1
    have h8 : g < 8 := by omega
    obtain ⟨u1, e1, r1⟩ := k_serve hn hR hO
    have nx : nI i + (1 : Int32) = nI (i + 1) := nI_1 i
    rw [lpS]
    generalize hkk : lpF (fX4_coursesUntilDrowned_F2 n (nI g) 60) m = kk at *
    unfold fX4_coursesUntilDrowned_F2
    simp only [k_isDrowned hR hO h8, e1, Option.bind_some, nx]
    rw [if_neg (show ¬ (60 : Int32) < nI i from nI_nlt (b := i) (a := 60) (by omega) (by omega)), ← hkk]
    show ∃ u' : TB, _ = some ((match (if (tD t).testBit g then some i else aSk g k (i + 1) (aServe t)) with | none => -3 | some j => nI j), u')
    by_cases hd : (tD t).testBit g = true
    · rw [if_neg (by rw [nI_of_bit0]; simp [hd]), if_pos hd]
      exact ⟨_, rfl⟩
    · rw [if_pos (by rw [nI_of_bit0]; simpa using hd), if_neg hd]
      exact ih (i + 1) m u1 (aServe t) (by omega) (by omega) r1 (ok_serve hO) (by rw [serve_N]; exact hg)
theorem m_sinksL {n : Nat} {uM : MO} (hn : 300 ≤ n) {g : Nat} {a : Nat → Int32} : ∀ (k i m : Nat) (s : Nat → Int32) (t : TA), i + k = 61 → k < m → RM s t → OkT t → g < tN t → ∃ s' : Nat → Int32, lpF (fX7_sinks_F23 n uM (nI g)) m (s, a, nI i) = some ((match aSk g k i t with | none => -3 | some j => nI j), s', a) ∧ ∀ j, j < 48 → s' j = a j := by
  intro k
  induction k with
  | zero =>
    intro i m s t hi hm' hR hO hg
    obtain ⟨m, rfl⟩ : ∃ x, m = x + 1 := ⟨m - 1, by omega⟩
    obtain ⟨s2, e2, r2⟩ := m_copy hn a s
    rw [lpS]
    unfold fX7_sinks_F23 fX7_sinks_b48
    simp only [e2, Option.bind_some]
    rw [if_pos (show (60 : Int32) < nI i from nI_lt (a := 60) (by omega) (by omega)), if_pos (show (60 : Int32) < nI i from nI_lt (a := 60) (by omega) (by omega))]
    exact ⟨s2, rfl, r2⟩
  | succ k ih =>
    intro i m s t hi hm' hR hO hg
    obtain ⟨m, rfl⟩ : ∃ x, m = x + 1 := ⟨m - 1, by omega⟩
    obtain ⟨s1, e1, r1⟩ := m_serve (uM := uM) hn hR hO
    obtain ⟨s2, e2, r2⟩ := m_copy hn a s
    have nx : nI i + (1 : Int32) = nI (i + 1) := nI_1 i
    rw [lpS]
    generalize hkk : lpF (fX7_sinks_F23 n uM (nI g)) m = kk at *
    unfold fX7_sinks_F23 fX7_sinks_b48
    simp only [m_its4 hR hO hg, e1, e2, Option.bind_some, nx]
    have h60 : ¬ (60 : Int32) < nI i := nI_nlt (b := i) (a := 60) (by omega) (by omega)
    rw [if_neg h60, if_neg h60, ← hkk]
    show ∃ s' : Nat → Int32, _ = some ((match (if (tD t).testBit g then some i else aSk g k (i + 1) (aServe t)) with | none => -3 | some j => nI j), s', a) ∧ _
    by_cases hd : (tD t).testBit g = true
    · rw [if_neg (by rw [nI_of_bit0]; simp [hd]), if_pos hd]
      exact ⟨s2, rfl, r2⟩
    · rw [if_pos (by rw [nI_of_bit0]; simpa using hd), if_neg hd]
      exact ih (i + 1) m s1 (aServe t) (by omega) (by omega) r1 (ok_serve hO) (by rw [serve_N]; exact hg)
theorem p_sinks {n : Nat} (hn : 300 ≤ n) {uK : Int32} {uN uY : TB} {uM : MO} {s a : Nat → Int32} (h : RelT uN s) (x1 : Int32) : ∃ (A : Int32) (Y' : TB) (s' a' : Nat → Int32), fX6_sinks n uK uN uY x1 = some (A, Y') ∧ fX7_sinks n uM s a x1 = some (A, s', a') ∧ RelT uN s' := by
  obtain ⟨t, hK, hM, hO⟩ := h
  unfold fX6_sinks fX7_sinks fX4_coursesUntilDrowned
  rcases one_or x1 hO.1 with h1 | ⟨g, hg, rfl⟩
  · rw [k_has0 hK hO h1, m_one0 hM h1]
    exact ⟨_, _, _, _, rfl, rfl, t, hK, hM, hO⟩
  rw [k_has1 hK hO hg, m_one1 hM hO hg]
  obtain ⟨u1, e1, r1⟩ := k_copy n uY uN
  obtain ⟨u2, e2⟩ := k_sinksL hn 61 0 n u1 t (by omega) (by omega) (r1 t hO.1 hK) hO hg
  obtain ⟨a1, e3, r3⟩ := m_copy hn s a
  obtain ⟨s', e4, r4⟩ := m_sinksL hn (uM := uM) (a := a1) 61 0 n s t (by omega) (by omega) hM hO hg
  simp only [Option.bind_some, if_neg i10, e1, e3, show lpF (fX4_coursesUntilDrowned_F2 n (nI g) 60) n (u1, 0) = _ from e2]
  exact ⟨_, _, _, _, rfl, e4, t, hK, RM_congr hO.1 (fun j hj => (r4 j hj).trans (r3 j hj)) hM, hO⟩
theorem div8 {a : Nat} (h : a ≤ 99999) : nI a / (8 : Int32) = nI (a / 8) := pk_div (d := 8) (by omega) (by decide) (by decide)
theorem k_wholeL {n : Nat} (hn : 300 ≤ n) {b : Nat} (hb9 : b ≤ 99999) : ∀ (k i m : Nat) (u : TB) (t : TA), i + k = 61 → k < m → RK u t → OkT t → ∃ u' : TB, lpF (fX4_coursesUntilWhole_F10 n 60) m (u, nI b, nI i) = some ((match aUp (fun x => tO x / 8) b k i t with | none => -3 | some j => nI j), u') := by
  intro k
  induction k with
  | zero =>
    intro i m u t hi hm' hR hO
    obtain ⟨m, rfl⟩ : ∃ x, m = x + 1 := ⟨m - 1, by omega⟩
    rw [lpS]
    unfold fX4_coursesUntilWhole_F10
    rw [if_pos (show (60 : Int32) < nI i from nI_lt (a := 60) (by omega) (by omega))]
    exact ⟨_, rfl⟩
  | succ k ih =>
    intro i m u t hi hm' hR hO
    obtain ⟨m, rfl⟩ : ∃ x, m = x + 1 := ⟨m - 1, by omega⟩
    obtain ⟨u1, e1, r1⟩ := k_serve hn hR hO
    have o1 := ok_serve hO
    have q9 := o1.2.2.2.2
    have nx : nI i + (1 : Int32) = nI (i + 1) := nI_1 i
    rw [lpS]
    generalize hkk : lpF (fX4_coursesUntilWhole_F10 n 60) m = kk at *
    unfold fX4_coursesUntilWhole_F10
    simp only [e1, Option.bind_some, nx, r1.2.2.2.2.2.1, div8 q9]
    rw [if_neg (show ¬ (60 : Int32) < nI i from nI_nlt (b := i) (a := 60) (by omega) (by omega)), ← hkk]
    show ∃ u' : TB, _ = some ((match (if tO (aServe t) / 8 ≤ b then aUp (fun x => tO x / 8) b k (i + 1) (aServe t) else some i) with | none => -3 | some j => nI j), u')
    by_cases hc : tO (aServe t) / 8 ≤ b
    · rw [if_pos hc, if_pos (nI_le hc (by omega))]
      exact ih (i + 1) m u1 (aServe t) (by omega) (by omega) r1 o1
    · rw [if_neg hc, if_neg (nI_ge (by omega) (by omega))]
      exact ⟨_, rfl⟩
theorem m_wholeL {n : Nat} {uM : MO} (hn : 300 ≤ n) {b : Nat} {a : Nat → Int32} : ∀ (k i m : Nat) (s : Nat → Int32) (t : TA), i + k = 60 → k + 1 < m → RM s t → OkT t → tO t / 8 = b → ∃ s' : Nat → Int32, lpF (fX7_whole_F23 n uM) m (s, a, nI b, nI i) = some ((match aUp (fun x => tO x / 8) b k (i + 1) t with | none => -3 | some j => nI j), s', a) ∧ ∀ j, j < 48 → s' j = a j := by
  intro k
  induction k with
  | zero =>
    intro i m s t hi hm' hR hO hb
    obtain ⟨m, rfl⟩ : ∃ x, m = x + 1 + 1 := ⟨m - 2, by omega⟩
    obtain ⟨s1, e1, r1⟩ := m_serve (uM := uM) hn hR hO
    obtain ⟨s2, e2, r2⟩ := m_copy hn a s1
    have nx : nI i + (1 : Int32) = nI (i + 1) := nI_1 i
    have q9 := hO.2.2.2.2
    rw [lpS]
    generalize hkk : lpF (fX7_whole_F23 n uM) (m + 1) = kk at *
    unfold fX7_whole_F23
    simp only [c3, hR.2.2.2.1, div8 q9, e1, Option.bind_some, nx, hb]
    rw [if_neg (show ¬ (60 : Int32) < nI i from nI_nlt (b := i) (a := 60) (by omega) (by omega)), if_pos trivial, ← hkk, lpS]
    unfold fX7_whole_F23 fX7_whole_b52
    have h60 : (60 : Int32) < nI (i + 1) := nI_lt (a := 60) (by omega) (by omega)
    rw [if_pos h60]
    simp only [e2, Option.bind_some]
    rw [if_pos h60]
    exact ⟨s2, rfl, r2⟩
  | succ k ih =>
    intro i m s t hi hm' hR hO hb
    obtain ⟨m, rfl⟩ : ∃ x, m = x + 1 + 1 := ⟨m - 2, by omega⟩
    obtain ⟨s1, e1, r1⟩ := m_serve (uM := uM) hn hR hO
    have o1 := ok_serve hO
    have mo := serve_monoO hO
    have q9 := hO.2.2.2.2
    have q91 := o1.2.2.2.2
    have nx : nI i + (1 : Int32) = nI (i + 1) := nI_1 i
    rw [lpS]
    generalize hkk : lpF (fX7_whole_F23 n uM) (m + 1) = kk at *
    unfold fX7_whole_F23
    simp only [c3, hR.2.2.2.1, div8 q9, e1, Option.bind_some, nx, hb]
    rw [if_neg (show ¬ (60 : Int32) < nI i from nI_nlt (b := i) (a := 60) (by omega) (by omega)), if_pos trivial, ← hkk]
    show ∃ s' : Nat → Int32, _ = some ((match (if tO (aServe t) / 8 ≤ b then aUp (fun x => tO x / 8) b k (i + 1 + 1) (aServe t) else some (i + 1)) with | none => -3 | some j => nI j), s', a) ∧ _
    have md : tO t / 8 ≤ tO (aServe t) / 8 := Nat.div_le_div_right mo
    by_cases hc : tO (aServe t) / 8 ≤ b
    · rw [if_pos hc]
      exact ih (i + 1) (m + 1) s1 (aServe t) (by omega) (by omega) r1 o1 (by omega)
    · rw [if_neg hc, lpS]
      obtain ⟨s2, e2, r2⟩ := m_copy hn a s1
      generalize lpF (fX7_whole_F23 n uM) m = kk2
      unfold fX7_whole_F23 fX7_whole_b52
      simp only [c3, r1.2.2.2.1, div8 q91, Option.bind_some, e2]
      have h60 : ¬ (60 : Int32) < nI (i + 1) := nI_nlt (b := i + 1) (a := 60) (by omega) (by omega)
      rw [if_neg h60, if_neg (nI_inj (by omega) (by omega) (by omega)), if_neg h60]
      exact ⟨s2, rfl, r2⟩
theorem p_whole {n : Nat} (hn : 300 ≤ n) {uK : Int32} {uN uY : TB} {uM : MO} {s a : Nat → Int32} (h : RelT uN s) : ∃ (A : Int32) (Y' : TB) (s' a' : Nat → Int32), fX6_whole n uK uN uY = some (A, Y') ∧ fX7_whole n uM s a = some (A, s', a') ∧ RelT uN s' := by
  obtain ⟨t, hK, hM, hO⟩ := h
  have q9 := hO.2.2.2.2
  unfold fX6_whole fX7_whole fX4_coursesUntilWhole
  obtain ⟨u1, e1, r1⟩ := k_copy n uY uN
  have r1' := r1 t hO.1 hK
  obtain ⟨u2, e2⟩ := k_wholeL hn (b := tO t / 8) (by omega) 60 1 n u1 t (by omega) (by omega) r1' hO
  obtain ⟨a1, e3, r3⟩ := m_copy hn s a
  obtain ⟨s', e4, r4⟩ := m_wholeL hn (uM := uM) (a := a1) 60 0 n s t (by omega) (by omega) hM hO rfl
  simp only [Option.bind_some, e1, e3, c3, hM.2.2.2.1, r1'.2.2.2.2.2.1, div8 q9, show lpF (fX4_coursesUntilWhole_F10 n 60) n (u1, nI (tO t / 8), 1) = _ from e2]
  exact ⟨_, _, _, _, rfl, e4, t, hK, RM_congr hO.1 (fun j hj => (r4 j hj).trans (r3 j hj)) hM, hO⟩
