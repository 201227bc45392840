/-! PURE, 21: strangersFor's loops -/
def optI : Option Nat → Int32
  | none => -3
  | some b => nI b
-- the class: sets of one size
def InR (t : TA) (v w P H z i : Nat) (k83 : (TB × Int32 × Int32 × Int32) → Option (Int32 × TB)) (o : Option (Int32 × TB)) : Prop := (∃ (b : Nat) (Y' : TB), i ≤ b ∧ b < 2 ^ tN t ∧ pc b = z ∧ Cs t v w P H b ∧ (∀ S, i ≤ S → S < b → pc S = z → ¬ Cs t v w P H S) ∧ o = some (nI b, Y')) ∨ ((∀ S, i ≤ S → S < 2 ^ tN t → pc S = z → ¬ Cs t v w P H S) ∧ ∃ Y' : TB, o = k83 (Y', nI P, nI H, nI (z + 1)))
theorem k_innerL {n : Nat} (hn : 300 ≤ n) {uK : Int32} {uN : TB} {t : TA} (hR : RK uN t) (hO : OkT t) {w v P H z : Nat} (hw : w ≤ 20) (hv : v ≤ 99999) (hP : P < 256) (hH : H < 256) (hz : z ≤ 9) (k83 : (TB × Int32 × Int32 × Int32) → Option (Int32 × TB)) : ∀ (k i m : Nat) (uY : TB), i + k = 2 ^ tN t → k < m → 1 ≤ i → InR t v w P H z i k83 (lpF (fX6_strangersFor_F98 n uK uN (nI w) (nI v) k83) m (uY, nI P, nI H, nI z, nI i)) := by
  have hN := hO.1
  have h256 := p2_le hN
  have ev : fX4_everyone n uN = some (nI (2 ^ tN t - 1)) := by
    unfold fX4_everyone
    rw [hR.2.2.2.1, (evI (tN t) (by omega)).2]
  intro k
  induction k with
  | zero =>
    intro i m uY hi hm h1
    obtain ⟨m, rfl⟩ : ∃ x, m = x + 1 := ⟨m - 1, by omega⟩
    right
    refine ⟨fun S a b => by omega, uY, ?_⟩
    rw [lpS]
    unfold fX6_strangersFor_F98
    simp only [ev, Option.bind_some, show nI z + (1 : Int32) = nI (z + 1) from nI_1 z]
    rw [if_pos (nI_lt (by omega) (by omega))]
  | succ k ih =>
    intro i m uY hi hm h1
    obtain ⟨m, rfl⟩ : ∃ x, m = x + 1 := ⟨m - 1, by omega⟩
    have hi256 : i < 256 := by omega
    -- how it goes on
    have go : ∀ (Y1 : TB), ¬ (pc i = z ∧ Cs t v w P H i) → fX6_strangersFor_F98 n uK uN (nI w) (nI v) k83 (lpF (fX6_strangersFor_F98 n uK uN (nI w) (nI v) k83) m) (uY, nI P, nI H, nI z, nI i) = lpF (fX6_strangersFor_F98 n uK uN (nI w) (nI v) k83) m (Y1, nI P, nI H, nI z, nI (i + 1)) → InR t v w P H z i k83 (lpF (fX6_strangersFor_F98 n uK uN (nI w) (nI v) k83) (m + 1) (uY, nI P, nI H, nI z, nI i)) := by
      intro Y1 hno he
      rw [lpS, he]
      rcases ih (i + 1) m Y1 (by omega) (by omega) (by omega) with ⟨b, Y', b1, b2, b3, b4, b5, b6⟩ | ⟨b1, Y', b2⟩
      · left
        refine ⟨b, Y', by omega, b2, b3, b4, fun S s1 s2 s3 s4 => ?_, b6⟩
        by_cases e : S = i
        · subst e; exact hno ⟨s3, s4⟩
        · exact b5 S (by omega) s2 s3 s4
      · right
        refine ⟨fun S s1 s2 s3 s4 => ?_, Y', b2⟩
        by_cases e : S = i
        · subst e; exact hno ⟨s3, s4⟩
        · exact b1 S (by omega) s2 s3 s4
    obtain ⟨Q, hQ, pQ, eQ⟩ := k_ps hn hR hO hi256
    obtain ⟨Y2, eR⟩ := k_reaches (uK := uK) (v := v) hn uY hR hO (S := i) (by omega) hw hv
    have hsub := subI2 i hi256 H hH
    by_cases q1 : pc i = z
    · by_cases q2 : i &&& H = i
      · by_cases q3 : Q = P
        · by_cases q4 : v ≤ fS t w i
          · left
            refine ⟨i, Y2, Nat.le_refl _, by omega, q1, ⟨by omega, q2, (Ps_eq pQ).mpr q3, q4⟩, fun S a b => by omega, ?_⟩
            rw [lpS]
            generalize lpF (fX6_strangersFor_F98 n uK uN (nI w) (nI v) k83) m = kk
            unfold fX6_strangersFor_F98
            simp only [ev, k_bc hi256, eQ, eR, Option.bind_some]
            rw [if_neg (nI_nlt (by omega) (by omega)), if_pos (by rw [q1]), if_pos (of_decide_eq_true (hsub.trans (decide_eq_true q2))), if_pos (by rw [q3]), if_pos q4, if_neg i10]
          · refine go Y2 (fun c => q4 c.2.2.2.2) ?_
            generalize lpF (fX6_strangersFor_F98 n uK uN (nI w) (nI v) k83) m = kk
            unfold fX6_strangersFor_F98 fX6_strangersFor_b157
            simp only [ev, k_bc hi256, eQ, eR, Option.bind_some, show nI i + (1 : Int32) = nI (i + 1) from nI_1 i]
            rw [if_neg (nI_nlt (by omega) (by omega)), if_pos (by rw [q1]), if_pos (of_decide_eq_true (hsub.trans (decide_eq_true q2))), if_pos (by rw [q3]), if_neg q4, if_pos rfl]
        · refine go uY (fun c => q3 ((Ps_eq pQ).mp c.2.2.2.1)) ?_
          generalize lpF (fX6_strangersFor_F98 n uK uN (nI w) (nI v) k83) m = kk
          unfold fX6_strangersFor_F98 fX6_strangersFor_b157
          simp only [ev, k_bc hi256, eQ, Option.bind_some, show nI i + (1 : Int32) = nI (i + 1) from nI_1 i]
          rw [if_neg (nI_nlt (by omega) (by omega)), if_pos (by rw [q1]), if_pos (of_decide_eq_true (hsub.trans (decide_eq_true q2))), if_neg (nI_inj (by omega) (by omega) q3)]
      · refine go uY (fun c => q2 c.2.2.1) ?_
        generalize lpF (fX6_strangersFor_F98 n uK uN (nI w) (nI v) k83) m = kk
        unfold fX6_strangersFor_F98 fX6_strangersFor_b157
        simp only [ev, k_bc hi256, Option.bind_some, show nI i + (1 : Int32) = nI (i + 1) from nI_1 i]
        rw [if_neg (nI_nlt (by omega) (by omega)), if_pos (by rw [q1]), if_neg (of_decide_eq_false (hsub.trans (decide_eq_false q2)))]
    · refine go uY (fun c => q1 c.1) ?_
      generalize lpF (fX6_strangersFor_F98 n uK uN (nI w) (nI v) k83) m = kk
      have hp := pc_le i hi256
      unfold fX6_strangersFor_F98 fX6_strangersFor_b157
      simp only [ev, k_bc hi256, Option.bind_some, show nI i + (1 : Int32) = nI (i + 1) from nI_1 i]
      rw [if_neg (nI_nlt (by omega) (by omega)), if_neg (nI_inj (by omega) (by omega) q1)]
theorem k_outerL {n : Nat} (hn : 300 ≤ n) {uK : Int32} {uN : TB} {t : TA} (hR : RK uN t) (hO : OkT t) {w v P H : Nat} (hw : w ≤ 20) (hv : v ≤ 99999) (hP : P < 256) (hH : H < 256) : ∀ (k z m : Nat) (uY : TB), z + k = tN t + 1 → k < m → (∀ S, S < 2 ^ tN t → pc S < z → ¬ Cs t v w P H S) → ∃ (X : Option Nat) (Y' : TB), lpF (fX6_strangersFor_F83 n uK uN (nI w) (nI v)) m (uY, nI P, nI H, nI z) = some (optI X, Y') ∧ Lst (2 ^ tN t) (Cs t v w P H) X := by
  have hN := hO.1
  have h256 := p2_le hN
  intro k
  induction k with
  | zero =>
    intro z m uY hz hm hno
    obtain ⟨m, rfl⟩ : ∃ x, m = x + 1 := ⟨m - 1, by omega⟩
    refine ⟨none, uY, ?_, fun S hS => ?_⟩
    · rw [lpS]
      unfold fX6_strangersFor_F83
      rw [hR.2.2.2.1, if_pos (nI_lt (by omega) (by omega))]
      rfl
    · have := pcN (tN t) (by omega) S (by omega) hS
      exact hno S hS (by omega)
  | succ k ih =>
    intro z m uY hz hm hno
    obtain ⟨m, rfl⟩ : ∃ x, m = x + 1 := ⟨m - 1, by omega⟩
    have h0 := Nat.two_pow_pos (tN t)
    rw [lpS]
    generalize hkk : lpF (fX6_strangersFor_F83 n uK uN (nI w) (nI v)) m = kk
    unfold fX6_strangersFor_F83
    rw [hR.2.2.2.1, if_neg (nI_nlt (by omega) (by omega))]
    rcases k_innerL hn (uK := uK) hR hO hw hv hP hH (z := z) (by omega) kk (2 ^ tN t - 1) 1 n uY (by omega) (by omega) (by omega) with ⟨b, Y', b1, b2, b3, b4, b5, b6⟩ | ⟨b1, Y', b2⟩
    · refine ⟨some b, Y', b6, b2, b4, fun S hS hC => ?_⟩
      have q : ¬ pc S < z := fun q => hno S hS q hC
      by_cases e : pc S = z
      · right
        refine ⟨by omega, ?_⟩
        apply Classical.byContradiction
        intro hlt
        have h1 := hC.1
        exact b5 S (by omega) (by omega) e hC
      · left; omega
    · show ∃ (X : Option Nat) (Y'' : TB), lpF (fX6_strangersFor_F98 n uK uN (nI w) (nI v) kk) n (uY, nI P, nI H, nI z, nI 1) = some (optI X, Y'') ∧ _
      rw [b2, ← hkk]
      refine ih (z + 1) m Y' (by omega) (by omega) (fun S hS hp hC => ?_)
      by_cases e : pc S = z
      · have h1 := hC.1
        exact b1 S (by omega) hS e hC
      · exact hno S hS (by omega) hC
-- the reference: TOLD with those of S
def dMi (t : TA) (S : Nat) : Nat → Nat
  | 0 => tD t
  | i + 1 => if S.testBit i then dMi t S i else dMi t S i ||| 2 ^ i
theorem dMi_bit (t : TA) (S g : Nat) : ∀ i, (dMi t S i).testBit g = ((tD t).testBit g || (decide (g < i) && !S.testBit g)) := by
  intro i
  induction i with
  | zero => show (tD t).testBit g = _; simp
  | succ i ih =>
    show (if S.testBit i then dMi t S i else dMi t S i ||| 2 ^ i).testBit g = _
    by_cases e : i = g
    · subst e
      cases h : S.testBit i <;> simp [ih, h, Nat.testBit_or, Nat.testBit_two_pow]
    · have : decide (g < i + 1) = decide (g < i) := by
        apply decide_eq_decide.mpr; omega
      rw [this]
      cases h : S.testBit i <;> simp [ih, e, Nat.testBit_or, Nat.testBit_two_pow]
theorem dMi_end {t : TA} {S : Nat} (hS : S < 2 ^ tN t) : dMi t S (tN t) = dM t S := by
  apply Nat.eq_of_testBit_eq
  intro g
  rw [dMi_bit, dM_bit hS]
theorem dMi_lt {t : TA} (hO : OkT t) (S : Nat) : ∀ i, i ≤ tN t → dMi t S i < 2 ^ tN t := by
  intro i
  induction i with
  | zero => intro _; exact hO.2.2.2.1
  | succ i ih =>
    intro hi
    show (if S.testBit i then dMi t S i else dMi t S i ||| 2 ^ i) < _
    split
    · exact ih (by omega)
    · exact Nat.or_lt_two_pow (ih (by omega)) (Nat.pow_lt_pow_right (by decide) (by omega))
theorem m_taleL {n : Nat} {uM : MO} (hn : 300 ≤ n) {t : TA} (hO : OkT t) {w S : Nat} (hw : w ≤ 20) (hS : S < 2 ^ tN t) {a : Nat → Int32} : ∀ (k i m : Nat) (s : Nat → Int32), i + k = tN t → k < m → RM s (setD t (dMi t S i)) → ∃ s' : Nat → Int32, lpF (fX7_taleOf_F13 n uM (nI S) (nI w)) m (s, a, nI i) = some (nI (fS t w S), s', a) ∧ ∀ j, j < 48 → s' j = a j := by
  have hN := hO.1
  have h256 : S < 256 := Nat.lt_of_lt_of_le hS (p2_le hN)
  intro k
  induction k with
  | zero =>
    intro i m s hi hm hR
    obtain ⟨m, rfl⟩ : ∃ x, m = x + 1 := ⟨m - 1, by omega⟩
    have e : i = tN t := by omega
    subst e
    rw [dMi_end hS] at hR
    obtain ⟨s1, e1, r1⟩ := m_many (uM := uM) hn (show RM s (dS t S) from hR) (ok_dS hO hS) (k := w) (by omega)
    obtain ⟨s2, e2, r2⟩ := m_copy hn a s1
    rw [lpS]
    unfold fX7_taleOf_F13
    simp only [c0, c3, hR.1, e1, e2, Option.bind_some, r1.2.2.2.1]
    rw [if_pos (show nI (tN (setD t (dM t S))) ≤ nI (tN t) from nI_le (Nat.le_refl _) (by omega))]
    exact ⟨s2, rfl, r2⟩
  | succ k ih =>
    intro i m s hi hm hR
    obtain ⟨m, rfl⟩ : ∃ x, m = x + 1 := ⟨m - 1, by omega⟩
    have h8 : i < 8 := by omega
    have ix : ((8 : Int32) + ((5 : Int32) * nI i)) + (4 : Int32) = nI (8 + 5 * i + 4) := ixM i h8 4 (by decide)
    have sv : s (8 + 5 * i + 4) = nI (bitN (dMi t S i) i) := (hR.2.2.2.2.2 i (show i < tN t by omega)).2.2.2.2
    have hd : dMi t S i < 256 := Nat.lt_of_lt_of_le (dMi_lt hO S i (by omega)) (p2_le hN)
    have ed : dMi t S (i + 1) = if S.testBit i then dMi t S i else dMi t S i ||| 2 ^ i := rfl
    have hb2 : bitN (dMi t S i) i < 2 := by have := bitN_le (dMi t S i) i; omega
    rw [lpS]
    generalize hkk : lpF (fX7_taleOf_F13 n uM (nI S) (nI w)) m = kk
    unfold fX7_taleOf_F13 fX7_taleOf_b50
    simp only [c0, hR.1, ix, nI_clamp (show 8 + 5 * i + 4 < 2 ^ 31 by omega), sv, bitI S h256 i h8, nI_of_bit0, show nI i + (1 : Int32) = nI (i + 1) from nI_1 i, (orbI _ hb2).1, (orbI _ hb2).2]
    rw [if_neg (show ¬ nI (tN (setD t (dMi t S i))) ≤ nI i from nI_ge (show i < tN t by omega) (by show tN t < _; omega))]
    simp only [if_neg (nI_ok2 (show 8 + 5 * i + 4 < 48 by omega) (by decide))]
    cases hb : S.testBit i with
    | true =>
      simp only [Bool.true_eq_false, if_false]
      rw [← hkk]
      refine ih (i + 1) m _ (by omega) (by omega) ?_
      rw [ed, if_pos hb]
      refine RM_updD hR (fun g hg => ?_)
      by_cases e : g = i
      · subst e; rw [if_pos rfl]
      · rw [if_neg e]
    | false =>
      simp only [if_true]
      rw [← hkk]
      refine ih (i + 1) m _ (by omega) (by omega) ?_
      rw [ed, hb]
      exact RM_updD hR (fun g hg => bit_or _ hd i h8 g (by omega))
theorem m_taleOf {n : Nat} {uM : MO} (hn : 300 ≤ n) {t : TA} (hO : OkT t) {w S : Nat} (hw : w ≤ 20) (hS : S < 2 ^ tN t) {s : Nat → Int32} (hR : RM s t) (a : Nat → Int32) : ∃ s' a' : Nat → Int32, fX7_taleOf n uM s a (nI S) (nI w) = some (nI (fS t w S), s', a') ∧ ∀ j, j < 48 → s' j = s j := by
  have hN := hO.1
  obtain ⟨a1, e1, r1⟩ := m_copy hn s a
  obtain ⟨s', e2, r2⟩ := m_taleL (uM := uM) hn hO hw hS (a := a1) (tN t) 0 n s (by omega) (by omega) hR
  refine ⟨s', a1, ?_, fun j hj => (r2 j hj).trans (r1 j hj)⟩
  unfold fX7_taleOf
  rw [e1]
  exact e2
theorem m_strL {n : Nat} {uM : MO} (hn : 300 ≤ n) {t : TA} (hO : OkT t) {w v : Nat} (hw : w ≤ 20) (hv : v ≤ 99999) {s0 : Nat → Int32} (hM : RM s0 t) : ∀ (k i m : Nat) (s a : Nat → Int32) (X : Option Nat), i + k = 2 ^ tN t → k < m → (∀ j, j < 48 → s j = s0 j) → Lst i (fun S => v ≤ fS t w S) X → ∃ (X' : Option Nat) (s' a' : Nat → Int32), lpF (fX7_strangersFor_F32 n uM (nI w) (nI v)) m (s, a, optI X, nI i) = some (optI X', s', a') ∧ Lst (2 ^ tN t) (fun S => v ≤ fS t w S) X' ∧ ∀ j, j < 48 → s' j = s0 j := by
  have hN := hO.1
  have h256 := p2_le hN
  intro k
  induction k with
  | zero =>
    intro i m s a X hi hm hs hL
    obtain ⟨m, rfl⟩ : ∃ x, m = x + 1 := ⟨m - 1, by omega⟩
    have e : i = 2 ^ tN t := by omega
    subst e
    refine ⟨X, s, a, ?_, hL, hs⟩
    have r := RM_congr hN hs hM
    rw [lpS]
    unfold fX7_strangersFor_F32
    simp only [c0, r.1, (evI (tN t) (by omega)).1]
    rw [if_pos (nI_le (Nat.le_refl _) (by omega))]
  | succ k ih =>
    intro i m s a X hi hm hs hL
    obtain ⟨m, rfl⟩ : ∃ x, m = x + 1 := ⟨m - 1, by omega⟩
    have r := RM_congr hN hs hM
    have hiS : i < 2 ^ tN t := by omega
    obtain ⟨s1, a1, e1, r1⟩ := m_taleOf (uM := uM) hn hO hw hiS r a
    have hs1 : ∀ j, j < 48 → s1 j = s0 j := fun j hj => (r1 j hj).trans (hs j hj)
    have ho : fS t w i ≤ 99999 := (ok_serves w (ok_dS hO hiS)).2.2.2.2
    rw [lpS]
    generalize hkk : lpF (fX7_strangersFor_F32 n uM (nI w) (nI v)) m = kk
    unfold fX7_strangersFor_F32 fX7_strangersFor_b61 fX7_strangersFor_b77 fX7_strangersFor_b78
    simp only [c0, r.1, (evI (tN t) (by omega)).1, e1, Option.bind_some, show nI i + (1 : Int32) = nI (i + 1) from nI_1 i]
    rw [if_neg (nI_ge (show i < 2 ^ tN t by omega) (by omega))]
    cases X with
    | none =>
      rw [if_pos (show optI none < 0 by decide)]
      by_cases q : v ≤ fS t w i
      · rw [if_neg (nI_nlt q (by omega)), ← hkk]
        refine ih (i + 1) m s1 a1 (some i) (by omega) (by omega) hs1 ⟨by omega, q, fun S hS hR => ?_⟩
        by_cases e : S = i
        · right; subst e; exact ⟨rfl, Nat.le_refl _⟩
        · exact absurd hR (hL S (by omega))
      · rw [if_pos (nI_lt (by omega) (by omega)), ← hkk]
        refine ih (i + 1) m s1 a1 none (by omega) (by omega) hs1 (fun S hS => ?_)
        by_cases e : S = i
        · subst e; exact q
        · exact hL S (by omega)
    | some b =>
      obtain ⟨l1, l2, l3⟩ := hL
      have hb256 : b < 256 := by omega
      have p1 := pc_le i (by omega)
      have p2 := pc_le b hb256
      rw [show optI (some b) = nI b from rfl, if_neg (nI_pos (n := b) (by omega)), m_size hn (show i < 256 by omega), m_size hn hb256]
      simp only [Option.bind_some]
      by_cases q0 : pc b ≤ pc i
      · rw [if_pos (nI_le q0 (by omega)), ← hkk]
        refine ih (i + 1) m s a (some b) (by omega) (by omega) hs ⟨by omega, l2, fun S hS hR => ?_⟩
        by_cases e : S = i
        · subst e; omega
        · exact l3 S (by omega) hR
      · rw [if_neg (nI_ge (by omega) (by omega))]
        by_cases q : v ≤ fS t w i
        · rw [if_neg (nI_nlt q (by omega)), ← hkk]
          refine ih (i + 1) m s1 a1 (some i) (by omega) (by omega) hs1 ⟨by omega, q, fun S hS hR => ?_⟩
          by_cases e : S = i
          · right; subst e; exact ⟨rfl, Nat.le_refl _⟩
          · have := l3 S (by omega) hR
            left; omega
        · rw [if_pos (nI_lt (by omega) (by omega)), ← hkk]
          refine ih (i + 1) m s1 a1 (some b) (by omega) (by omega) hs1 ⟨by omega, l2, fun S hS hR => ?_⟩
          by_cases e : S = i
          · subst e; exact absurd hR q
          · exact l3 S (by omega) hR
theorem p_strangersFor {n : Nat} (hn : 300 ≤ n) {uK : Int32} {uN uY : TB} {uM : MO} {s a : Nat → Int32} (h : RelT uN s) (x1 x2 : Int32) : ∃ (A : Int32) (Y' : TB) (s' a' : Nat → Int32), fX6_strangersFor n uK uN uY x1 x2 = some (A, Y') ∧ fX7_strangersFor n uM s a x1 x2 = some (A, s', a') ∧ RelT uN s' := by
  obtain ⟨t, hK, hM, hO⟩ := h
  unfold fX6_strangersFor fX7_strangersFor
  rw [show fX7_isIn n x1.toInt64 1 20 = fX6_within n x1 1 20 from isIn_eq x1 1 20, show fX7_isIn n x2.toInt64 0 99999 = fX6_within n x2 0 99999 from isIn_eq x2 0 99999]
  rcases out_or x1 (lo := 1) (hi := 20) (by decide) (by decide) with h1 | ⟨w, hw1, hw, rfl⟩
  · rw [show fX6_within n x1 1 20 = some 0 from k_in0 (lo := 1) (hi := 20) h1]
    exact ⟨_, _, _, _, rfl, rfl, t, hK, hM, hO⟩
  rw [show fX6_within n (nI w) 1 20 = some 1 from k_in1 (lo := 1) (hi := 20) hw1 hw (by decide)]
  rcases out_or x2 (lo := 0) (hi := 99999) (by decide) (by decide) with h1 | ⟨v, -, hv, rfl⟩
  · rw [show fX6_within n x2 0 99999 = some 0 from k_in0 (lo := 0) (hi := 99999) h1]
    exact ⟨_, _, _, _, rfl, rfl, t, hK, hM, hO⟩
  rw [show fX6_within n (nI v) 0 99999 = some 1 from k_in1 (lo := 0) (hi := 99999) (by omega) hv (by decide)]
  have hN := hO.1
  have h256 := p2_le hN
  have h0 := Nat.two_pow_pos (tN t)
  have ho := hO.2.2.2.2
  have hl := hO.2.1.1
  obtain ⟨X, s', a', e1, hX, r1⟩ := m_strL (uM := uM) hn hO hw hv hM (2 ^ tN t) 0 n s a none (by omega) (by omega) (fun _ _ => rfl) (fun S hS => absurd hS (Nat.not_lt_zero S))
  have back : RelT uN s' := ⟨t, hK, RM_congr hN r1 hM, hO⟩
  have e1 : lpF (fX7_strangersFor_F32 n uM (nI w) (nI v)) n (s, a, -3, 0) = some (optI X, s', a') := e1
  have eL : uN.1 (0 : Int32).toNatClampNeg = nI (tL t 0) := hK.1 0 (by decide)
  simp only [Option.bind_some, if_neg i10, hK.2.2.2.2.2.1, eL, e1]
  by_cases q0 : v ≤ tO t
  · rw [if_neg (nI_nlt q0 (by omega))]
    have : X = some 0 := by
      have hz : v ≤ fS t w 0 := Nat.le_trans q0 (serves_O w (ok_dS hO (S := 0) (by omega)))
      cases X with
      | none => exact absurd hz (hX 0 (by omega))
      | some b =>
        have h1 := hX.2.2 0 (by omega) hz
        have h2 : pc 0 = 0 := by decide
        have : b = 0 := by omega
        rw [this]
    subst this
    exact ⟨_, _, _, _, rfl, rfl, back⟩
  · have hto : tO t < v := by omega
    have hm : w * tL t 0 ≤ 20 * 9 := Nat.mul_le_mul hw hl
    rw [if_pos (nI_lt hto (by omega)), pk_sub (show tO t ≤ v by omega), pk_mul]
    by_cases q1 : v - tO t ≤ w * tL t 0
    · rw [if_pos (nI_le q1 (by omega))]
      obtain ⟨P, hP, pP, eP⟩ := k_pu hn hK hO hv
      obtain ⟨H, hH, pH, eH⟩ := k_ho hn hK hO hP
      obtain ⟨Y, Y', e2, hY⟩ := k_outerL hn (uK := uK) hK hO hw hv hP hH (tN t) 1 n uY (by omega) (by omega) (fun S hS hp hC => by
        have := pc0 S (by omega) (by omega)
        exact hC.1 this)
      have e2 : lpF (fX6_strangersFor_F83 n uK uN (nI w) (nI v)) n (uY, nI P, nI H, 1) = some (optI Y, Y') := e2
      simp only [eP, eH, Option.bind_some, e2]
      have := lst_eq hO pP pH hto hX hY
      subst this
      exact ⟨_, _, _, _, rfl, rfl, back⟩
    · rw [if_neg (nI_ge (by omega) (by omega))]
      have : X = none := by
        cases X with
        | none => rfl
        | some b =>
          have h1 : v ≤ tO (aServes w (dS t b)) := hX.2.1
          have h2 := serves_le w (dS t b)
          have h3 : tL (dS t b) 0 = tL t 0 := rfl
          have h4 : tO (dS t b) = tO t := rfl
          rw [h3, h4] at h2
          omega
      subst this
      exact ⟨_, _, _, _, rfl, rfl, back⟩
