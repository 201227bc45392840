/-! PURE, 7: draws, luck -/
def aZ (z : Int32) : Int32 := z * (1103515245 : Int32) + (12345 : Int32)
def dN (z : Int32) : Nat := z.toBitVec.toNat / 2 ^ 16
theorem dN_lt (z : Int32) : dN z < 65536 := by
  unfold dN
  have := z.toBitVec.isLt
  omega
theorem ofTN {y : Int32} {d : Nat} (hd : d < 2 ^ 32) (h : y.toBitVec.toNat = d) : y = nI d := by
  apply Int32.toBitVec_inj.mp
  apply BitVec.eq_of_toNat_eq
  rw [h, pk_tn hd]
theorem drI (x : Int32) : (x.toUInt32 >>> ((16 : Int32).toUInt32 &&& Int32.toUInt32 31)).toInt32 = nI (dN x) := ofTN (by have := dN_lt x; omega) (pk_ushr x 16 16 (by decide))
theorem remN {a d : Nat} (ha : a < 65536) (h0 : 0 < d) (hd : d < 2 ^ 31) : nI a - nI a / nI d * nI d = nI (a % d) := pk_rem (by omega) h0 hd
def aByDraws (t : TA) : TA :=
  if tN t = 0 then aServe t
  else if dN (aZ (aZ (tZ t))) % 100 < tL t 3 then aServe (setZ (setH t (at1 (tH t) (dN (aZ (tZ t)) % tN t) (dN (aZ (aZ (aZ (tZ t)))) % 8))) (aZ (aZ (aZ (tZ t)))))
  else aServe (setZ t (aZ (aZ (tZ t))))
theorem ok_byDraws {t : TA} (hO : OkT t) : OkT (aByDraws t) := by
  unfold aByDraws
  split
  · exact ok_serve hO
  · split
    · exact ok_serve (ok_Z (ok_H hO (by omega)) _)
    · exact ok_serve (ok_Z hO _)
theorem RK_Z {u : TB} {t : TA} {z : Int32} (h : RK u t) : RK (u.1, u.2.1, u.2.2.1, u.2.2.2.1, u.2.2.2.2.1, u.2.2.2.2.2.1, u.2.2.2.2.2.2.1, u.2.2.2.2.2.2.2.1, u.2.2.2.2.2.2.2.2.1, z) (setZ t z) := ⟨h.1, h.2.1, h.2.2.1, h.2.2.2.1, h.2.2.2.2.1, h.2.2.2.2.2.1, rfl⟩
theorem k_drawn {n : Nat} {u : TB} {t : TA} (hR : RK u t) : ∃ u' : TB, fX4_drawn n u = some (nI (dN (aZ (tZ t))), u') ∧ RK u' (setZ t (aZ (tZ t))) := by
  unfold fX4_drawn
  rw [drI, hR.2.2.2.2.2.2]
  exact ⟨_, rfl, RK_Z hR⟩
theorem m_drawn {n : Nat} {uM : MO} {s : Nat → Int32} {t : TA} (hR : RM s t) : ∃ s' : Nat → Int32, fX7_drawn n uM s = some (nI (dN (aZ (tZ t))), s') ∧ RM s' (setZ t (aZ (tZ t))) := by
  unfold fX7_drawn
  rw [c2, drI, pk_us, hR.2.2.1]
  exact ⟨_, rfl, RM_Z hR⟩
theorem k_drawnZ {n : Nat} {u : TB} {t : TA} {z : Int32} (hz : z = aZ (tZ t)) (hR : RK u t) : ∃ u' : TB, fX4_drawn n u = some (nI (dN z), u') ∧ RK u' (setZ t z) := by
  subst hz
  exact k_drawn hR
theorem m_drawnZ {n : Nat} {uM : MO} {s : Nat → Int32} {t : TA} {z : Int32} (hz : z = aZ (tZ t)) (hR : RM s t) : ∃ s' : Nat → Int32, fX7_drawn n uM s = some (nI (dN z), s') ∧ RM s' (setZ t z) := by
  subst hz
  exact m_drawn hR
theorem aByDraws_eq {t : TA} {z1 z2 z3 : Int32} (h1 : z1 = aZ (tZ t)) (h2 : z2 = aZ z1) (h3 : z3 = aZ z2) : aByDraws t = if tN t = 0 then aServe t else if dN z2 % 100 < tL t 3 then aServe (setZ (setH t (at1 (tH t) (dN z1 % tN t) (dN z3 % 8))) z3) else aServe (setZ t z2) := by
  subst h3
  subst h2
  subst h1
  rfl
theorem k_byDraws {n : Nat} (hn : 300 ≤ n) {u : TB} {t : TA} (hR : RK u t) (hO : OkT t) : ∃ u' : TB, fX4_serveByDraws n u = some u' ∧ RK u' (aByDraws t) := by
  have hN := hO.1
  have hS := hO.2.1.2.2.2
  obtain ⟨z1, hz1⟩ : ∃ z, z = aZ (tZ t) := ⟨_, rfl⟩
  obtain ⟨z2, hz2⟩ : ∃ z, z = aZ z1 := ⟨_, rfl⟩
  obtain ⟨z3, hz3⟩ : ∃ z, z = aZ z2 := ⟨_, rfl⟩
  rw [aByDraws_eq hz1 hz2 hz3]
  unfold fX4_serveByDraws fX4_serveByDraws_b46
  rw [hR.2.2.2.1]
  by_cases h0 : tN t = 0
  · rw [if_pos h0, h0]
    obtain ⟨u', e, r⟩ := k_serve hn hR hO
    rw [if_pos (show nI 0 ≤ 0 by decide), e]
    exact ⟨_, rfl, r⟩
  · rw [if_neg h0, if_neg (nI_nle (by omega) (by omega))]
    obtain ⟨u1, e1, r1⟩ := k_drawnZ (n := n) hz1 hR
    obtain ⟨u2, e2, r2⟩ := k_drawnZ (n := n) (t := setZ t z1) hz2 r1
    obtain ⟨u3, e3, r3⟩ := k_drawnZ (n := n) (t := setZ t z2) hz3 r2
    clear hz1 hz2 hz3
    have q1 : u1.2.2.2.2.2.2.1 = nI (tN t) := r1.2.2.2.1
    have q3 : u2.1 3 = nI (tL t 3) := r2.1 3 (by decide)
    have hg : dN z1 % tN t < tN t := Nat.mod_lt _ (by omega)
    have hd1 := dN_lt z1
    have hd2 := dN_lt z2
    have hd3 := dN_lt z3
    simp only [e1, e2, e3, Option.bind_some, q1, c3, q3]
    rw [if_neg (nI_ne0 (by omega) (by omega)), show nI (dN z2) - nI (dN z2) / (100 : Int32) * (100 : Int32) = nI (dN z2 % 100) from remN (d := 100) hd2 (by decide) (by decide), remN hd1 (show 0 < tN t by omega) (by omega), show nI (dN z3) - nI (dN z3) / (8 : Int32) * (8 : Int32) = nI (dN z3 % 8) from remN (d := 8) hd3 (by decide) (by decide)]
    by_cases hs : dN z2 % 100 < tL t 3
    · rw [if_pos hs, if_neg (show ¬ nI (tL t 3) ≤ nI (dN z2 % 100) from nI_ge hs (by omega)), if_neg (nI_ok (show dN z1 % tN t < 8 by omega) (by decide)), nI_cl8 (show dN z1 % tN t < 8 by omega)]
      have r4 : RK (u3.1, u3.2.1, upd u3.2.2.1 (dN z1 % tN t) (nI (dN z3 % 8)), u3.2.2.2) (setZ (setH t (at1 (tH t) (dN z1 % tN t) (dN z3 % 8))) z3) := RK_H r3
      obtain ⟨u4, e4, r5⟩ := k_serve hn r4 (ok_Z (ok_H hO (by omega)) _)
      exact ⟨u4, (congrArg (fun z => Option.bind z fun r => some r) e4), r5⟩
    · rw [if_neg hs, if_pos (show nI (tL t 3) ≤ nI (dN z2 % 100) from nI_le (by omega) (by omega))]
      obtain ⟨u4, e4, r5⟩ := k_serve hn r2 (ok_Z hO _)
      exact ⟨u4, (congrArg (fun z => Option.bind z fun r => some r) e4), r5⟩
theorem m_course {n : Nat} {uM : MO} (hn : 300 ≤ n) {s : Nat → Int32} {t : TA} (hR : RM s t) (hO : OkT t) : ∃ s' : Nat → Int32, fX7_course n uM s = some (nI (tO (aByDraws t)), s') ∧ RM s' (aByDraws t) := by
  have hN := hO.1
  have hS := hO.2.1.2.2.2
  obtain ⟨z1, hz1⟩ : ∃ z, z = aZ (tZ t) := ⟨_, rfl⟩
  obtain ⟨z2, hz2⟩ : ∃ z, z = aZ z1 := ⟨_, rfl⟩
  obtain ⟨z3, hz3⟩ : ∃ z, z = aZ z2 := ⟨_, rfl⟩
  rw [aByDraws_eq hz1 hz2 hz3]
  unfold fX7_course fX7_course_b58
  rw [c0, hR.1]
  have fin : ∀ (s1 : Nat → Int32) (t1 : TA), RM s1 t1 → OkT t1 → ∃ s' : Nat → Int32, ((fX7_goesOn n uM s1).bind fun r59 => some (r59 (3 : Int32).toNatClampNeg, r59)) = some (nI (tO (aServe t1)), s') ∧ RM s' (aServe t1) := by
    intro s1 t1 h1 o1
    obtain ⟨s2, e, r⟩ := m_serve (uM := uM) hn h1 o1
    rw [e]
    refine ⟨s2, ?_, r⟩
    show some (s2 (3 : Int32).toNatClampNeg, s2) = _
    rw [c3, r.2.2.2.1]
  by_cases h0 : tN t = 0
  · rw [if_pos h0, h0, if_pos (show nI 0 ≤ 0 by decide)]
    exact fin s t hR hO
  · rw [if_neg h0, if_neg (nI_nle (by omega) (by omega))]
    obtain ⟨s1, e1, r1⟩ := m_drawnZ (n := n) (uM := uM) hz1 hR
    obtain ⟨s2, e2, r2⟩ := m_drawnZ (n := n) (uM := uM) (t := setZ t z1) hz2 r1
    obtain ⟨s3, e3, r3⟩ := m_drawnZ (n := n) (uM := uM) (t := setZ t z2) hz3 r2
    clear hz1 hz2 hz3
    have q1 : s1 0 = nI (tN t) := r1.1
    have q3 : s2 7 = nI (tL t 3) := r2.2.2.2.2.1 3 (by decide)
    have hg : dN z1 % tN t < tN t := Nat.mod_lt _ (by omega)
    have hd1 := dN_lt z1
    have hd2 := dN_lt z2
    have hd3 := dN_lt z3
    simp only [e1, e2, e3, Option.bind_some, q1, c0, c7, q3]
    have i1 : ((8 : Int32) + ((5 : Int32) * nI (dN z1 % tN t))) + (1 : Int32) = nI (8 + 5 * (dN z1 % tN t) + 1) := ixM _ (by omega) 1 (by decide)
    rw [if_neg (nI_ne0 (by omega) (by omega)), show nI (dN z2) - nI (dN z2) / (100 : Int32) * (100 : Int32) = nI (dN z2 % 100) from remN (d := 100) hd2 (by decide) (by decide), remN hd1 (show 0 < tN t by omega) (by omega), show nI (dN z3) - nI (dN z3) / (8 : Int32) * (8 : Int32) = nI (dN z3 % 8) from remN (d := 8) hd3 (by decide) (by decide), i1]
    by_cases hs : dN z2 % 100 < tL t 3
    · rw [if_pos hs, if_neg (show ¬ nI (tL t 3) ≤ nI (dN z2 % 100) from nI_ge hs (by omega)), if_neg (nI_ok (show 8 + 5 * (dN z1 % tN t) + 1 < 48 by omega) (by decide)), nI_clamp (show 8 + 5 * (dN z1 % tN t) + 1 < 2 ^ 31 by omega)]
      have r4 : RM (upd s3 (8 + 5 * (dN z1 % tN t) + 1) (nI (dN z3 % 8))) (setZ (setH t (at1 (tH t) (dN z1 % tN t) (dN z3 % 8))) z3) := RM_H r3
      exact fin _ _ r4 (ok_Z (ok_H hO (by omega)) _)
    · rw [if_neg hs, if_pos (show nI (tL t 3) ≤ nI (dN z2 % 100) from nI_le (by omega) (by omega))]
      exact fin _ _ r2 (ok_Z hO _)
theorem p_course {n : Nat} (hn : 300 ≤ n) {uK : Int32} {uN : TB} {uM : MO} {s : Nat → Int32} (h : RelT uN s) : ∃ (A : Int32) (N' : TB) (s' : Nat → Int32), fX6_course n uK uN = some (A, N') ∧ fX7_course n uM s = some (A, s') ∧ RelT N' s' := by
  obtain ⟨t, hK, hM, hO⟩ := h
  obtain ⟨u', e1, r1⟩ := k_byDraws hn hK hO
  obtain ⟨s', e2, r2⟩ := m_course (uM := uM) hn hM hO
  refine ⟨_, u', s', ?_, e2, _, r1, r2, ok_byDraws hO⟩
  unfold fX6_course
  rw [e1]
  exact congrArg some (congrArg (fun z => (z, u')) r1.2.2.2.2.2.1)
def aLuck (t : TA) (pl : Nat) : Nat → Int32 → Nat → Nat
  | 0, _, acc => acc
  | k + 1, z, acc => aLuck t pl k (tZ (aByDraws (setZ t z))) (if tO (aByDraws (setZ t z)) ≤ pl then acc else acc + 1)
theorem k_luckL {n : Nat} (hn : 300 ≤ n) {uK : Int32} {uN : TB} {t : TA} (hR : RK uN t) (hO : OkT t) {N pl : Nat} (hN : N < 2 ^ 31) (hpl : pl ≤ 99999) : ∀ (k i m : Nat) (uY : TB) (z : Int32) (acc : Nat), i + k = N → k < m → ∃ Y' : TB, lpF (fX6_luck_F32 n uK uN (nI N)) m (uY, nI pl, nI acc, z, nI i) = some (nI (aLuck t pl k z acc), Y') := by
  intro k
  induction k with
  | zero =>
    intro i m uY z acc hi hm
    obtain ⟨m, rfl⟩ : ∃ x, m = x + 1 := ⟨m - 1, by omega⟩
    rw [lpS]
    unfold fX6_luck_F32
    rw [if_pos (show nI N ≤ nI i from nI_le (by omega) (by omega))]
    exact ⟨_, rfl⟩
  | succ k ih =>
    intro i m uY z acc hi hm
    obtain ⟨m, rfl⟩ : ∃ x, m = x + 1 := ⟨m - 1, by omega⟩
    obtain ⟨u1, e1, r1⟩ := k_copy n uY uN
    obtain ⟨u2, e2, r2⟩ := k_byDraws hn (RK_Z (z := z) (r1 t hO.1 hR)) (ok_Z hO z)
    have o2 := (ok_byDraws (ok_Z hO z)).2.2.2.2
    have nx : nI i + (1 : Int32) = nI (i + 1) := nI_1 i
    have na : nI acc + (1 : Int32) = nI (acc + 1) := nI_1 acc
    rw [lpS]
    generalize hkk : lpF (fX6_luck_F32 n uK uN (nI N)) m = kk at *
    unfold fX6_luck_F32 fX6_luck_b88
    simp only [e1, e2, Option.bind_some, nx, na, r2.2.2.2.2.2.1, r2.2.2.2.2.2.2]
    rw [if_neg (show ¬ nI N ≤ nI i from nI_ge (by omega) hN), ← hkk]
    show ∃ Y' : TB, _ = some (nI (aLuck t pl k (tZ (aByDraws (setZ t z))) (if tO (aByDraws (setZ t z)) ≤ pl then acc else acc + 1)), Y')
    by_cases hc : tO (aByDraws (setZ t z)) ≤ pl
    · rw [if_pos hc, if_pos (nI_le hc (by omega))]
      exact ih (i + 1) m u2 _ acc (by omega) (by omega)
    · rw [if_neg hc, if_neg (nI_ge (by omega) (by omega))]
      exact ih (i + 1) m u2 _ (acc + 1) (by omega) (by omega)
theorem m_luckL {n : Nat} {uM : MO} (hn : 300 ≤ n) {t : TA} (hO : OkT t) {N pl : Nat} (hN : N < 2 ^ 31) (hpl : pl ≤ 99999) {a : Nat → Int32} (hA : RM a t) : ∀ (k i m : Nat) (s : Nat → Int32) (z : Int32) (acc : Nat), i + k = N → k < m → ∃ s' : Nat → Int32, lpF (fX7_luck_F44 n uM (nI N)) m (s, a, nI pl, z, nI acc, nI i) = some (nI (aLuck t pl k z acc), s', a) ∧ ∀ j, j < 48 → s' j = a j := by
  intro k
  induction k with
  | zero =>
    intro i m s z acc hi hm
    obtain ⟨m, rfl⟩ : ∃ x, m = x + 1 := ⟨m - 1, by omega⟩
    obtain ⟨s1, e1, r1⟩ := m_copy hn a s
    rw [lpS]
    unfold fX7_luck_F44
    rw [if_pos (show nI N ≤ nI i from nI_le (by omega) (by omega))]
    simp only [e1, Option.bind_some]
    exact ⟨s1, rfl, r1⟩
  | succ k ih =>
    intro i m s z acc hi hm
    obtain ⟨m, rfl⟩ : ∃ x, m = x + 1 := ⟨m - 1, by omega⟩
    obtain ⟨s1, e1, r1⟩ := m_copy hn a s
    obtain ⟨s2, e2, r2⟩ := m_course (uM := uM) hn (RM_Z (z := z) (RM_congr hO.1 r1 hA)) (ok_Z hO z)
    have o2 := (ok_byDraws (ok_Z hO z)).2.2.2.2
    have nx : nI i + (1 : Int32) = nI (i + 1) := nI_1 i
    have na : nI acc + (1 : Int32) = nI (acc + 1) := nI_1 acc
    have n0 : nI acc + (0 : Int32) = nI acc := nI_add acc 0
    rw [lpS]
    generalize hkk : lpF (fX7_luck_F44 n uM (nI N)) m = kk at *
    unfold fX7_luck_F44 fX7_luck_b83
    simp only [c2, e1, e2, Option.bind_some, nx, na, n0, r2.2.2.1]
    rw [if_neg (show ¬ nI N ≤ nI i from nI_ge (by omega) hN), ← hkk]
    show ∃ s' : Nat → Int32, _ = some (nI (aLuck t pl k (tZ (aByDraws (setZ t z))) (if tO (aByDraws (setZ t z)) ≤ pl then acc else acc + 1)), s', a) ∧ _
    by_cases hc : tO (aByDraws (setZ t z)) ≤ pl
    · rw [if_pos hc, if_pos (nI_le hc (by omega))]
      exact ih (i + 1) m s2 _ acc (by omega) (by omega)
    · rw [if_neg hc, if_neg (nI_ge (by omega) (by omega))]
      exact ih (i + 1) m s2 _ (acc + 1) (by omega) (by omega)
theorem p_luck {n : Nat} (hn : 300 ≤ n) {uK : Int32} {uN uY : TB} {uM : MO} {s a : Nat → Int32} (h : RelT uN s) (x1 : Int32) : ∃ (A : Int32) (Y' : TB) (s' a' : Nat → Int32), fX6_luck n uK uN uY x1 = some (A, Y') ∧ fX7_luck n uM s a x1 = some (A, s', a') ∧ RelT uN s' := by
  obtain ⟨t, hK, hM, hO⟩ := h
  unfold fX6_luck fX7_luck
  rcases out_or x1 (lo := 1) (hi := 30) (by decide) (by decide) with h2 | ⟨k, hk1, hk, rfl⟩
  · rw [show fX6_within n x1 1 30 = some 0 from k_in0 (lo := 1) (hi := 30) h2, show fX7_isIn n x1.toInt64 1 30 = some 0 from m_in0 (lo := 1) (hi := 30) (by decide) (by decide) h2]
    exact ⟨_, _, _, _, rfl, rfl, t, hK, hM, hO⟩
  · rw [show fX6_within n (nI k) 1 30 = some 1 from k_in1 (lo := 1) (hi := 30) hk1 hk (by decide), show fX7_isIn n (nI k).toInt64 1 30 = some 1 from m_in1 (lo := 1) (hi := 30) hk1 hk (by decide)]
    obtain ⟨u1, e1, -⟩ := k_tried hn uK (uY := uY) hK hO (k := 1) (by omega)
    obtain ⟨s1, a1, e2, r2⟩ := m_tale (uM := uM) (a := a) hn hM hO (k := 1) (by omega)
    obtain ⟨a2, e3, r3⟩ := m_copy hn s1 a1
    have hpl := (ok_serves 1 hO).2.2.2.2
    have hA : RM a2 t := RM_congr hO.1 (fun j hj => (r3 j hj).trans (r2 j hj)) hM
    obtain ⟨Y', e4⟩ := k_luckL hn (uK := uK) hK hO (N := k) (pl := tO (aServes 1 t)) (by omega) hpl k 0 n u1 (tZ t) 0 (by omega) (by omega)
    obtain ⟨s', e5, r5⟩ := m_luckL hn (uM := uM) hO (N := k) (pl := tO (aServes 1 t)) (by omega) hpl hA k 0 n s1 (tZ t) 0 (by omega) (by omega)
    have ez : s1 2 = tZ t := (r2 2 (by decide)).trans hM.2.2.1
    simp only [Option.bind_some, if_neg i10, show fX6_triedTale n uK uN uY 1 = _ from e1, show fX7_taleBy n uM s a 1 = _ from e2, e3, c2, ez, hK.2.2.2.2.2.2]
    exact ⟨_, _, _, _, e4, e5, t, hK, RM_congr hO.1 r5 hA, hO⟩
