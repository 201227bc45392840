/-! PURE, 12: the reader; which piece one had -/
/-- ROW i is as it must be -/
def okRow (f : Nat → Int32) (t : TA) (g i : Nat) : Bool := decide (f (3 * i) = nI (tG t g)) && (decide (f (3 * i + 1) = nI (tT t g)) && decide (f (3 * i + 2) = nI (tO t)))
def aJ (f : Nat → Int32) (g : Nat) : Nat → Nat → TA → Nat
  | 0, _, _ => 0
  | k + 1, i, t => if okRow f (aServe t) g i then aJ f g k (i + 1) (aServe t) else i + 1
theorem aJ_s (f : Nat → Int32) (g k i : Nat) (t : TA) : aJ f g (k + 1) i t = if okRow f (aServe t) g i then aJ f g k (i + 1) (aServe t) else i + 1 := rfl
theorem k_jcells {n : Nat} {uK : Int32} {uN uY : TB} {t : TA} (hR : RK uY t) (hO : OkT t) {g i m : Nat} (hg : g < tN t) (hi : i < 10) {uW : RW} (k26 : (TB × Int32) → Option (Int32 × TB)) : lpF (fX6_judge_F46 n uK uN uW (nI g) k26) (m + 4) (uY, nI i, 0) = if okRow uW.1 t g i then k26 (uY, nI (i + 1)) else some (nI (i + 1), uY) := by
  have h8 : g < 8 := Nat.lt_of_lt_of_le hg hO.1
  obtain ⟨-, -, qg, qt⟩ := hR.2.1 g hg
  have t0 : fX6_triedCell n uK uY (nI g) (nI 0) = some (nI (tG t g)) := by
    unfold fX6_triedCell
    rw [if_pos (show nI 0 = (0 : Int32) from rfl), if_neg (nI_ok h8 (by decide)), nI_cl8 h8, qg]
  have t1 : fX6_triedCell n uK uY (nI g) (nI 1) = some (nI (tT t g)) := by
    unfold fX6_triedCell
    rw [if_neg (show ¬ nI 1 = (0 : Int32) by decide), if_pos (show nI 1 = (1 : Int32) from rfl), if_neg (nI_ok h8 (by decide)), nI_cl8 h8, qt]
  have t2 : fX6_triedCell n uK uY (nI g) (nI 2) = some (nI (tO t)) := by
    unfold fX6_triedCell
    rw [if_neg (show ¬ nI 2 = (0 : Int32) by decide), if_neg (show ¬ nI 2 = (1 : Int32) by decide), hR.2.2.2.2.2.1]
  have stp : ∀ (m w : Nat) (v : Int32), w < 3 → fX6_triedCell n uK uY (nI g) (nI w) = some v → lpF (fX6_judge_F46 n uK uN uW (nI g) k26) (m + 1) (uY, nI i, nI w) = if uW.1 (3 * i + w) = v then lpF (fX6_judge_F46 n uK uN uW (nI g) k26) m (uY, nI i, nI (w + 1)) else some (nI (i + 1), uY) := by
    intro m w v hw hv
    rw [lpS]
    generalize lpF (fX6_judge_F46 n uK uN uW (nI g) k26) m = kk
    unfold fX6_judge_F46
    simp only [hv, Option.bind_some, ixR, show nI w + (1 : Int32) = nI (w + 1) from nI_1 w, show nI i + (1 : Int32) = nI (i + 1) from nI_1 i]
    rw [if_neg (show ¬ (3 : Int32) ≤ nI w from nI_ge (b := 3) hw (by decide)), if_neg (nI_ok (show 3 * i + w < 30 by omega) (by decide)), nI_clamp (show 3 * i + w < 2 ^ 31 by omega)]
  have e0 : lpF (fX6_judge_F46 n uK uN uW (nI g) k26) (m + 4) (uY, nI i, 0) = _ := stp (m + 3) 0 _ (by decide) t0
  rw [e0, stp (m + 2) 1 _ (by decide) t1, stp (m + 1) 2 _ (by decide) t2, lpS]
  have fin : fX6_judge_F46 n uK uN uW (nI g) k26 (lpF (fX6_judge_F46 n uK uN uW (nI g) k26) m) (uY, nI i, nI (2 + 1)) = k26 (uY, nI (i + 1)) := by
    generalize lpF (fX6_judge_F46 n uK uN uW (nI g) k26) m = kk
    unfold fX6_judge_F46
    rw [if_pos (show (3 : Int32) ≤ nI (2 + 1) from nI_le (a := 3) (by decide) (by decide))]
    simp only [show nI i + (1 : Int32) = nI (i + 1) from nI_1 i]
  rw [fin]
  unfold okRow
  by_cases a0 : uW.1 (3 * i + 0) = nI (tG t g)
  · rw [if_pos a0]
    rw [Nat.add_zero] at a0
    by_cases a1 : uW.1 (3 * i + 1) = nI (tT t g)
    · rw [if_pos a1]
      by_cases a2 : uW.1 (3 * i + 2) = nI (tO t)
      · rw [if_pos a2]
        simp [a0, a1, a2]
      · rw [if_neg a2]
        simp [a2]
    · rw [if_neg a1]
      simp [a1]
  · rw [if_neg a0]
    rw [Nat.add_zero] at a0
    simp [a0]
theorem k_judgeL {n : Nat} (hn : 300 ≤ n) {uK : Int32} {uN : TB} {uW : RW} {g c : Nat} (hc : c ≤ 10) (hW : uW.2 = nI c) : ∀ (k i m : Nat) (uY : TB) (t : TA), i + k = c → k < m → RK uY t → OkT t → g < tN t → ∃ Y' : TB, lpF (fX6_judge_F26 n uK uN uW (nI g)) m (uY, nI i) = some (nI (aJ uW.1 g k i t), Y') := by
  intro k
  induction k with
  | zero =>
    intro i m uY t hi hm hR hO hg
    obtain ⟨m, rfl⟩ : ∃ x, m = x + 1 := ⟨m - 1, by omega⟩
    rw [lpS]
    unfold fX6_judge_F26
    rw [hW, if_pos (nI_le (by omega) (by omega))]
    exact ⟨_, rfl⟩
  | succ k ih =>
    intro i m uY t hi hm hR hO hg
    obtain ⟨m, rfl⟩ : ∃ x, m = x + 1 := ⟨m - 1, by omega⟩
    obtain ⟨u1, e1, r1⟩ := k_serve hn hR hO
    have o1 := ok_serve hO
    have hg1 : g < tN (aServe t) := by rw [serve_N]; exact hg
    rw [lpS]
    generalize hkk : lpF (fX6_judge_F26 n uK uN uW (nI g)) m = kk
    unfold fX6_judge_F26
    simp only [e1, Option.bind_some, hW]
    rw [if_neg (show ¬ nI c ≤ nI i from nI_ge (by omega) (by omega))]
    obtain ⟨n', rfl⟩ : ∃ x, n = x + 4 := ⟨n - 4, by omega⟩
    rw [k_jcells r1 o1 hg1 (by omega) kk, aJ_s, ← hkk]
    split
    · exact ih (i + 1) m u1 (aServe t) (by omega) (by omega) r1 o1 hg1
    · exact ⟨_, rfl⟩
theorem m_judgeL {n : Nat} (hn : 300 ≤ n) {uM : MO} {rows a : Nat → Int32} {g c : Nat} (hc : c ≤ 10) (hW : uM.2.2.2.2.2.2.2.1 = nI c) : ∀ (k i m : Nat) (s : Nat → Int32) (t : TA), i + k = c → k + 1 < m → RM s t → OkT t → g < tN t → ∃ s' : Nat → Int32, lpF (fX7_judge_F25 n uM rows (nI g)) m (s, a, nI i, 1) = some (nI (aJ rows g k i t), s', a) ∧ ∀ j, j < 48 → s' j = a j := by
  intro k
  induction k with
  | zero =>
    intro i m s t hi hm hR hO hg
    obtain ⟨m, rfl⟩ : ∃ x, m = x + 1 := ⟨m - 1, by omega⟩
    obtain ⟨s2, e2, r2⟩ := m_copy hn a s
    rw [lpS]
    unfold fX7_judge_F25 fX7_judge_b108
    rw [hW, if_pos (nI_le (by omega) (by omega))]
    simp only [e2, Option.bind_some]
    exact ⟨s2, rfl, r2⟩
  | succ k ih =>
    intro i m s t hi hm hR hO hg
    obtain ⟨m, rfl⟩ : ∃ x, m = x + 1 + 1 := ⟨m - 2, by omega⟩
    obtain ⟨s1, e1, r1⟩ := m_serve (uM := uM) hn hR hO
    have o1 := ok_serve hO
    have hg1 : g < tN (aServe t) := by rw [serve_N]; exact hg
    have i0 : (3 : Int32) * nI i = nI (3 * i) := by rw [show (3 : Int32) = nI 3 from rfl, pk_mul]
    have i1 : nI (3 * i) + (1 : Int32) = nI (3 * i + 1) := nI_add _ 1
    have i2 : nI (3 * i) + (2 : Int32) = nI (3 * i + 2) := nI_add _ 2
    have nx : nI i + (1 : Int32) = nI (i + 1) := nI_1 i
    rw [lpS]
    generalize hkk : lpF (fX7_judge_F25 n uM rows (nI g)) (m + 1) = kk
    unfold fX7_judge_F25 fX7_judge_b100 fX7_judge_b101
    simp only [e1, m_its2 r1 o1 hg1, m_its3 r1 o1 hg1, Option.bind_some, i0, i1, i2, nx, c3, r1.2.2.2.1, nI_clamp (show 3 * i < 2 ^ 31 by omega), nI_clamp (show 3 * i + 1 < 2 ^ 31 by omega), nI_clamp (show 3 * i + 2 < 2 ^ 31 by omega), hW, if_neg i10]
    rw [if_neg (show ¬ nI c ≤ nI i from nI_ge (by omega) (by omega)), if_neg (nI_ok2 (show 3 * i < 30 by omega) (by decide)), if_neg (nI_ok2 (show 3 * i + 1 < 30 by omega) (by decide)), if_neg (nI_ok2 (show 3 * i + 2 < 30 by omega) (by decide)), aJ_s]
    have bad : ∃ s' : Nat → Int32, kk (s1, a, nI (i + 1), 0) = some (nI (i + 1), s', a) ∧ ∀ j, j < 48 → s' j = a j := by
      obtain ⟨s2, e2, r2⟩ := m_copy hn a s1
      rw [← hkk, lpS]
      generalize lpF (fX7_judge_F25 n uM rows (nI g)) m = kk2
      unfold fX7_judge_F25 fX7_judge_b108
      simp only [e2, Option.bind_some, if_true]
      split
      · exact ⟨s2, rfl, r2⟩
      · exact ⟨s2, rfl, r2⟩
    have good : ∃ s' : Nat → Int32, kk (s1, a, nI (i + 1), 1) = some (nI (aJ rows g k (i + 1) (aServe t)), s', a) ∧ ∀ j, j < 48 → s' j = a j := by
      rw [← hkk]
      exact ih (i + 1) (m + 1) s1 (aServe t) (by omega) (by omega) r1 o1 hg1
    unfold okRow
    by_cases a0 : rows (3 * i) = nI (tG (aServe t) g)
    · rw [if_pos a0]
      by_cases a1 : rows (3 * i + 1) = nI (tT (aServe t) g)
      · rw [if_pos a1]
        by_cases a2 : rows (3 * i + 2) = nI (tO (aServe t))
        · rw [if_pos a2]
          simp only [a0, a1, a2, decide_true, Bool.and_self, if_true]
          exact good
        · rw [if_neg a2]
          simp only [a2, decide_false, Bool.and_false, Bool.false_eq_true, if_false]
          exact bad
      · rw [if_neg a1]
        simp only [a1, decide_false, Bool.false_and, Bool.and_false, Bool.false_eq_true, if_false]
        exact bad
    · rw [if_neg a0]
      simp only [a0, decide_false, Bool.false_and, Bool.false_eq_true, if_false]
      exact bad
theorem aJ_congr {f f' : Nat → Int32} {g c : Nat} (he : ∀ j, j < 3 * c → f j = f' j) : ∀ (k i : Nat) (t : TA), i + k = c → aJ f g k i t = aJ f' g k i t := by
  intro k
  induction k with
  | zero => intro i t _; rfl
  | succ k ih =>
    intro i t hi
    rw [aJ_s, aJ_s, ih (i + 1) (aServe t) (by omega)]
    have : okRow f (aServe t) g i = okRow f' (aServe t) g i := by
      unfold okRow
      rw [he _ (by omega), he _ (by omega), he _ (by omega)]
    rw [this]
theorem p_judge {n : Nat} (hn : 300 ≤ n) {uK : Int32} {uN uY : TB} {uW : RW} {uM : MO} {s a rows : Nat → Int32} (h : RelT uN s) (hW : RelW uW uM.2.2.2.2.2.2.2.1 rows) (x1 : Int32) : ∃ (A : Int32) (Y' : TB) (s' a' : Nat → Int32), fX6_judge n uK uN uY uW x1 = some (A, Y') ∧ fX7_judge n uM s a rows x1 = some (A, s', a') ∧ RelT uN s' := by
  obtain ⟨t, hK, hM, hO⟩ := h
  obtain ⟨c, hc, q1, q2, q3⟩ := hW
  unfold fX6_judge fX7_judge
  rcases one_or x1 hO.1 with h1 | ⟨g, hg, rfl⟩
  · rw [k_has0 hK hO h1, m_one0 hM h1]
    exact ⟨_, _, _, _, rfl, rfl, t, hK, hM, hO⟩
  rw [k_has1 hK hO hg, m_one1 hM hO hg]
  obtain ⟨u1, e1, r1⟩ := k_copy n uY uN
  obtain ⟨a1, e2, r2⟩ := m_copy hn s a
  obtain ⟨Y', e3⟩ := k_judgeL hn (uK := uK) (uN := uN) hc q1 c 0 n u1 t (by omega) (by omega) (r1 t hO.1 hK) hO hg
  obtain ⟨s', e4, r4⟩ := m_judgeL hn (uM := uM) (rows := rows) (a := a1) hc q2 c 0 n s t (by omega) (by omega) hM hO hg
  simp only [Option.bind_some, if_neg i10, e1, e2]
  rw [aJ_congr q3 c 0 t (by omega)] at e3
  exact ⟨_, _, _, _, e3, e4, t, hK, RM_congr hO.1 (fun j hj => (r4 j hj).trans (r2 j hj)) hM, hO⟩
-- sheets
def RelS (uS : SH) (so sz nu : Nat → Int32) : Prop := ∀ i, i < 4 → uS.2.1 i = so i ∧ (so i = -1 ∨ ∃ q, q < 4 ∧ so i = nI q) ∧ (∃ L : Nat, L ≤ 40 ∧ uS.2.2 i = nI L ∧ sz i = nI L) ∧ ∀ k, k < 40 → uS.1 i k = (nu (40 * i + k)).toInt64
theorem lg_eq (a b : Int64) : (lg_cmp a b = 0) = (a = b) := by
  unfold lg_cmp
  by_cases h : a > b
  · rw [if_pos h]
    exact propext ⟨fun z => absurd z (by decide), fun z => absurd (z ▸ h) Int64.lt_irrefl⟩
  · rw [if_neg h]
    by_cases e : a = b
    · rw [if_pos e]
      exact propext ⟨fun _ => e, fun _ => rfl⟩
    · rw [if_neg e]
      exact propext ⟨fun z => absurd z (by decide), fun z => absurd z e⟩
theorem eq64 (a b : Int32) : (a.toInt64 = b.toInt64) = (a = b) := by
  refine propext ⟨fun h => ?_, fun h => by rw [h]⟩
  have := congrArg Int64.toInt h
  rw [Int32.toInt_toInt64, Int32.toInt_toInt64] at this
  exact Int32.toInt_inj.mp this
/-- TOLD goes as the numbers tell -/
def aGo (f : Nat → Int32) : Nat → Nat → TA → Bool
  | 0, _, _ => true
  | k + 1, i, t => if f i = -1 then aGo f k (i + 1) (aServe t) else if f i = nI (tO (aServe t)) then aGo f k (i + 1) (aServe t) else false
theorem aGo_s (f : Nat → Int32) (k i : Nat) (t : TA) : aGo f (k + 1) i t = if f i = -1 then aGo f k (i + 1) (aServe t) else if f i = nI (tO (aServe t)) then aGo f k (i + 1) (aServe t) else false := rfl
theorem k_goL {n : Nat} (hn : 300 ≤ n) {uK : Int32} {uS : SH} {j L : Nat} {f : Nat → Int32} (hL : L ≤ 40) (h1 : uS.2.2 j = nI L) (h2 : ∀ k, k < 40 → uS.1 j k = (f k).toInt64) : ∀ (k i m : Nat) (uY : TB) (t : TA), i + k = L → k < m → RK uY t → OkT t → ∃ Y' : TB, lpF (fX6_goesAs_F2 n uK uS j) m (uY, nI i) = some ((if aGo f k i t then 1 else 0), Y') := by
  intro k
  induction k with
  | zero =>
    intro i m uY t hi hm hR hO
    obtain ⟨m, rfl⟩ : ∃ x, m = x + 1 := ⟨m - 1, by omega⟩
    rw [lpS]
    unfold fX6_goesAs_F2
    rw [h1, if_pos (nI_le (by omega) (by omega))]
    exact ⟨_, rfl⟩
  | succ k ih =>
    intro i m uY t hi hm hR hO
    obtain ⟨m, rfl⟩ : ∃ x, m = x + 1 := ⟨m - 1, by omega⟩
    obtain ⟨u1, e1, r1⟩ := k_serve hn hR hO
    have o1 := ok_serve hO
    have nx : nI i + (1 : Int32) = nI (i + 1) := nI_1 i
    have ih' := ih (i + 1) m u1 (aServe t) (by omega) (by omega) r1 o1
    rw [lpS]
    generalize lpF (fX6_goesAs_F2 n uK uS j) m = kk at *
    unfold fX6_goesAs_F2 fX6_goesAs_b50
    simp only [e1, Option.bind_some, nI_clamp (show i < 2 ^ 31 by omega), h1, h2 i (by omega), nx, lg_eq, r1.2.2.2.2.2.1, show (-1 : Int64) = (-1 : Int32).toInt64 from rfl, eq64]
    rw [if_neg (show ¬ nI L ≤ nI i from nI_ge (by omega) (by omega)), if_neg (nI_ok2 (show i < 40 by omega) (by decide)), if_neg (nI_ok2 (show i < 40 by omega) (by decide)), aGo_s]
    by_cases a0 : f i = -1
    · rw [if_pos a0, if_pos a0]
      exact ih'
    · rw [if_neg a0, if_neg a0]
      by_cases a1 : f i = nI (tO (aServe t))
      · rw [if_pos a1, if_pos a1]
        exact ih'
      · rw [if_neg a1, if_neg a1]
        exact ⟨_, rfl⟩
theorem m_goL {n : Nat} (hn : 300 ≤ n) {uM : MO} {sz nu a : Nat → Int32} {j L : Nat} (hj : j < 4) (hL : L ≤ 40) (h1 : sz j = nI L) : ∀ (k i m : Nat) (s : Nat → Int32) (t : TA), i + k = L → k + 1 < m → RM s t → OkT t → ∃ s' : Nat → Int32, lpF (fX7_isTold_F15 n uM sz nu (nI j)) m (s, a, 1, nI i) = some ((if aGo (fun k => nu (40 * j + k)) k i t then 1 else 0), s', a) ∧ ∀ q, q < 48 → s' q = a q := by
  intro k
  induction k with
  | zero =>
    intro i m s t hi hm hR hO
    obtain ⟨m, rfl⟩ : ∃ x, m = x + 1 := ⟨m - 1, by omega⟩
    obtain ⟨s2, e2, r2⟩ := m_copy hn a s
    rw [lpS]
    unfold fX7_isTold_F15 fX7_isTold_b80
    rw [if_neg (nI_ok hj (by decide)), nI_clamp (by omega), h1, if_pos (nI_le (by omega) (by omega))]
    simp only [e2, Option.bind_some]
    exact ⟨s2, rfl, r2⟩
  | succ k ih =>
    intro i m s t hi hm hR hO
    obtain ⟨m, rfl⟩ : ∃ x, m = x + 1 + 1 := ⟨m - 2, by omega⟩
    obtain ⟨s1, e1, r1⟩ := m_serve (uM := uM) hn hR hO
    have o1 := ok_serve hO
    have nx : nI i + (1 : Int32) = nI (i + 1) := nI_1 i
    have ix : ((40 : Int32) * nI j) + nI i = nI (40 * j + i) := by rw [show (40 : Int32) = nI 40 from rfl, pk_mul, nI_add]
    have ih' := ih (i + 1) (m + 1) s1 (aServe t) (by omega) (by omega) r1 o1
    rw [lpS]
    generalize hkk : lpF (fX7_isTold_F15 n uM sz nu (nI j)) (m + 1) = kk at *
    have bad : ∃ s' : Nat → Int32, kk (s1, a, 0, nI (i + 1)) = some (0, s', a) ∧ ∀ q, q < 48 → s' q = a q := by
      obtain ⟨s2, e2, r2⟩ := m_copy hn a s1
      rw [← hkk, lpS]
      generalize lpF (fX7_isTold_F15 n uM sz nu (nI j)) m = kk2
      unfold fX7_isTold_F15 fX7_isTold_b80
      rw [if_neg (nI_ok hj (by decide))]
      simp only [e2, Option.bind_some, if_true]
      split
      · exact ⟨s2, rfl, r2⟩
      · exact ⟨s2, rfl, r2⟩
    unfold fX7_isTold_F15 fX7_isTold_b68 fX7_isTold_b73
    simp only [e1, Option.bind_some, ix, nI_clamp (show 40 * j + i < 2 ^ 31 by omega), nI_clamp (show j < 2 ^ 31 by omega), h1, nx, c3, r1.2.2.2.1, if_neg i10]
    rw [if_neg (nI_ok2 hj (by decide)), if_neg (show ¬ nI L ≤ nI i from nI_ge (by omega) (by omega)), if_neg (nI_ok2 (show 40 * j + i < 160 by omega) (by decide)), if_neg (nI_ok2 (show 40 * j + i < 160 by omega) (by decide)), aGo_s]
    by_cases a0 : nu (40 * j + i) = -1
    · rw [if_pos a0, if_pos a0]
      exact ih'
    · rw [if_neg a0, if_neg a0]
      by_cases a1 : nu (40 * j + i) = nI (tO (aServe t))
      · rw [if_pos a1, if_pos a1]
        exact ih'
      · rw [if_neg a1, if_neg a1]
        exact bad
