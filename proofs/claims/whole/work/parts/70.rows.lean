/-! PURE, 11: keep, again, rows -/
theorem lt64 (a b : Int32) : (a.toInt64 < b.toInt64) = (a < b) := by
  rw [Int64.lt_iff_toInt_lt, Int32.lt_iff_toInt_lt, Int32.toInt_toInt64, Int32.toInt_toInt64]
theorem isIn_eq {n : Nat} (x a b : Int32) : fX7_isIn n x.toInt64 a.toInt64 b.toInt64 = fX6_within n x a b := by
  unfold fX7_isIn fX6_within
  simp only [lg_lt, lg_gt, lt64]
theorem pred_lt {x : Int32} {c : Nat} (hc : c < 2 ^ 31) (h0 : ¬ x < 0) (h : nI c ≤ x) : nI c - (1 : Int32) < x := by
  obtain ⟨j, hj, rfl⟩ := nI_of h0
  have hcj : c ≤ j := (nI_leI hc hj).mp h
  cases c with
  | zero => exact Int32.lt_of_lt_of_le (show nI 0 - (1 : Int32) < 0 by decide) (nI_pos' hj)
  | succ c =>
    rw [show nI (c + 1) - (1 : Int32) = nI c from nI_pred c]
    exact nI_lt (by omega) hj
theorem w_one0 {n c : Nat} (hc : c < 2 ^ 31) {x : Int32} (h : noOne x c) : fX6_within n x 0 (nI c - 1) = some 0 := by
  unfold fX6_within
  by_cases q : x < 0
  · rw [if_pos q]
  · rw [if_neg q, if_pos (pred_lt hc q (h.resolve_left q))]
theorem w_one1 {n c g : Nat} (hc : c < 2 ^ 31) (hg : g < c) : fX6_within n (nI g) 0 (nI c - 1) = some 1 := by
  obtain ⟨c, rfl⟩ : ∃ x, c = x + 1 := ⟨c - 1, by omega⟩
  rw [show nI (c + 1) - (1 : Int32) = nI c from nI_pred c]
  exact k_in1 (lo := 0) (by omega) (by omega) (by omega)
def moHeld (u : MO) (x : Int32) : MO := (x, u.2)
def moRow (u : MO) (x : Int32) : MO := (u.1, u.2.1, u.2.2.1, u.2.2.2.1, u.2.2.2.2.1, u.2.2.2.2.2.1, u.2.2.2.2.2.2.1, x, u.2.2.2.2.2.2.2.2)
def RelE (uK : Int32) (uE : TB) (h : Int32) (held : Nat → Int32) : Prop := h = uK ∧ (uK = 0 ∨ (uK = 1 ∧ RelT uE held))
theorem m_keepL {n : Nat} {uM : MO} (p : Nat → Int32) : ∀ (k i m : Nat) (q : Nat → Int32), i + k = 48 → k < m → (∀ j, j < i → q j = p j) → ∃ q' : Nat → Int32, lpF (fX7_keep_F2 n p) m (uM, q, nI i) = some (1, moHeld uM 1, q') ∧ ∀ j, j < 48 → q' j = p j := by
  intro k
  induction k with
  | zero =>
    intro i m q hi hm hq
    obtain ⟨m, rfl⟩ : ∃ x, m = x + 1 := ⟨m - 1, by omega⟩
    have e : i = 48 := by omega
    subst e
    exact ⟨q, rfl, hq⟩
  | succ k ih =>
    intro i m q hi hm hq
    obtain ⟨m, rfl⟩ : ∃ x, m = x + 1 := ⟨m - 1, by omega⟩
    rw [lpS]
    generalize hkk : lpF (fX7_keep_F2 n p) m = kk
    unfold fX7_keep_F2
    have nx : nI i + (1 : Int32) = nI (i + 1) := nI_1 i
    simp only [nI_clamp (show i < 2 ^ 31 by omega), nx]
    rw [if_neg (show ¬ (48 : Int32) ≤ nI i from nI_ge (b := 48) (by omega) (by decide)), if_neg (nI_ok2 (show i < 48 by omega) (by decide)), if_neg (nI_ok2 (show i < 48 by omega) (by decide)), ← hkk]
    refine ih (i + 1) m _ (by omega) (by omega) (fun j hj => ?_)
    by_cases e : j = i
    · subst e; exact pk_us
    · exact (pk_un e).trans (hq j (by omega))
theorem m_againL {n : Nat} {uM : MO} (p : Nat → Int32) : ∀ (k i m : Nat) (q : Nat → Int32), i + k = 48 → k < m → (∀ j, j < i → q j = p j) → ∃ q' : Nat → Int32, lpF (fX7_again_F12 n uM p) m (q, nI i) = some (q' 0, q') ∧ ∀ j, j < 48 → q' j = p j := by
  intro k
  induction k with
  | zero =>
    intro i m q hi hm hq
    obtain ⟨m, rfl⟩ : ∃ x, m = x + 1 := ⟨m - 1, by omega⟩
    have e : i = 48 := by omega
    subst e
    exact ⟨q, rfl, hq⟩
  | succ k ih =>
    intro i m q hi hm hq
    obtain ⟨m, rfl⟩ : ∃ x, m = x + 1 := ⟨m - 1, by omega⟩
    rw [lpS]
    generalize hkk : lpF (fX7_again_F12 n uM p) m = kk
    unfold fX7_again_F12
    have nx : nI i + (1 : Int32) = nI (i + 1) := nI_1 i
    simp only [nI_clamp (show i < 2 ^ 31 by omega), nx]
    rw [if_neg (show ¬ (48 : Int32) ≤ nI i from nI_ge (b := 48) (by omega) (by decide)), if_neg (nI_ok2 (show i < 48 by omega) (by decide)), if_neg (nI_ok2 (show i < 48 by omega) (by decide)), ← hkk]
    refine ih (i + 1) m _ (by omega) (by omega) (fun j hj => ?_)
    by_cases e : j = i
    · subst e; exact pk_us
    · exact (pk_un e).trans (hq j (by omega))
theorem p_keep {n : Nat} (hn : 300 ≤ n) {uK : Int32} {uN uE : TB} {uM : MO} {s held : Nat → Int32} (h : RelT uN s) : ∃ (E' : TB) (held' : Nat → Int32), fX6_keep n uK uN uE = some (1, 1, E') ∧ fX7_keep n uM s held = some (1, moHeld uM 1, held') ∧ RelT E' held' := by
  obtain ⟨t, hK, hM, hO⟩ := h
  obtain ⟨u1, e1, r1⟩ := k_copy n uE uN
  obtain ⟨q, e2, r2⟩ := m_keepL (n := n) (uM := uM) s 48 0 n held (by omega) (by omega) (fun j hj => absurd hj (Nat.not_lt_zero j))
  unfold fX6_keep fX7_keep
  rw [e1]
  exact ⟨u1, q, rfl, e2, t, r1 t hO.1 hK, RM_congr hO.1 r2 hM, hO⟩
theorem p_again {n : Nat} (hn : 300 ≤ n) {uK : Int32} {uN uE : TB} {uM : MO} {s held : Nat → Int32} (h : RelT uN s) (hE : RelE uK uE uM.1 held) : ∃ (A : Int32) (N' : TB) (s' : Nat → Int32), fX6_again n uK uN uE = some (A, N') ∧ fX7_again n uM s held = some (A, s') ∧ RelT N' s' := by
  obtain ⟨e, h0 | ⟨h1, t, hK, hM, hO⟩⟩ := hE
  · unfold fX6_again fX7_again
    rw [e, h0]
    exact ⟨_, _, _, rfl, rfl, h⟩
  · obtain ⟨u1, e1, r1⟩ := k_copy n uN uE
    obtain ⟨q, e2, r2⟩ := m_againL (n := n) (uM := uM) held 48 0 n s (by omega) (by omega) (fun j hj => absurd hj (Nat.not_lt_zero j))
    have r1' := r1 t hO.1 hK
    have r2' := RM_congr hO.1 r2 hM
    unfold fX6_again fX7_again
    rw [e, h1, if_neg i10, if_neg i10, e1]
    refine ⟨nI (tN t), u1, q, congrArg (fun z => some (z, u1)) r1'.2.2.2.1, ?_, t, r1', r2', hO⟩
    rw [← r2'.1]
    exact e2
-- rows
def RelW (uW : RW) (rn : Int32) (rows : Nat → Int32) : Prop := ∃ c : Nat, c ≤ 10 ∧ uW.2 = nI c ∧ rn = nI c ∧ ∀ j, j < 3 * c → uW.1 j = rows j
theorem row_or {n : Nat} {uW : RW} {uM : MO} {rows : Nat → Int32} (h : RelW uW uM.2.2.2.2.2.2.2.1 rows) (x1 x2 : Int32) : (fX0_has n uW x1 x2 = some 0 ∧ fX7_isRow n uM x1 x2 = some 0) ∨ ∃ i w : Nat, 3 * i + w < 30 ∧ uW.1 (3 * i + w) = rows (3 * i + w) ∧ w < 3 ∧ x1 = nI i ∧ x2 = nI w ∧ fX0_has n uW x1 x2 = some 1 ∧ fX7_isRow n uM x1 x2 = some 1 := by
  obtain ⟨c, hc, e1, e2, hr⟩ := h
  unfold fX0_has fX7_isRow
  rw [e1, e2, show (0 : Int64) = (0 : Int32).toInt64 from rfl, show (2 : Int64) = (2 : Int32).toInt64 from rfl, isIn_eq, isIn_eq]
  rcases pk_ix x1 (n := c) (by omega) with q | q | ⟨i, hi, rfl⟩
  · left
    rw [w_one0 (by omega) (Or.inl q)]
    exact ⟨rfl, rfl⟩
  · left
    rw [w_one0 (by omega) (Or.inr q)]
    exact ⟨rfl, rfl⟩
  · rw [w_one1 (by omega) hi]
    rcases out_or x2 (lo := 0) (hi := 2) (by decide) (by decide) with h2 | ⟨w, -, hw, rfl⟩
    · left
      rw [show fX6_within n x2 0 2 = some 0 from k_in0 (lo := 0) (hi := 2) h2]
      exact ⟨rfl, rfl⟩
    · right
      rw [show fX6_within n (nI w) 0 2 = some 1 from k_in1 (lo := 0) (hi := 2) (by omega) hw (by decide)]
      exact ⟨i, w, by omega, hr _ (by omega), by omega, rfl, rfl, rfl, rfl⟩
theorem ixR {i w : Nat} : (nI i * (3 : Int32)) + nI w = nI (3 * i + w) := by
  rw [show (3 : Int32) = nI 3 from rfl, pk_mul, nI_add, Nat.mul_comm]
theorem ixR' {i w : Nat} : ((3 : Int32) * nI i) + nI w = nI (3 * i + w) := by
  rw [show (3 : Int32) = nI 3 from rfl, pk_mul, nI_add]
theorem p_row {n : Nat} {uK : Int32} {uW : RW} {uM : MO} {rows : Nat → Int32} (h : RelW uW uM.2.2.2.2.2.2.2.1 rows) (x1 x2 : Int32) : ∃ A : Int32, fX6_row n uK uW x1 x2 = some A ∧ fX7_row n uM rows x1 x2 = some A := by
  unfold fX6_row fX7_row
  rcases row_or (n := n) h x1 x2 with ⟨e1, e2⟩ | ⟨i, w, h3, hr, hw, rfl, rfl, e1, e2⟩
  · rw [e1, e2]
    exact ⟨_, rfl, rfl⟩
  · rw [e1, e2]
    simp only [Option.bind_some, if_neg i10, ixR, ixR']
    rw [if_neg (nI_ok h3 (by decide)), if_neg (nI_ok h3 (by decide)), nI_clamp (by omega), hr]
    exact ⟨_, rfl, rfl⟩
theorem p_alterRow {n : Nat} {uK : Int32} {uW : RW} {uM : MO} {rows : Nat → Int32} (h : RelW uW uM.2.2.2.2.2.2.2.1 rows) (x1 x2 x3 : Int32) : ∃ (A : Int32) (W' : RW) (rows' : Nat → Int32), fX6_alterRow n uK uW x1 x2 x3 = some (A, W') ∧ fX7_alterRow n uM rows x1 x2 x3 = some (A, rows') ∧ RelW W' uM.2.2.2.2.2.2.2.1 rows' := by
  unfold fX6_alterRow fX7_alterRow
  rcases row_or (n := n) h x1 x2 with ⟨e1, e2⟩ | ⟨i, w, h3, hr, hw, rfl, rfl, e1, e2⟩
  · rw [e1, e2]
    exact ⟨_, _, _, rfl, rfl, h⟩
  · rw [e1, e2]
    simp only [Option.bind_some, if_neg i10, ixR, ixR']
    rw [if_neg (nI_ok h3 (by decide)), if_neg (nI_ok h3 (by decide)), if_neg (nI_ok h3 (by decide)), if_neg (nI_ok h3 (by decide)), nI_clamp (by omega), hr]
    obtain ⟨c, hc, q1, q2, q3⟩ := h
    refine ⟨_, _, _, rfl, rfl, c, hc, q1, q2, fun j hj => ?_⟩
    by_cases e : j = 3 * i + w
    · subst e
      exact pk_us.trans pk_us.symm
    · exact (pk_un e).trans ((q3 j hj).trans (pk_un e).symm)
/-- what ROW number j of one holds -/
def aRow (t : TA) (g j : Nat) : Nat := if j % 3 = 0 then tG (aServes (j / 3 + 1) t) g else if j % 3 = 1 then tT (aServes (j / 3 + 1) t) g else tO (aServes (j / 3 + 1) t)
theorem k_cells {n : Nat} {uK : Int32} {uN uY : TB} {t : TA} (hR : RK uY t) (hO : OkT t) {g i m : Nat} (hg : g < tN t) (hi : i < 10) {x2 : Int32} {uW : RW} (k36 : (TB × RW × Int32) → Option (Int32 × TB × RW)) : lpF (fX6_prove_F51 n uK uN (nI g) x2 k36) (m + 4) (uY, uW, nI i, 0) = k36 (uY, (upd (upd (upd uW.1 (3 * i) (nI (tG t g))) (3 * i + 1) (nI (tT t g))) (3 * i + 2) (nI (tO t)), uW.2), nI (i + 1)) := by
  have h8 : g < 8 := Nat.lt_of_lt_of_le hg hO.1
  obtain ⟨-, -, qg, qt⟩ := hR.2.1 g hg
  have t0 : fX6_triedCell n uK uY (nI g) 0 = some (nI (tG t g)) := by
    unfold fX6_triedCell
    rw [if_pos rfl, if_neg (nI_ok h8 (by decide)), nI_cl8 h8, qg]
  have t1 : fX6_triedCell n uK uY (nI g) (nI 1) = some (nI (tT t g)) := by
    unfold fX6_triedCell
    rw [if_neg (show ¬ nI 1 = (0 : Int32) by decide), if_pos (show nI 1 = (1 : Int32) from rfl), if_neg (nI_ok h8 (by decide)), nI_cl8 h8, qt]
  have t2 : fX6_triedCell n uK uY (nI g) (nI 2) = some (nI (tO t)) := by
    unfold fX6_triedCell
    rw [if_neg (show ¬ nI 2 = (0 : Int32) by decide), if_neg (show ¬ nI 2 = (1 : Int32) by decide), hR.2.2.2.2.2.1]
  have i0 : (nI i * (3 : Int32)) + (0 : Int32) = nI (3 * i + 0) := ixR (w := 0)
  have stp : ∀ (m w : Nat) (W : RW) (v : Int32), w < 3 → fX6_triedCell n uK uY (nI g) (nI w) = some v → lpF (fX6_prove_F51 n uK uN (nI g) x2 k36) (m + 1) (uY, W, nI i, nI w) = lpF (fX6_prove_F51 n uK uN (nI g) x2 k36) m (uY, (upd W.1 (3 * i + w) v, W.2), nI i, nI (w + 1)) := by
    intro m w W v hw hv
    rw [lpS]
    generalize lpF (fX6_prove_F51 n uK uN (nI g) x2 k36) m = kk
    unfold fX6_prove_F51
    simp only [hv, Option.bind_some, ixR, show nI w + (1 : Int32) = nI (w + 1) from nI_1 w]
    rw [if_neg (show ¬ (3 : Int32) ≤ nI w from nI_ge (b := 3) hw (by decide)), if_neg (nI_ok (show 3 * i + w < 30 by omega) (by decide)), nI_clamp (show 3 * i + w < 2 ^ 31 by omega)]
  rw [show lpF (fX6_prove_F51 n uK uN (nI g) x2 k36) (m + 4) (uY, uW, nI i, 0) = _ from stp (m + 3) 0 uW _ (by decide) t0, stp (m + 2) 1 _ _ (by decide) t1, stp (m + 1) 2 _ _ (by decide) t2, lpS]
  unfold fX6_prove_F51
  rw [if_pos (show (3 : Int32) ≤ nI (2 + 1) from nI_le (a := 3) (by decide) (by decide))]
  simp only [show nI i + (1 : Int32) = nI (i + 1) from nI_1 i]
  rfl
theorem aRow_s {t : TA} {g i : Nat} : nI (tG (aServes (i + 1) t) g) = nI (aRow t g (3 * i)) ∧ nI (tT (aServes (i + 1) t) g) = nI (aRow t g (3 * i + 1)) ∧ nI (tO (aServes (i + 1) t)) = nI (aRow t g (3 * i + 2)) := by
  unfold aRow
  refine ⟨?_, ?_, ?_⟩
  · rw [if_pos (by omega), show 3 * i / 3 = i by omega]
  · rw [if_neg (by omega), if_pos (by omega), show (3 * i + 1) / 3 = i by omega]
  · rw [if_neg (by omega), if_neg (by omega), show (3 * i + 2) / 3 = i by omega]
theorem upd3 {f : Nat → Int32} {r : Nat → Int32} {i : Nat} (h : ∀ j, j < 3 * i → f j = r j) : ∀ j, j < 3 * (i + 1) → upd (upd (upd f (3 * i) (r (3 * i))) (3 * i + 1) (r (3 * i + 1))) (3 * i + 2) (r (3 * i + 2)) j = r j := by
  intro j hj
  by_cases e2 : j = 3 * i + 2
  · subst e2; exact pk_us
  · rw [pk_un e2]
    by_cases e1 : j = 3 * i + 1
    · subst e1; exact pk_us
    · rw [pk_un e1]
      by_cases e0 : j = 3 * i
      · subst e0; exact pk_us
      · rw [pk_un e0]
        exact h j (by omega)
theorem k_proveL {n : Nat} (hn : 300 ≤ n) {uK : Int32} {uN : TB} {t : TA} (hO : OkT t) {g N : Nat} (hg : g < tN t) (hN : N ≤ 10) : ∀ (k i m : Nat) (uY : TB) (uW : RW), i + k = N → k < m → RK uY (aServes i t) → (∀ j, j < 3 * i → uW.1 j = nI (aRow t g j)) → ∃ (Y' : TB) (f : Nat → Int32), lpF (fX6_prove_F36 n uK uN (nI g) (nI N)) m (uY, uW, nI i) = some (nI N, Y', (f, nI N)) ∧ ∀ j, j < 3 * N → f j = nI (aRow t g j) := by
  intro k
  induction k with
  | zero =>
    intro i m uY uW hi hm hR hw
    obtain ⟨m, rfl⟩ : ∃ x, m = x + 1 := ⟨m - 1, by omega⟩
    rw [lpS]
    unfold fX6_prove_F36
    rw [if_pos (show nI N ≤ nI i from nI_le (by omega) (by omega))]
    exact ⟨_, _, rfl, fun j hj => hw j (by omega)⟩
  | succ k ih =>
    intro i m uY uW hi hm hR hw
    obtain ⟨m, rfl⟩ : ∃ x, m = x + 1 := ⟨m - 1, by omega⟩
    obtain ⟨u1, e1, r1⟩ := k_serve hn hR (ok_serves i hO)
    rw [← serves_succ] at r1
    have o1 := ok_serves (i + 1) hO
    have hg1 : g < tN (aServes (i + 1) t) := by rw [serves_N]; exact hg
    rw [lpS]
    generalize hkk : lpF (fX6_prove_F36 n uK uN (nI g) (nI N)) m = kk
    unfold fX6_prove_F36
    simp only [e1, Option.bind_some]
    rw [if_neg (show ¬ nI N ≤ nI i from nI_ge (by omega) (by omega))]
    obtain ⟨n', rfl⟩ : ∃ x, n = x + 4 := ⟨n - 4, by omega⟩
    rw [k_cells r1 o1 hg1 (by omega) kk, ← hkk]
    obtain ⟨a1, a2, a3⟩ := aRow_s (t := t) (g := g) (i := i)
    rw [a1, a2, a3]
    exact ih (i + 1) m u1 _ (by omega) (by omega) r1 (upd3 (r := fun j => nI (aRow t g j)) hw)
theorem m_proveL {n : Nat} (hn : 300 ≤ n) {t : TA} (hO : OkT t) {g N : Nat} (hg : g < tN t) (hN : N ≤ 10) {uM : MO} {a : Nat → Int32} : ∀ (k i m : Nat) (s rows : Nat → Int32), i + k = N → k < m → RM s (aServes i t) → (∀ j, j < 3 * i → rows j = nI (aRow t g j)) → ∃ (s' rows' : Nat → Int32), lpF (fX7_prove_F35 n (nI g) (nI N)) m (uM, s, a, rows, nI i) = some (nI N, moRow uM (nI N), s', a, rows') ∧ (∀ j, j < 3 * N → rows' j = nI (aRow t g j)) ∧ ∀ j, j < 48 → s' j = a j := by
  intro k
  induction k with
  | zero =>
    intro i m s rows hi hm hR hw
    obtain ⟨m, rfl⟩ : ∃ x, m = x + 1 := ⟨m - 1, by omega⟩
    obtain ⟨s1, e1, r1⟩ := m_copy hn a s
    rw [lpS]
    unfold fX7_prove_F35
    rw [if_pos (show nI N ≤ nI i from nI_le (by omega) (by omega))]
    simp only [e1, Option.bind_some]
    exact ⟨_, _, rfl, fun j hj => hw j (by omega), r1⟩
  | succ k ih =>
    intro i m s rows hi hm hR hw
    obtain ⟨m, rfl⟩ : ∃ x, m = x + 1 := ⟨m - 1, by omega⟩
    obtain ⟨s1, e1, r1⟩ := m_serve (uM := uM) hn hR (ok_serves i hO)
    rw [← serves_succ] at r1
    have o1 := ok_serves (i + 1) hO
    have hg1 : g < tN (aServes (i + 1) t) := by rw [serves_N]; exact hg
    have i0 : (3 : Int32) * nI i = nI (3 * i) := by rw [show (3 : Int32) = nI 3 from rfl, pk_mul]
    have i1 : nI (3 * i) + (1 : Int32) = nI (3 * i + 1) := nI_add _ 1
    have i2 : nI (3 * i) + (2 : Int32) = nI (3 * i + 2) := nI_add _ 2
    have nx : nI i + (1 : Int32) = nI (i + 1) := nI_1 i
    rw [lpS]
    generalize hkk : lpF (fX7_prove_F35 n (nI g) (nI N)) m = kk
    unfold fX7_prove_F35
    simp only [e1, m_its2 r1 o1 hg1, m_its3 r1 o1 hg1, Option.bind_some, i0, i1, i2, nx, c3, r1.2.2.2.1, nI_clamp (show 3 * i < 2 ^ 31 by omega), nI_clamp (show 3 * i + 1 < 2 ^ 31 by omega), nI_clamp (show 3 * i + 2 < 2 ^ 31 by omega)]
    rw [if_neg (show ¬ nI N ≤ nI i from nI_ge (by omega) (by omega)), if_neg (nI_ok2 (show 3 * i < 30 by omega) (by decide)), if_neg (nI_ok2 (show 3 * i + 1 < 30 by omega) (by decide)), if_neg (nI_ok2 (show 3 * i + 2 < 30 by omega) (by decide)), ← hkk]
    obtain ⟨a1, a2, a3⟩ := aRow_s (t := t) (g := g) (i := i)
    rw [a1, a2, a3]
    exact ih (i + 1) m s1 _ (by omega) (by omega) r1 (upd3 (r := fun j => nI (aRow t g j)) hw)
theorem p_prove {n : Nat} (hn : 300 ≤ n) {uK : Int32} {uN uY : TB} {uW : RW} {uM : MO} {s a rows : Nat → Int32} (h : RelT uN s) (hW : RelW uW uM.2.2.2.2.2.2.2.1 rows) (x1 x2 : Int32) : ∃ (A : Int32) (Y' : TB) (W' : RW) (M' : MO) (s' a' rows' : Nat → Int32), fX6_prove n uK uN uY uW x1 x2 = some (A, Y', W') ∧ fX7_prove n uM s a rows x1 x2 = some (A, M', s', a', rows') ∧ RelT uN s' ∧ (∃ r : Int32, M' = moRow uM r ∧ RelW W' r rows') := by
  obtain ⟨t, hK, hM, hO⟩ := h
  unfold fX6_prove fX7_prove
  have same : ∃ r : Int32, uM = moRow uM r ∧ RelW uW r rows := ⟨_, rfl, hW⟩
  rcases one_or x1 hO.1 with h1 | ⟨g, hg, rfl⟩
  · rw [k_has0 hK hO h1, m_one0 hM h1]
    exact ⟨_, _, _, _, _, _, _, rfl, rfl, ⟨t, hK, hM, hO⟩, same⟩
  rw [k_has1 hK hO hg, m_one1 hM hO hg]
  rcases out_or x2 (lo := 1) (hi := 10) (by decide) (by decide) with h2 | ⟨k, hk1, hk, rfl⟩
  · rw [show fX6_within n x2 1 10 = some 0 from k_in0 (lo := 1) (hi := 10) h2, show fX7_isIn n x2.toInt64 1 10 = some 0 from m_in0 (lo := 1) (hi := 10) (by decide) (by decide) h2]
    exact ⟨_, _, _, _, _, _, _, rfl, rfl, ⟨t, hK, hM, hO⟩, same⟩
  · rw [show fX6_within n (nI k) 1 10 = some 1 from k_in1 (lo := 1) (hi := 10) hk1 hk (by decide), show fX7_isIn n (nI k).toInt64 1 10 = some 1 from m_in1 (lo := 1) (hi := 10) hk1 hk (by decide)]
    obtain ⟨u1, e1, r1⟩ := k_copy n uY uN
    obtain ⟨a1, e2, r2⟩ := m_copy hn s a
    obtain ⟨Y', f, e3, r3⟩ := k_proveL hn (uK := uK) (uN := uN) hO hg hk k 0 n u1 uW (by omega) (by omega) (r1 t hO.1 hK) (fun j hj => absurd hj (by omega))
    obtain ⟨s', rows', e4, r4, c4⟩ := m_proveL hn (uM := uM) (a := a1) hO hg hk k 0 n s rows (by omega) (by omega) hM (fun j hj => absurd hj (by omega))
    simp only [Option.bind_some, if_neg i10, e1, e2]
    exact ⟨_, _, _, _, _, _, _, e3, e4, ⟨t, hK, RM_congr hO.1 (fun j hj => (c4 j hj).trans (r2 j hj)) hM, hO⟩, _, rfl, k, hk, rfl, rfl, fun j hj => (r3 j hj).trans (r4 j hj).symm⟩
