/-! PURE, 3: arguments, copies, courses in number -/
theorem lg_lt (a b : Int64) : (lg_cmp a b < 0) = (a < b) := by
  unfold lg_cmp
  by_cases h : a > b
  · rw [if_pos h]
    exact propext ⟨fun z => absurd z (by decide), fun z => absurd (Int64.lt_trans z h) Int64.lt_irrefl⟩
  · rw [if_neg h]
    by_cases e : a = b
    · rw [if_pos e]
      exact propext ⟨fun z => absurd z (by decide), fun z => absurd (e ▸ z) Int64.lt_irrefl⟩
    · rw [if_neg e]
      exact propext ⟨fun _ => Int64.lt_of_le_of_ne (Int64.not_lt.mp h) e, fun _ => by decide⟩
theorem lg_gt (a b : Int64) : (0 < lg_cmp a b) = (b < a) := by
  unfold lg_cmp
  by_cases h : a > b
  · rw [if_pos h]
    exact propext ⟨fun _ => h, fun _ => by decide⟩
  · rw [if_neg h]
    by_cases e : a = b
    · rw [if_pos e]
      exact propext ⟨fun z => absurd z (by decide), fun z => absurd z h⟩
    · rw [if_neg e]
      exact propext ⟨fun z => absurd z (by decide), fun z => absurd z h⟩
theorem l_of (x : Int32) {b : Nat} (hb : b < 2 ^ 31) : (x.toInt64 < lN b) = (x < nI b) ∧ (lN b < x.toInt64) = (nI b < x) := by
  have e1 : x.toInt64.toInt = x.toInt := Int32.toInt_toInt64 x
  have e2 : (lN b).toInt = (b : Int) := lN_toInt hb
  have e3 : (nI b).toInt = (b : Int) := nI_toInt hb
  constructor
  · rw [Int64.lt_iff_toInt_lt, Int32.lt_iff_toInt_lt, e1, e2, e3]
  · rw [Int64.lt_iff_toInt_lt, Int32.lt_iff_toInt_lt, e1, e2, e3]
/-- whether a number is out of range -/
def out (x : Int32) (lo hi : Nat) : Prop := x < nI lo ∨ nI hi < x
theorem out_or (x : Int32) {lo hi : Nat} (hl : lo < 2 ^ 31) (h : hi < 2 ^ 31) : out x lo hi ∨ ∃ m, lo ≤ m ∧ m ≤ hi ∧ x = nI m := by
  by_cases h0 : x < 0
  · exact Or.inl (Or.inl (Int32.lt_of_lt_of_le h0 (nI_pos' hl)))
  · obtain ⟨j, hj, rfl⟩ := nI_of h0
    by_cases h1 : j < lo
    · exact Or.inl (Or.inl (nI_lt h1 hl))
    · by_cases h2 : hi < j
      · exact Or.inl (Or.inr (nI_lt h2 hj))
      · exact Or.inr ⟨j, by omega, by omega, rfl⟩
theorem not_out {m lo hi : Nat} (h1 : lo ≤ m) (h2 : m ≤ hi) (h : hi < 2 ^ 31) : ¬ out (nI m) lo hi := by
  rintro (z | z)
  · exact nI_nlt h1 (by omega) z
  · exact nI_nlt h2 h z
theorem k_in1 {n m lo hi : Nat} (h1 : lo ≤ m) (h2 : m ≤ hi) (h : hi < 2 ^ 31) : fX6_within n (nI m) (nI lo) (nI hi) = some 1 := by
  unfold fX6_within
  rw [if_neg (nI_nlt h1 (by omega)), if_neg (nI_nlt h2 h)]
theorem k_in0 {n lo hi : Nat} {x : Int32} (h : out x lo hi) : fX6_within n x (nI lo) (nI hi) = some 0 := by
  unfold fX6_within
  by_cases q : x < nI lo
  · rw [if_pos q]
  · rw [if_neg q, if_pos (h.resolve_left q)]
theorem m_in1 {n m lo hi : Nat} (h1 : lo ≤ m) (h2 : m ≤ hi) (h : hi < 2 ^ 31) : fX7_isIn n (nI m).toInt64 (lN lo) (lN hi) = some 1 := by
  unfold fX7_isIn
  rw [if_neg (by rw [lg_lt, (l_of (nI m) (b := lo) (by omega)).1]; exact nI_nlt h1 (by omega)), if_neg (by rw [lg_gt, (l_of (nI m) h).2]; exact nI_nlt h2 h)]
theorem m_in0 {n lo hi : Nat} {x : Int32} (hl : lo < 2 ^ 31) (hh : hi < 2 ^ 31) (h : out x lo hi) : fX7_isIn n x.toInt64 (lN lo) (lN hi) = some 0 := by
  unfold fX7_isIn
  by_cases q : x < nI lo
  · rw [if_pos (by rw [lg_lt, (l_of x hl).1]; exact q)]
  · rw [if_neg (by rw [lg_lt, (l_of x hl).1]; exact q), if_pos (by rw [lg_gt, (l_of x hh).2]; exact h.resolve_left q)]
/-- there is no such one -/
def noOne (x : Int32) (c : Nat) : Prop := x < 0 ∨ nI c ≤ x
theorem one_or (x : Int32) {c : Nat} (hc : c ≤ 8) : noOne x c ∨ ∃ g, g < c ∧ x = nI g := by
  rcases pk_ix x (n := c) (by omega) with h | h | h
  · exact Or.inl (Or.inl h)
  · exact Or.inl (Or.inr h)
  · exact Or.inr h
theorem lt_of_le_pred {x : Int32} {c : Nat} (hc : c ≤ 8) (h0 : ¬ x < 0) (h : nI c ≤ x) : nI c - (1 : Int32) < x := by
  obtain ⟨j, hj, rfl⟩ := nI_of h0
  have hcj : c ≤ j := (nI_leI (by omega) hj).mp h
  cases c with
  | zero => exact Int32.lt_of_lt_of_le (show nI 0 - (1 : Int32) < 0 by decide) (nI_pos' hj)
  | succ c =>
    rw [show nI (c + 1) - (1 : Int32) = nI c from nI_pred c]
    exact nI_lt (by omega) hj
theorem k_has1 {n : Nat} {u : TB} {t : TA} (hR : RK u t) (hO : OkT t) {g : Nat} (hg : g < tN t) : fX4_has n u (nI g) = some 1 := by
  have hN := hO.1
  unfold fX4_has
  rw [hR.2.2.2.1, show nI (tN t) - (1 : Int32) = nI (tN t - 1) by rw [show tN t = (tN t - 1) + 1 by omega]; exact nI_pred _, show (0 : Int32) = nI 0 from rfl, k_in1 (by omega) (by omega) (by omega)]
  rfl
theorem k_has0 {n : Nat} {u : TB} {t : TA} (hR : RK u t) (hO : OkT t) {x : Int32} (h : noOne x (tN t)) : fX4_has n u x = some 0 := by
  unfold fX4_has fX6_within
  rw [hR.2.2.2.1]
  by_cases q : x < 0
  · rw [if_pos q]; rfl
  · rw [if_neg q, if_pos (lt_of_le_pred hO.1 q (h.resolve_left q))]; rfl
theorem m_one1 {n : Nat} {uM : MO} {s : Nat → Int32} {t : TA} (hR : RM s t) (hO : OkT t) {g : Nat} (hg : g < tN t) : fX7_isOne n uM s (nI g) = some 1 := by
  have hN := hO.1
  unfold fX7_isOne
  rw [c0, hR.1, if_neg (nI_pos (by omega)), if_neg (nI_ge hg (by omega))]
theorem m_one0 {n : Nat} {uM : MO} {s : Nat → Int32} {t : TA} (hR : RM s t) {x : Int32} (h : noOne x (tN t)) : fX7_isOne n uM s x = some 0 := by
  unfold fX7_isOne
  rw [c0, hR.1]
  by_cases q : x < 0
  · rw [if_pos q]
  · rw [if_neg q, if_pos (h.resolve_left q)]
-- copies
theorem k_copy (n : Nat) (uT uO : TB) : ∃ u' : TB, fX4_copyFrom n uT uO = some u' ∧ ∀ t : TA, tN t ≤ 8 → RK uO t → RK u' t := by
  refine ⟨_, rfl, fun t hN h => ⟨fun i hi => ?_, fun g hg => ?_, h.2.2⟩⟩
  · exact (pk_cpy_in (by omega) (show i < 0 + 4 by omega)).trans ((congrArg uO.1 (show 0 + (i - 0) = i by omega)).trans (h.1 i hi))
  · obtain ⟨a, b, c, d⟩ := h.2.1 g hg
    have e : ∀ f f' : Nat → Int32, va_cpy f f' (0 : Int32).toNatClampNeg (0 : Int32).toNatClampNeg (8 : Int32).toNatClampNeg g = f g := fun f f' => (pk_cpy_in (by omega) (show g < 0 + 8 by omega)).trans (congrArg f (show 0 + (g - 0) = g by omega))
    exact ⟨(e _ _).trans a, (e _ _).trans b, (e _ _).trans c, (e _ _).trans d⟩
theorem m_copyL {n : Nat} (p : Nat → Int32) : ∀ (k i m : Nat) (q : Nat → Int32), i + k = 48 → k < m → (∀ j, j < i → q j = p j) → ∃ q' : Nat → Int32, lpF (fX7_copyRow_F2 n p) m (q, nI i) = some q' ∧ ∀ j, j < 48 → q' j = p j := by
  intro k
  induction k with
  | zero =>
    intro i m q hi hm hq
    obtain ⟨m, rfl⟩ : ∃ x, m = x + 1 := ⟨m - 1, by omega⟩
    have e : i = 48 := by omega
    subst e
    exact ⟨q, rfl, hq⟩
  | succ k ih =>
    intro i m q hi hm hq
    obtain ⟨m, rfl⟩ : ∃ x, m = x + 1 := ⟨m - 1, by omega⟩
    rw [lpS]
    unfold fX7_copyRow_F2
    have nx : nI i + (1 : Int32) = nI (i + 1) := nI_1 i
    simp only [nI_clamp (show i < 2 ^ 31 by omega), nx]
    have j1 : ¬ (nI i < 0 ∨ 48 ≤ i) := by
      rintro (z | z)
      · exact nI_pos (by omega) z
      · omega
    rw [if_neg (show ¬ (48 : Int32) ≤ nI i from nI_ge (b := 48) (by omega) (by decide)), if_neg j1, if_neg j1]
    refine ih (i + 1) m _ (by omega) (by omega) (fun j hj => ?_)
    by_cases e : j = i
    · subst e; exact pk_us
    · exact (pk_un e).trans (hq j (by omega))
theorem m_copy {n : Nat} (hn : 300 ≤ n) (p q : Nat → Int32) : ∃ q' : Nat → Int32, fX7_copyRow n p q = some q' ∧ ∀ j, j < 48 → q' j = p j := by
  unfold fX7_copyRow
  exact m_copyL p 48 0 n q (by omega) (by omega) (fun j hj => absurd hj (Nat.not_lt_zero j))
theorem RM_congr {s s' : Nat → Int32} {t : TA} (hN : tN t ≤ 8) (he : ∀ j, j < 48 → s' j = s j) (h : RM s t) : RM s' t := by
  obtain ⟨h0, h1, h2, h3, h4, h5⟩ := h
  refine ⟨(he _ (by omega)).trans h0, (he _ (by omega)).trans h1, (he _ (by omega)).trans h2, (he _ (by omega)).trans h3, fun i hi => (he _ (by omega)).trans (h4 i hi), fun g hg => ?_⟩
  obtain ⟨a, b, c, d, e⟩ := h5 g hg
  exact ⟨(he _ (by omega)).trans a, (he _ (by omega)).trans b, (he _ (by omega)).trans c, (he _ (by omega)).trans d, (he _ (by omega)).trans e⟩
-- courses in number
theorem k_toldL {n : Nat} (hn : 300 ≤ n) {N : Nat} (hN : N < 2 ^ 31) : ∀ (k i m : Nat) (u : TB) (t : TA), i + k = N → k < m → RK u t → OkT t → ∃ u' : TB, lpF (fX4_toldBehind_F2 n (nI N)) m (u, nI i) = some (nI (tO (aServes k t)), u') ∧ RK u' (aServes k t) := by
  intro k
  induction k with
  | zero =>
    intro i m u t hi hm hR hO
    obtain ⟨m, rfl⟩ : ∃ x, m = x + 1 := ⟨m - 1, by omega⟩
    refine ⟨u, ?_, hR⟩
    rw [lpS]
    unfold fX4_toldBehind_F2
    rw [if_pos (show nI N ≤ nI i from nI_le (by omega) (by omega)), hR.2.2.2.2.2.1]
    rfl
  | succ k ih =>
    intro i m u t hi hm hR hO
    obtain ⟨m, rfl⟩ : ∃ x, m = x + 1 := ⟨m - 1, by omega⟩
    obtain ⟨u1, e1, h1⟩ := k_serve hn hR hO
    have nx : nI i + (1 : Int32) = nI (i + 1) := nI_1 i
    rw [lpS]
    unfold fX4_toldBehind_F2
    simp only [e1, Option.bind_some, nx]
    rw [if_neg (show ¬ nI N ≤ nI i from nI_ge (by omega) hN)]
    exact ih (i + 1) m u1 (aServe t) (by omega) (by omega) h1 (ok_serve hO)
theorem k_told {n : Nat} (hn : 300 ≤ n) {u : TB} {t : TA} (hR : RK u t) (hO : OkT t) {k : Nat} (hk : k ≤ 200) : ∃ u' : TB, fX4_toldBehind n u (nI k) = some (nI (tO (aServes k t)), u') ∧ RK u' (aServes k t) := by
  unfold fX4_toldBehind
  exact k_toldL hn (by omega) k 0 n u t (by omega) (by omega) hR hO
theorem m_manyL {n : Nat} {uM : MO} (hn : 300 ≤ n) {N : Nat} (hN : N < 2 ^ 31) : ∀ (k i m : Nat) (s : Nat → Int32) (t : TA), i + k = N → k < m → RM s t → OkT t → ∃ s' : Nat → Int32, lpF (fX7_goesOnMany_F2 n uM (nI N)) m (s, nI i) = some s' ∧ RM s' (aServes k t) := by
  intro k
  induction k with
  | zero =>
    intro i m s t hi hm hR hO
    obtain ⟨m, rfl⟩ : ∃ x, m = x + 1 := ⟨m - 1, by omega⟩
    refine ⟨s, ?_, hR⟩
    rw [lpS]
    unfold fX7_goesOnMany_F2
    rw [if_pos (show nI N ≤ nI i from nI_le (by omega) (by omega))]
  | succ k ih =>
    intro i m s t hi hm hR hO
    obtain ⟨m, rfl⟩ : ∃ x, m = x + 1 := ⟨m - 1, by omega⟩
    obtain ⟨s1, e1, h1⟩ := m_serve (uM := uM) hn hR hO
    have nx : nI i + (1 : Int32) = nI (i + 1) := nI_1 i
    rw [lpS]
    unfold fX7_goesOnMany_F2
    simp only [e1, Option.bind_some, nx]
    rw [if_neg (show ¬ nI N ≤ nI i from nI_ge (by omega) hN)]
    exact ih (i + 1) m s1 (aServe t) (by omega) (by omega) h1 (ok_serve hO)
theorem m_many {n : Nat} {uM : MO} (hn : 300 ≤ n) {s : Nat → Int32} {t : TA} (hR : RM s t) (hO : OkT t) {k : Nat} (hk : k ≤ 200) : ∃ s' : Nat → Int32, fX7_goesOnMany n uM s (nI k) = some s' ∧ RM s' (aServes k t) := by
  unfold fX7_goesOnMany
  exact m_manyL hn (by omega) k 0 n s t (by omega) (by omega) hR hO
theorem m_tale {n : Nat} {uM : MO} (hn : 300 ≤ n) {s a : Nat → Int32} {t : TA} (hR : RM s t) (hO : OkT t) {k : Nat} (hk : k ≤ 200) : ∃ s' a' : Nat → Int32, fX7_taleBy n uM s a (nI k) = some (nI (tO (aServes k t)), s', a') ∧ ∀ j, j < 48 → s' j = s j := by
  obtain ⟨a1, e1, h1⟩ := m_copy hn s a
  obtain ⟨s1, e2, h2⟩ := m_many (uM := uM) hn hR hO hk
  obtain ⟨s2, e3, h3⟩ := m_copy hn a1 s1
  unfold fX7_taleBy
  simp only [e1, e2, e3, Option.bind_some, c3, h2.2.2.2.1]
  exact ⟨s2, a1, rfl, fun j hj => (h3 j hj).trans (h1 j hj)⟩
theorem k_tried {n : Nat} (hn : 300 ≤ n) (uK : Int32) {uN uY : TB} {t : TA} (hR : RK uN t) (hO : OkT t) {k : Nat} (hk : k ≤ 200) : ∃ u' : TB, fX6_triedTale n uK uN uY (nI k) = some (nI (tO (aServes k t)), u') ∧ RK u' (aServes k t) := by
  obtain ⟨u1, e1, h1⟩ := k_copy n uY uN
  obtain ⟨u2, e2, h2⟩ := k_told hn (h1 t hO.1 hR) hO hk
  unfold fX6_triedTale
  simp only [e1, e2, Option.bind_some]
  exact ⟨u2, rfl, h2⟩
theorem serve_N (t : TA) : tN (aServe t) = tN t := tells_N _ _
theorem serves_N : ∀ (k : Nat) (t : TA), tN (aServes k t) = tN t := by
  intro k
  induction k with
  | zero => intro t; rfl
  | succ k ih => intro t; exact (ih (aServe t)).trans (serve_N t)
