/-! PURE, 17: odds, hope -/
/-- Euclid's steps end within k -/
def Zs : Nat → Nat → Nat → Prop
  | 0, _, b => b = 0
  | k + 1, a, b => b = 0 ∨ Zs k b (a % b)
def fbp : Nat → Nat × Nat
  | 0 => (1, 1)
  | k + 1 => ((fbp k).2, (fbp k).1 + (fbp k).2)
theorem mod_le_sub {a b : Nat} (h : b < a) : a % b ≤ a - b := by
  rw [Nat.mod_eq_sub_mod (Nat.le_of_lt h)]
  exact Nat.mod_le _ _
theorem Zs_fib : ∀ (k a b : Nat), b < a → (b < (fbp k).1 ∨ a < (fbp k).2) → Zs k a b := by
  intro k
  induction k with
  | zero =>
    intro a b hba h
    show b = 0
    have h' : b < 1 ∨ a < 1 := h
    omega
  | succ k ih =>
    intro a b hba h
    by_cases hb : b = 0
    · exact Or.inl hb
    · refine Or.inr (ih b (a % b) (Nat.mod_lt _ (by omega)) ?_)
      have h' : b < (fbp k).2 ∨ a < (fbp k).1 + (fbp k).2 := h
      have h3 := mod_le_sub hba
      by_cases q : b < (fbp k).2
      · exact Or.inr q
      · left; omega
theorem fb99 : 8 * 10 ^ 17 < (fbp 99).1 := by decide +kernel
theorem Zs_ok {a b : Nat} (hb : b ≤ 8 * 10 ^ 17) : Zs 100 a b := by
  by_cases h : b = 0
  · exact Or.inl h
  · have : a % b < b := Nat.mod_lt _ (by omega)
    exact Or.inr (Zs_fib 99 b (a % b) this (Or.inl (Nat.lt_of_lt_of_le this (Nat.le_trans hb (Nat.le_of_lt fb99)))))
theorem lz {b : Nat} (hb : b < 2 ^ 63) : (lN b = 0) = (b = 0) := propext (pk_lEQ (b := 0) hb (by decide))
theorem k_gcdL {n : Nat} {x0 x2 : Int64} : ∀ (k i m a b : Nat), i + k ≤ 100 → k < m → a < 2 ^ 63 → b < 2 ^ 63 → Zs k a b → lpF (fX6_commonDivisor_F9 n x0 x2) m (lN a, lN b, nI i) = some (lN (Nat.gcd a b)) := by
  intro k
  induction k with
  | zero =>
    intro i m a b hi hm ha hb hz
    obtain ⟨m, rfl⟩ : ∃ x, m = x + 1 := ⟨m - 1, by omega⟩
    have hz' : b = 0 := hz
    subst hz'
    rw [lpS]
    unfold fX6_commonDivisor_F9
    rw [Nat.gcd_zero_right]
    simp only [lg_eq, lz hb, if_true, ite_self]
  | succ k ih =>
    intro i m a b hi hm ha hb hz
    obtain ⟨m, rfl⟩ : ∃ x, m = x + 1 := ⟨m - 1, by omega⟩
    rw [lpS]
    generalize hkk : lpF (fX6_commonDivisor_F9 n x0 x2) m = kk
    unfold fX6_commonDivisor_F9
    by_cases h0 : b = 0
    · subst h0
      rw [Nat.gcd_zero_right]
      simp only [lg_eq, lz hb, if_true, ite_self]
    · have hr : a % b < b := Nat.mod_lt _ (by omega)
      simp only [lg_eq, lz hb, if_neg h0, pk_lRem ha (by omega) hb, show nI i + (1 : Int32) = nI (i + 1) from nI_1 i]
      rw [if_neg (show ¬ (100 : Int32) ≤ nI i from nI_ge (b := 100) (by omega) (by decide)), ← hkk, ih (i + 1) m b (a % b) (by omega) (by omega) hb (by omega) (hz.resolve_left h0), Nat.gcd_comm b (a % b), ← Nat.gcd_rec, Nat.gcd_comm b a]
theorem m_gcdL {n : Nat} {x0 x2 : Int64} {x4 : Int32} : ∀ (k m a b : Nat), k < m → a < 2 ^ 63 → b < 2 ^ 63 → Zs k a b → 0 < Nat.gcd a b → lpF (fX7_partOf_F6 n x0 x2 x4) m (lN a, lN b) = some ((if x4 = 0 then x0 else x2) / lN (Nat.gcd a b)) := by
  have fin : ∀ (a : Nat) (kk : (Int64 × Int64) → Option Int64), a < 2 ^ 63 → 0 < a → fX7_partOf_F6 n x0 x2 x4 kk (lN a, lN 0) = some ((if x4 = 0 then x0 else x2) / lN a) := by
    intro a kk ha h
    unfold fX7_partOf_F6
    simp only [lg_eq, lz (b := 0) (by decide), if_true, lz ha, if_neg (show ¬ a = 0 by omega)]
    split <;> rfl
  intro k
  induction k with
  | zero =>
    intro m a b hm ha hb hz hg
    obtain ⟨m, rfl⟩ : ∃ x, m = x + 1 := ⟨m - 1, by omega⟩
    have hz' : b = 0 := hz
    subst hz'
    rw [Nat.gcd_zero_right] at hg ⊢
    rw [lpS]
    exact fin _ _ ha hg
  | succ k ih =>
    intro m a b hm ha hb hz hg
    obtain ⟨m, rfl⟩ : ∃ x, m = x + 1 := ⟨m - 1, by omega⟩
    by_cases h0 : b = 0
    · subst h0
      rw [Nat.gcd_zero_right] at hg ⊢
      rw [lpS]
      exact fin _ _ ha hg
    · have hr : a % b < b := Nat.mod_lt _ (by omega)
      have hg2 : Nat.gcd a b = Nat.gcd b (a % b) := by rw [Nat.gcd_comm a b, Nat.gcd_comm b (a % b), ← Nat.gcd_rec]
      rw [lpS]
      generalize hkk : lpF (fX7_partOf_F6 n x0 x2 x4) m = kk
      unfold fX7_partOf_F6
      simp only [lg_eq, lz hb, if_neg h0, pk_lRem ha (by omega) hb]
      rw [← hkk, ih m b (a % b) (by omega) hb (by omega) (hz.resolve_left h0) (hg2 ▸ hg), hg2]
theorem part_or {n : Nat} (hn : 300 ≤ n) {a b : Nat} (ha : a ≤ 8 * 10 ^ 17) (hb : b ≤ 8 * 10 ^ 17) (h0 : 0 < b) (x4 : Int32) : ∃ A : Int64, fX6_partOf n (lN a) (lN b) x4 = some A ∧ fX7_partOf n (lN a) (lN b) x4 = some A := by
  have hg : 0 < Nat.gcd a b := Nat.gcd_pos_of_pos_right a h0
  have hgl : Nat.gcd a b < 2 ^ 63 := by have := Nat.gcd_le_right a h0; omega
  refine ⟨(if x4 = 0 then lN a else lN b) / lN (Nat.gcd a b), ?_, ?_⟩
  · unfold fX6_partOf fX6_commonDivisor
    rw [show lpF (fX6_commonDivisor_F9 n (lN a) (lN b)) n (lN a, lN b, 0) = _ from k_gcdL 100 0 n a b (by omega) (by omega) (by omega) (by omega) (Zs_ok hb)]
    simp only [Option.bind_some, lg_eq, lz hgl, if_neg (show ¬ Nat.gcd a b = 0 by omega)]
    split <;> rfl
  · unfold fX7_partOf
    rw [m_gcdL 100 n b a (by omega) (by omega) (by omega) (Zs_ok ha) (by rw [Nat.gcd_comm]; exact hg), Nat.gcd_comm b a]
theorem p_hope {n : Nat} (hn : 300 ≤ n) {uK : Int32} {uN : TB} {uM : MO} {s : Nat → Int32} (h : RelT uN s) (x1 x2 : Int32) : ∃ A : Int64, fX6_hope n uK uN x1 x2 = some A ∧ fX7_hope n uM s x1 x2 = some A := by
  obtain ⟨t, hK, hM, hO⟩ := h
  unfold fX6_hope fX7_hope
  rw [show fX7_isIn n x1.toInt64 0 99 = fX6_within n x1 0 99 from isIn_eq x1 0 99, show fX7_isIn n x2.toInt64 0 1 = fX6_within n x2 0 1 from isIn_eq x2 0 1]
  rcases out_or x1 (lo := 0) (hi := 99) (by decide) (by decide) with h1 | ⟨j, -, hj, rfl⟩
  · rw [show fX6_within n x1 0 99 = some 0 from k_in0 (lo := 0) (hi := 99) h1]
    exact ⟨_, rfl, rfl⟩
  rw [show fX6_within n (nI j) 0 99 = some 1 from k_in1 (lo := 0) (hi := 99) (by omega) hj (by decide)]
  rcases out_or x2 (lo := 0) (hi := 1) (by decide) (by decide) with h1 | ⟨w, -, hw, rfl⟩
  · rw [show fX6_within n x2 0 1 = some 0 from k_in0 (lo := 0) (hi := 1) h1]
    exact ⟨_, rfl, rfl⟩
  rw [show fX6_within n (nI w) 0 1 = some 1 from k_in1 (lo := 0) (hi := 1) (by omega) hw (by decide)]
  have hl := hO.2.1.2.2.2
  have hp : j * tL t 3 ≤ 99 * 99 := Nat.mul_le_mul hj hl
  obtain ⟨A, e1, e2⟩ := part_or hn (a := j * tL t 3) (b := 100) (by omega) (by decide) (by decide) (nI w)
  have eK : uN.1 (3 : Int32).toNatClampNeg = nI (tL t 3) := hK.1 3 (by decide)
  have eM : s (7 : Int32).toNatClampNeg = nI (tL t 3) := hM.2.2.2.2.1 3 (by decide)
  simp only [Option.bind_some, if_neg i10, eK, eM, nI_l (show j < 2 ^ 31 by omega), nI_l (show tL t 3 < 2 ^ 31 by omega), lN_mul, show (100 : Int64) = lN 100 from rfl, e1, e2]
  exact ⟨_, rfl, rfl⟩
def wys (N : Nat) : Nat → Nat
  | 0 => 1
  | i + 1 => wys N i * (N - i) / (i + 1)
def fct : Nat → Nat
  | 0 => 1
  | i + 1 => fct i * (i + 1)
theorem ways_ok : ∀ N, N < 9 → ∀ k, k < N + 1 → wys N k = fct N / fct k / fct (N - k) ∧ wys N k ≤ 70 := by decide +kernel
theorem fct_b : ∀ N, N < 9 → 0 < fct N ∧ fct N ≤ 40320 := by decide +kernel
theorem wys_b : ∀ N, N < 9 → ∀ k, k < N + 1 → wys N k ≤ 70 := fun N h k hk => (ways_ok N h k hk).2
theorem k_waysL {n N K : Nat} (hN : N < 9) (hK : K ≤ N) : ∀ (k i m : Nat), i + k = K → k < m → lpF (fX6_waysToChoose_F5 n (nI N) (nI K)) m (lN (wys N i), nI i) = some (lN (wys N K)) := by
  intro k
  induction k with
  | zero =>
    intro i m hi hm
    obtain ⟨m, rfl⟩ : ∃ x, m = x + 1 := ⟨m - 1, by omega⟩
    have : i = K := by omega
    subst this
    rw [lpS]
    unfold fX6_waysToChoose_F5
    rw [if_pos (nI_le (by omega) (by omega))]
  | succ k ih =>
    intro i m hi hm
    obtain ⟨m, rfl⟩ : ∃ x, m = x + 1 := ⟨m - 1, by omega⟩
    rw [lpS]
    generalize hkk : lpF (fX6_waysToChoose_F5 n (nI N) (nI K)) m = kk
    unfold fX6_waysToChoose_F5
    have hw := wys_b N hN i (by omega)
    have hw2 : wys N i * (N - i) ≤ 70 * 9 := Nat.mul_le_mul hw (by omega)
    simp only [show nI i + (1 : Int32) = nI (i + 1) from nI_1 i, pk_sub (show i ≤ N by omega), nI_l (show N - i < 2 ^ 31 by omega), nI_l (show i + 1 < 2 ^ 31 by omega), lN_mul, lz (show i + 1 < 2 ^ 63 by omega), pk_lDiv (show wys N i * (N - i) < 2 ^ 63 by omega) (show 0 < i + 1 by omega) (show i + 1 < 2 ^ 63 by omega)]
    rw [if_neg (show ¬ nI K ≤ nI i from nI_ge (by omega) (by omega)), if_neg (by omega), ← hkk]
    exact ih (i + 1) m (by omega) (by omega)
theorem m_prodL {n N : Nat} (hN : N < 9) : ∀ (k i m : Nat), i + k = N → k < m → lpF (fX7_product_F4 n (nI N)) m (lN (fct i), nI (i + 1)) = some (lN (fct N)) := by
  intro k
  induction k with
  | zero =>
    intro i m hi hm
    obtain ⟨m, rfl⟩ : ∃ x, m = x + 1 := ⟨m - 1, by omega⟩
    have : i = N := by omega
    subst this
    rw [lpS]
    unfold fX7_product_F4
    rw [if_pos (nI_lt (by omega) (by omega))]
  | succ k ih =>
    intro i m hi hm
    obtain ⟨m, rfl⟩ : ∃ x, m = x + 1 := ⟨m - 1, by omega⟩
    rw [lpS]
    generalize hkk : lpF (fX7_product_F4 n (nI N)) m = kk
    unfold fX7_product_F4
    simp only [show nI (i + 1) + (1 : Int32) = nI (i + 1 + 1) from nI_1 (i + 1), nI_l (show i + 1 < 2 ^ 31 by omega), lN_mul]
    rw [if_neg (show ¬ nI N < nI (i + 1) from nI_nlt (by omega) (by omega)), ← hkk]
    exact ih (i + 1) m (by omega) (by omega)
theorem m_prod {n N : Nat} (hn : 300 ≤ n) (hN : N < 9) : fX7_product n (nI N) = some (lN (fct N)) := by
  unfold fX7_product
  by_cases h : N = 0
  · subst h
    obtain ⟨n, rfl⟩ : ∃ x, n = x + 1 := ⟨n - 1, by omega⟩
    rfl
  · exact m_prodL hN (N - 1) 1 n (by omega) (by omega)
/-- how often: K slips of N -/
def aOd (S K : Nat) : Nat → Nat
  | 0 => 1
  | i + 1 => aOd S K i * (if K ≤ i then 100 - S else S)
theorem aOd_b {S K : Nat} (hS : S ≤ 99) : ∀ i, aOd S K i ≤ 100 ^ i := by
  intro i
  induction i with
  | zero => exact Nat.le_refl _
  | succ i ih =>
    show aOd S K i * _ ≤ 100 ^ i * 100
    refine Nat.mul_le_mul ih ?_
    split <;> omega
theorem p100 : ∀ i, i < 9 → 100 ^ i ≤ 10 ^ 16 := by decide
theorem k_oddsL {n : Nat} (hn : 300 ≤ n) {uK : Int32} {uN : TB} {N K S : Nat} {x3 : Int32} (hN : N ≤ 8) (hK : K ≤ N) (hS : S ≤ 99) (eS : uN.1 3 = nI S) : ∀ (k i m : Nat), i + k = N → k < m → lpF (fX6_odds_F41 n uK uN (nI N) (nI K) x3) m (lN (aOd S K i), lN (100 ^ i), nI i) = fX6_partOf n (lN (wys N K * aOd S K N)) (lN (100 ^ N)) x3 := by
  intro k
  induction k with
  | zero =>
    intro i m hi hm
    obtain ⟨m, rfl⟩ : ∃ x, m = x + 1 := ⟨m - 1, by omega⟩
    have : i = N := by omega
    subst this
    rw [lpS]
    unfold fX6_odds_F41 fX6_waysToChoose
    rw [if_pos (nI_le (by omega) (by omega)), show lpF (fX6_waysToChoose_F5 n (nI i) (nI K)) n (1, 0) = _ from k_waysL (by omega) hK K 0 n (by omega) (by omega)]
    simp only [Option.bind_some, lN_mul, Nat.mul_comm (aOd S K i)]
    cases fX6_partOf n (lN (wys i K * aOd S K i)) (lN (100 ^ i)) x3 <;> rfl
  | succ k ih =>
    intro i m hi hm
    obtain ⟨m, rfl⟩ : ∃ x, m = x + 1 := ⟨m - 1, by omega⟩
    rw [lpS]
    generalize hkk : lpF (fX6_odds_F41 n uK uN (nI N) (nI K) x3) m = kk
    unfold fX6_odds_F41 fX6_odds_b81
    simp only [c3, eS, show nI i + (1 : Int32) = nI (i + 1) from nI_1 i, show (100 : Int32) - nI S = nI (100 - S) from pk_sub (a := 100) (by omega), nI_l (show 100 - S < 2 ^ 31 by omega), nI_l (show S < 2 ^ 31 by omega), show (100 : Int64) = lN 100 from rfl, lN_mul]
    rw [if_neg (show ¬ nI N ≤ nI i from nI_ge (by omega) (by omega))]
    have ih' := ih (i + 1) m (by omega) (by omega)
    rw [hkk] at ih'
    by_cases q : K ≤ i
    · rw [if_pos (nI_le q (by omega)), ← ih', show aOd S K (i + 1) = aOd S K i * (if K ≤ i then 100 - S else S) from rfl, if_pos q]
      rfl
    · rw [if_neg (nI_ge (by omega) (by omega)), ← ih', show aOd S K (i + 1) = aOd S K i * (if K ≤ i then 100 - S else S) from rfl, if_neg q]
      rfl
theorem m_oddsL {n : Nat} {uM : MO} {s : Nat → Int32} {N K S C : Nat} {x3 : Int32} (hN : N ≤ 8) (hS : S ≤ 99) (hK : K ≤ N) (eS : s 7 = nI S) : ∀ (k i m : Nat), i + k = N → k < m → lpF (fX7_odds_F61 n uM s (nI N) (nI K) x3) m (lN (C * aOd S K i), lN (100 ^ i), nI i) = fX7_partOf n (lN (C * aOd S K N)) (lN (100 ^ N)) x3 := by
  intro k
  induction k with
  | zero =>
    intro i m hi hm
    obtain ⟨m, rfl⟩ : ∃ x, m = x + 1 := ⟨m - 1, by omega⟩
    have : i = N := by omega
    subst this
    rw [lpS]
    unfold fX7_odds_F61
    rw [if_pos (nI_le (by omega) (by omega))]
    simp only
    cases fX7_partOf n (lN (C * aOd S K i)) (lN (100 ^ i)) x3 <;> rfl
  | succ k ih =>
    intro i m hi hm
    obtain ⟨m, rfl⟩ : ∃ x, m = x + 1 := ⟨m - 1, by omega⟩
    rw [lpS]
    generalize hkk : lpF (fX7_odds_F61 n uM s (nI N) (nI K) x3) m = kk
    unfold fX7_odds_F61 fX7_odds_b97
    simp only [c7, eS, show nI i + (1 : Int32) = nI (i + 1) from nI_1 i, show (100 : Int32) - nI S = nI (100 - S) from pk_sub (a := 100) (by omega), nI_l (show 100 - S < 2 ^ 31 by omega), nI_l (show S < 2 ^ 31 by omega), show (100 : Int64) = lN 100 from rfl, lN_mul]
    rw [if_neg (show ¬ nI N ≤ nI i from nI_ge (by omega) (by omega))]
    have ih' := ih (i + 1) m (by omega) (by omega)
    rw [hkk] at ih'
    by_cases q : K ≤ i
    · rw [if_pos (nI_le q (by omega)), ← ih', show aOd S K (i + 1) = aOd S K i * (if K ≤ i then 100 - S else S) from rfl, if_pos q, Nat.mul_assoc]
      rfl
    · rw [if_neg (nI_ge (by omega) (by omega)), ← ih', show aOd S K (i + 1) = aOd S K i * (if K ≤ i then 100 - S else S) from rfl, if_neg q, Nat.mul_assoc]
      rfl
theorem p_odds {n : Nat} (hn : 300 ≤ n) {uK : Int32} {uN : TB} {uM : MO} {s : Nat → Int32} (h : RelT uN s) (x1 x2 x3 : Int32) : ∃ A : Int64, fX6_odds n uK uN x1 x2 x3 = some A ∧ fX7_odds n uM s x1 x2 x3 = some A := by
  obtain ⟨t, hK, hM, hO⟩ := h
  unfold fX6_odds fX7_odds
  rw [show fX7_isIn n x1.toInt64 0 8 = fX6_within n x1 0 8 from isIn_eq x1 0 8, show fX7_isIn n x2.toInt64 0 x1.toInt64 = fX6_within n x2 0 x1 from isIn_eq x2 0 x1, show fX7_isIn n x3.toInt64 0 1 = fX6_within n x3 0 1 from isIn_eq x3 0 1]
  rcases out_or x1 (lo := 0) (hi := 8) (by decide) (by decide) with h1 | ⟨N, -, hN, rfl⟩
  · rw [show fX6_within n x1 0 8 = some 0 from k_in0 (lo := 0) (hi := 8) h1]
    exact ⟨_, rfl, rfl⟩
  rw [show fX6_within n (nI N) 0 8 = some 1 from k_in1 (lo := 0) (hi := 8) (by omega) hN (by decide)]
  rcases out_or x2 (lo := 0) (hi := N) (by decide) (by omega) with h1 | ⟨K, -, hKN, rfl⟩
  · rw [show fX6_within n x2 0 (nI N) = some 0 from k_in0 (lo := 0) (hi := N) h1]
    exact ⟨_, rfl, rfl⟩
  rw [show fX6_within n (nI K) 0 (nI N) = some 1 from k_in1 (lo := 0) (hi := N) (by omega) hKN (by omega)]
  rcases out_or x3 (lo := 0) (hi := 1) (by decide) (by decide) with h1 | ⟨w, -, hw, rfl⟩
  · rw [show fX6_within n x3 0 1 = some 0 from k_in0 (lo := 0) (hi := 1) h1]
    exact ⟨_, rfl, rfl⟩
  rw [show fX6_within n (nI w) 0 1 = some 1 from k_in1 (lo := 0) (hi := 1) (by omega) hw (by decide)]
  have hl := hO.2.1.2.2.2
  have eK : uN.1 3 = nI (tL t 3) := hK.1 3 (by decide)
  have eM : s 7 = nI (tL t 3) := hM.2.2.2.2.1 3 (by decide)
  obtain ⟨fa, fb⟩ := fct_b N (by omega)
  obtain ⟨ga, gb⟩ := fct_b K (by omega)
  obtain ⟨ha, hb⟩ := fct_b (N - K) (by omega)
  obtain ⟨wa, wb⟩ := ways_ok N (by omega) K (by omega)
  have hq : fct N / fct K ≤ 40320 := Nat.le_trans (Nat.div_le_self _ _) fb
  have b1 := aOd_b (S := tL t 3) (K := K) hl N
  have b2 := p100 N (by omega)
  have b3 : wys N K * aOd (tL t 3) K N ≤ 70 * 10 ^ 16 := Nat.mul_le_mul wb (Nat.le_trans b1 b2)
  obtain ⟨A, e1, e2⟩ := part_or hn (a := wys N K * aOd (tL t 3) K N) (b := 100 ^ N) (by omega) (by omega) (Nat.pow_pos (by decide)) (nI w)
  simp only [Option.bind_some, if_neg i10, pk_sub hKN, m_prod hn (show N < 9 by omega), m_prod hn (show K < 9 by omega), m_prod hn (show N - K < 9 by omega), lz (show fct K < 2 ^ 63 by omega), lz (show fct (N - K) < 2 ^ 63 by omega), if_neg (show ¬ fct K = 0 by omega), if_neg (show ¬ fct (N - K) = 0 by omega), pk_lDiv (show fct N < 2 ^ 63 by omega) ga (show fct K < 2 ^ 63 by omega), pk_lDiv (show fct N / fct K < 2 ^ 63 by omega) ha (show fct (N - K) < 2 ^ 63 by omega), ← wa]
  have l1 := k_oddsL hn (uK := uK) (x3 := nI w) hN hKN hl eK N 0 n (by omega) (by omega)
  have l2 := m_oddsL (n := n) (uM := uM) (C := wys N K) (x3 := nI w) hN hl hKN eM N 0 n (by omega) (by omega)
  rw [e1] at l1
  rw [e2, show wys N K * aOd (tL t 3) K 0 = wys N K from Nat.mul_one _] at l2
  exact ⟨A, l1, l2⟩
