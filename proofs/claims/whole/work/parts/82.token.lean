/-! PURE, 23: what stands next on the tape -/
def srt (v : Nat) : Nat := if 97 ≤ v ∧ v ≤ 122 then 1 else if 48 ≤ v ∧ v ≤ 57 then 2 else 3
def sN (b : Nat → Nat) (L i : Nat) : Nat := if i < L then srt (b i) else 0
def skp (b : Nat → Nat) (L : Nat) : Nat → Nat → Nat
  | 0, i => i
  | k + 1, i => if b i = 32 then skp b L k (i + 1) else i
def scn (b : Nat → Nat) (L s : Nat) : Nat → Nat → Nat
  | 0, i => i
  | k + 1, i => if sN b L i = s then scn b L s k (i + 1) else i
def tP (b : Nat → Nat) (L f : Nat) : Nat := skp b L (L - f) f
def tS (b : Nat → Nat) (L f : Nat) : Nat := sN b L (tP b L f)
def tQ (b : Nat → Nat) (L f : Nat) : Nat := if tS b L f = 3 then tP b L f + 1 else if tS b L f = 0 then tP b L f else scn b L (tS b L f) (L - tP b L f) (tP b L f)
theorem srt_le (v : Nat) : 1 ≤ srt v ∧ srt v ≤ 3 := by
  unfold srt
  split
  · decide
  · split <;> decide
theorem sN_le (b : Nat → Nat) (L i : Nat) : sN b L i ≤ 3 := by
  unfold sN
  split
  · exact (srt_le _).2
  · decide
theorem skp_b {b : Nat → Nat} {L : Nat} : ∀ (k i : Nat), i ≤ skp b L k i ∧ skp b L k i ≤ i + k := by
  intro k
  induction k with
  | zero => intro i; exact ⟨Nat.le_refl _, Nat.le_refl _⟩
  | succ k ih =>
    intro i
    show i ≤ (if b i = 32 then skp b L k (i + 1) else i) ∧ (if b i = 32 then skp b L k (i + 1) else i) ≤ _
    split
    · have := ih (i + 1); omega
    · omega
theorem scn_b {b : Nat → Nat} {L s : Nat} : ∀ (k i : Nat), i ≤ scn b L s k i ∧ scn b L s k i ≤ i + k ∧ ∀ j, i ≤ j → j < scn b L s k i → sN b L j = s := by
  intro k
  induction k with
  | zero => intro i; exact ⟨Nat.le_refl _, Nat.le_refl _, fun j h1 h2 => by have h2' : j < i := h2; omega⟩
  | succ k ih =>
    intro i
    show i ≤ (if sN b L i = s then scn b L s k (i + 1) else i) ∧ (if sN b L i = s then scn b L s k (i + 1) else i) ≤ _ ∧ ∀ j, i ≤ j → j < (if sN b L i = s then scn b L s k (i + 1) else i) → _
    split
    · rename_i h
      obtain ⟨h1, h2, h3⟩ := ih (i + 1)
      refine ⟨by omega, by omega, fun j a c => ?_⟩
      by_cases e : j = i
      · rw [e, h]
      · exact h3 j (by omega) c
    · exact ⟨Nat.le_refl _, by omega, fun j a c => by omega⟩
theorem tP_b {b : Nat → Nat} {L f : Nat} (h : f ≤ L) : f ≤ tP b L f ∧ tP b L f ≤ L := by
  have := skp_b (b := b) (L := L) (L - f) f
  unfold tP
  omega
theorem tQ_b {b : Nat → Nat} {L f : Nat} (h : f ≤ L) : tP b L f ≤ tQ b L f ∧ tQ b L f ≤ L ∧ (tS b L f ≠ 0 → tP b L f < tQ b L f) := by
  obtain ⟨h1, h2⟩ := tP_b (b := b) h
  unfold tQ
  split
  · rename_i e
    have : tP b L f < L := by
      apply Classical.byContradiction
      intro q
      unfold tS sN at e
      rw [if_neg q] at e
      exact absurd e (by decide)
    omega
  · split
    · rename_i e; exact ⟨Nat.le_refl _, h2, fun z => absurd e z⟩
    · rename_i e3 e0
      obtain ⟨a, c, d⟩ := scn_b (b := b) (L := L) (s := tS b L f) (L - tP b L f) (tP b L f)
      refine ⟨a, by omega, fun _ => ?_⟩
      have hl : tP b L f < L := by
        apply Classical.byContradiction
        intro q
        apply e0
        unfold tS sN
        rw [if_neg q]
      obtain ⟨k, hk⟩ : ∃ k, L - tP b L f = k + 1 := ⟨L - tP b L f - 1, by omega⟩
      rw [hk]
      show _ < (if sN b L (tP b L f) = tS b L f then scn b L (tS b L f) k (tP b L f + 1) else tP b L f)
      rw [if_pos (show sN b L (tP b L f) = tS b L f from rfl)]
      have := (scn_b (b := b) (L := L) (s := tS b L f) k (tP b L f + 1)).1
      omega
-- bytes
theorem kS1 : ∀ v, v < 256 → (if sb v < (97 : Int32) then (if sb v < (48 : Int32) then some (3 : Int32) else if (57 : Int32) < sb v then some (3 : Int32) else some (2 : Int32)) else if (122 : Int32) < sb v then (if sb v < (48 : Int32) then some (3 : Int32) else if (57 : Int32) < sb v then some (3 : Int32) else some (2 : Int32)) else some (1 : Int32)) = some (nI (srt v)) := by decide +kernel
theorem sbLo : ∀ v, v < 128 → sb v = nI v := by decide +kernel
theorem sbHi : ∀ v, v < 256 → 128 ≤ v → sb v < 0 := by decide +kernel
theorem kEq {v c : Nat} (hv : v < 256) (hc : c < 128) : (sb v = nI c) = (v = c) := by
  by_cases q : v < 128
  · rw [sbLo v q]
    exact propext (nI_eq (by omega) (by omega))
  · refine propext ⟨fun z => ?_, fun z => by omega⟩
    have := sbHi v hv (by omega)
    rw [z] at this
    exact absurd this (nI_pos (n := c) (by omega))
theorem mEq {v c : Nat} (hv : v < 256) (hc : c < 256) : (nI v = nI c) = (v = c) := propext (nI_eq (by omega) (by omega))
theorem mA : ∀ v, v < 256 → fX7_isAlpha 0 (nI v) = some (if srt v = 1 then 1 else 0) := by decide +kernel
theorem mD : ∀ v, v < 256 → fX7_isDigit 0 (nI v) = some (if srt v = 2 then 1 else 0) := by decide +kernel
theorem sbD : ∀ v, v < 256 → srt v = 2 → 48 ≤ v ∧ v ≤ 57 ∧ sb v - (48 : Int32) = nI (v - 48) ∧ sb v = nI v := by decide +kernel
theorem k_sortAt {n : Nat} {uA : TP} {b : Nat → Nat} {tp : Nat → Int32} {L : Nat} (hB : HB uA.1 tp b L) (hL : uA.2.1 = nI L) {i : Nat} (hi : i ≤ 200) : fX5_sortAt n uA (nI i) = some (nI (sN b L i)) := by
  have hL2 := hB.1
  unfold fX5_sortAt fX5_sortAt_b34 sN
  rw [hL, nI_clamp (show i < 2 ^ 31 by omega)]
  by_cases q : i < L
  · obtain ⟨h1, h2, -⟩ := hB.2 i q
    rw [if_pos (nI_lt q (by omega)), if_pos q]
    simp only [if_neg (nI_ok2 (show i < 200 by omega) (by decide)), h2]
    exact kS1 (b i) h1
  · rw [if_neg (nI_nlt (by omega) (by omega)), if_neg q]
    rfl
theorem m_byteAt {n : Nat} {uM : MO} {by' : Nat → Int32} {b : Nat → Nat} {tp : Nat → Int32} {L : Nat} (hB : HB by' tp b L) (hL : uM.2.1 = nI L) {i : Nat} (hi : i ≤ 200) : fX7_byteAt n uM tp (nI i) = some (if i < L then nI (b i) else -1) := by
  have hL2 := hB.1
  unfold fX7_byteAt
  rw [hL, nI_clamp (show i < 2 ^ 31 by omega)]
  by_cases q : i < L
  · rw [if_neg (nI_ge q (by omega)), if_neg (nI_ok2 (show i < 200 by omega) (by decide)), if_pos q, (hB.2 i q).2.2]
  · rw [if_pos (nI_le (by omega) (by omega)), if_neg q]
theorem m_isAlpha {n : Nat} {by' : Nat → Int32} {b : Nat → Nat} {tp : Nat → Int32} {L : Nat} (hB : HB by' tp b L) (i : Nat) : fX7_isAlpha n (if i < L then nI (b i) else -1) = some (if sN b L i = 1 then 1 else 0) := by
  unfold sN
  by_cases q : i < L
  · rw [if_pos q, if_pos q]; exact mA _ (hB.2 i q).1
  · rw [if_neg q, if_neg q]; rfl
theorem m_isDigit {n : Nat} {by' : Nat → Int32} {b : Nat → Nat} {tp : Nat → Int32} {L : Nat} (hB : HB by' tp b L) (i : Nat) : fX7_isDigit n (if i < L then nI (b i) else -1) = some (if sN b L i = 2 then 1 else 0) := by
  unfold sN
  by_cases q : i < L
  · rw [if_pos q, if_pos q]; exact mD _ (hB.2 i q).1
  · rw [if_neg q, if_neg q]; rfl
-- the class's step
theorem k_scanL {n : Nat} {by' : Nat → Int32} {b : Nat → Nat} {tp : Nat → Int32} {L s : Nat} {pl num : Int32} (hB : HB by' tp b L) (hs : s ≤ 3) : ∀ (k i m : Nat), i + k = L → k < m → lpF (fX5_step_F94 n) m (by', nI L, pl, nI i, nI s, num) = some (by', nI L, pl, nI (scn b L s k i), nI s, num) := by
  have hL := hB.1
  intro k
  induction k with
  | zero =>
    intro i m hi hm
    obtain ⟨m, rfl⟩ : ∃ x, m = x + 1 := ⟨m - 1, by omega⟩
    rw [lpS]
    unfold fX5_step_F94
    rw [if_pos (nI_le (by omega) (by omega))]
    rfl
  | succ k ih =>
    intro i m hi hm
    obtain ⟨m, rfl⟩ : ∃ x, m = x + 1 := ⟨m - 1, by omega⟩
    have ih' := ih (i + 1) m (by omega) (by omega)
    have hs3 := sN_le b L i
    rw [lpS]
    generalize lpF (fX5_step_F94 n) m = kk at *
    unfold fX5_step_F94
    rw [if_neg (show ¬ nI L ≤ nI i from nI_ge (by omega) (by omega)), k_sortAt (uA := (by', nI L, pl, nI i, nI s, num)) hB rfl (show i ≤ 200 by omega)]
    simp only [Option.bind_some, show nI i + (1 : Int32) = nI (i + 1) from nI_1 i]
    show _ = some (by', nI L, pl, nI (if sN b L i = s then scn b L s k (i + 1) else i), nI s, num)
    by_cases q : sN b L i = s
    · rw [if_pos (congrArg nI q), if_pos q]; exact ih'
    · rw [if_neg (nI_inj (by omega) (by omega) q), if_neg q]
theorem k_skipL {n : Nat} {by' : Nat → Int32} {b : Nat → Nat} {tp : Nat → Int32} {L : Nat} {a so num : Int32} (hB : HB by' tp b L) : ∀ (k i m : Nat), i + k = L → k < m → lpF (fX5_step_F8 n) m (by', nI L, nI i, a, so, num) = fX5_step_b46 n (by', nI L, nI (skp b L k i), a, so, num) := by
  have hL := hB.1
  intro k
  induction k with
  | zero =>
    intro i m hi hm
    obtain ⟨m, rfl⟩ : ∃ x, m = x + 1 := ⟨m - 1, by omega⟩
    rw [lpS]
    unfold fX5_step_F8
    rw [if_pos (nI_le (by omega) (by omega))]
    rfl
  | succ k ih =>
    intro i m hi hm
    obtain ⟨m, rfl⟩ : ∃ x, m = x + 1 := ⟨m - 1, by omega⟩
    have ih' := ih (i + 1) m (by omega) (by omega)
    obtain ⟨h1, h2, -⟩ := hB.2 i (by omega)
    rw [lpS]
    generalize lpF (fX5_step_F8 n) m = kk at *
    unfold fX5_step_F8
    simp only [nI_clamp (show i < 2 ^ 31 by omega), h2, show nI i + (1 : Int32) = nI (i + 1) from nI_1 i, show (32 : Int32) = nI 32 from rfl, kEq h1 (show 32 < 128 by decide)]
    rw [if_neg (show ¬ nI L ≤ nI i from nI_ge (by omega) (by omega)), if_neg (nI_ok2 (show i < 200 by omega) (by decide))]
    show _ = fX5_step_b46 n (by', nI L, nI (if b i = 32 then skp b L k (i + 1) else i), a, so, num)
    by_cases q : b i = 32
    · rw [if_pos q, if_pos q]; exact ih'
    · rw [if_neg q, if_neg q]
theorem k_step {n : Nat} (hn : 300 ≤ n) {uA : TP} {b : Nat → Nat} {tp : Nat → Int32} {L f : Nat} (hB : HB uA.1 tp b L) (hL : uA.2.1 = nI L) (hf : f ≤ L) (ha : uA.2.2.2.1 = nI f) : fX5_step n uA = some (uA.1, nI L, nI (tP b L f), nI (tQ b L f), nI (tS b L f), uA.2.2.2.2.2) := by
  have hL2 := hB.1
  obtain ⟨p1, p2⟩ := tP_b (b := b) hf
  unfold fX5_step
  rw [hL, ha, k_skipL hB (L - f) f n (by omega) (by omega)]
  unfold fX5_step_b46
  simp only
  rw [k_sortAt (uA := (uA.1, nI L, nI (skp b L (L - f) f), nI f, uA.2.2.2.2.1, uA.2.2.2.2.2)) (i := skp b L (L - f) f) hB rfl (show tP b L f ≤ 200 by omega)]
  show (if nI (tS b L f) = (3 : Int32) then some (uA.1, nI L, nI (tP b L f), nI (tP b L f) + 1, nI (tS b L f), uA.2.2.2.2.2) else if nI (tS b L f) = 0 then some (uA.1, nI L, nI (tP b L f), nI (tP b L f), nI (tS b L f), uA.2.2.2.2.2) else lpF (fX5_step_F94 n) n (uA.1, nI L, nI (tP b L f), nI (tP b L f), nI (tS b L f), uA.2.2.2.2.2)) = _
  have hs := sN_le b L (tP b L f)
  have hs : tS b L f ≤ 3 := hs
  unfold tQ
  by_cases q3 : tS b L f = 3
  · rw [q3, if_pos (show nI 3 = (3 : Int32) from rfl), if_pos rfl, show nI (tP b L f) + (1 : Int32) = nI (tP b L f + 1) from nI_1 _]
  · rw [if_neg (show ¬ nI (tS b L f) = (3 : Int32) from nI_inj (b := 3) (by omega) (by omega) q3), if_neg q3]
    by_cases q0 : tS b L f = 0
    · rw [q0, if_pos (show nI 0 = (0 : Int32) from rfl), if_pos rfl]
    · rw [if_neg (show ¬ nI (tS b L f) = (0 : Int32) from nI_inj (b := 0) (by omega) (by omega) q0), if_neg q0, k_scanL hB hs (L - tP b L f) (tP b L f) n (by omega) (by omega)]
-- the reference's
def mT (uM : MO) (L s p q : Nat) (val wr : Int32) : MO := (uM.1, nI L, nI s, nI p, nI q, val, wr, uM.2.2.2.2.2.2.2)
/-- a number's value, as the reference gathers it -/
def mdv (b : Nat → Nat) : Nat → Nat → Nat → Nat
  | 0, _, acc => acc
  | k + 1, i, acc => mdv b k (i + 1) (if acc ≤ 999 then 10 * acc + b i - 48 else acc)
def dv (b : Nat → Nat) : Nat → Nat → Nat → Nat
  | 0, _, acc => acc
  | k + 1, i, acc => dv b k (i + 1) (acc * 10 + (b i - 48))
theorem m_201 {n : Nat} {tp : Nat → Int32} {uM : MO} {L s p q : Nat} {val wr : Int32} (hs : s ≤ 3) : fX7_nextToken_b201 n tp (mT uM L s p q val wr) = some (mT uM L s p (if s = 3 then q + 1 else q) val wr) := by
  unfold fX7_nextToken_b201 mT
  by_cases h : s = 3
  · subst h
    rw [if_neg (show ¬ nI 3 ≤ (2 : Int32) by decide), if_pos rfl]
    simp only [show nI q + (1 : Int32) = nI (q + 1) from nI_1 q]
  · rw [if_pos (show nI s ≤ (2 : Int32) from nI_le (b := 2) (by omega) (by decide)), if_neg h]
    simp only [show nI q + (0 : Int32) = nI q from nI_add q 0]
theorem m_digL {n : Nat} {uM : MO} {by' : Nat → Int32} {b : Nat → Nat} {tp : Nat → Int32} {L p : Nat} {wr : Int32} (hB : HB by' tp b L) : ∀ (k i m acc : Nat), i + k = L → k < m → acc ≤ 9999 → lpF (fX7_nextToken_F126 n tp) m (mT uM L 2 p i (nI acc) wr) = some (mT uM L 2 p (scn b L 2 k i) (nI (mdv b (scn b L 2 k i - i) i acc)) wr) := by
  have hL := hB.1
  have fin : ∀ (i acc : Nat), fX7_nextToken_b201 n tp (mT uM L 2 p i (nI acc) wr) = some (mT uM L 2 p i (nI acc) wr) := fun i acc => m_201 (by decide)
  intro k
  induction k with
  | zero =>
    intro i m acc hi hm ha
    obtain ⟨m, rfl⟩ : ∃ x, m = x + 1 := ⟨m - 1, by omega⟩
    rw [lpS]
    unfold fX7_nextToken_F126
    rw [if_pos (show (mT uM L 2 p i (nI acc) wr).2.2.1 = (2 : Int32) from rfl), show (mT uM L 2 p i (nI acc) wr).2.2.2.2.1 = nI i from rfl, m_byteAt (uM := mT uM L 2 p i (nI acc) wr) hB rfl (show i ≤ 200 by omega)]
    simp only [Option.bind_some]
    rw [m_isDigit hB i]
    have : sN b L i = 0 := by unfold sN; rw [if_neg (by omega)]
    rw [this]
    show fX7_nextToken_b201 n tp (mT uM L 2 p i (nI acc) wr) = some (mT uM L 2 p i (nI (mdv b (i - i) i acc)) wr)
    rw [fin, Nat.sub_self]
    rfl
  | succ k ih =>
    intro i m acc hi hm ha
    obtain ⟨m, rfl⟩ : ∃ x, m = x + 1 := ⟨m - 1, by omega⟩
    have hil : i < L := by omega
    obtain ⟨h1, -, -⟩ := hB.2 i hil
    rw [lpS]
    generalize hkk : lpF (fX7_nextToken_F126 n tp) m = kk
    unfold fX7_nextToken_F126 fX7_nextToken_b185
    rw [if_pos (show (mT uM L 2 p i (nI acc) wr).2.2.1 = (2 : Int32) from rfl), show (mT uM L 2 p i (nI acc) wr).2.2.2.2.1 = nI i from rfl, show (mT uM L 2 p i (nI acc) wr).2.2.2.2.2.1 = nI acc from rfl, m_byteAt (uM := mT uM L 2 p i (nI acc) wr) hB rfl (show i ≤ 200 by omega)]
    simp only [Option.bind_some]
    rw [m_isDigit hB i]
    simp only [Option.bind_some]
    have es : scn b L 2 (k + 1) i = if sN b L i = 2 then scn b L 2 k (i + 1) else i := rfl
    rw [es]
    by_cases q : sN b L i = 2
    · rw [if_pos q, if_neg i10, if_pos q]
      obtain ⟨g1, g2, g3⟩ := scn_b (b := b) (L := L) (s := 2) k (i + 1)
      have hq : srt (b i) = 2 := by unfold sN at q; rw [if_pos hil] at q; exact q
      obtain ⟨d1, d2, -, -⟩ := sbD (b i) h1 hq
      have em : mdv b (scn b L 2 k (i + 1) - i) i acc = mdv b (scn b L 2 k (i + 1) - (i + 1)) (i + 1) (if acc ≤ 999 then 10 * acc + b i - 48 else acc) := by
        rw [show scn b L 2 k (i + 1) - i = (scn b L 2 k (i + 1) - (i + 1)) + 1 by omega]
        rfl
      rw [em]
      by_cases c : acc ≤ 999
      · rw [if_pos (show nI acc ≤ (999 : Int32) from nI_le (b := 999) c (by decide)), if_pos c, if_pos hil]
        have := ih (i + 1) m (10 * acc + b i - 48) (by omega) (by omega) (by omega)
        rw [hkk] at this
        rw [← this, show ((10 : Int32) * nI acc + nI (b i)) - (48 : Int32) = nI (10 * acc + b i - 48) by rw [show (10 : Int32) = nI 10 from rfl, pk_mul, nI_add, show (48 : Int32) = nI 48 from rfl, pk_sub (by omega)], show nI i + (1 : Int32) = nI (i + 1) from nI_1 i]
        rfl
      · rw [if_neg (show ¬ nI acc ≤ (999 : Int32) from nI_ge (a := 999) (by omega) (by omega)), if_neg c]
        have := ih (i + 1) m acc (by omega) (by omega) ha
        rw [hkk] at this
        rw [← this, show nI i + (1 : Int32) = nI (i + 1) from nI_1 i]
        rfl
    · rw [if_neg q, if_pos rfl, if_neg q, fin, Nat.sub_self]
      rfl
theorem m_126 {n : Nat} (hn : 300 ≤ n) {uM : MO} {tp : Nat → Int32} {L s p q : Nat} {val wr : Int32} (hs : s ≤ 3) (h2 : s ≠ 2) : lpF (fX7_nextToken_F126 n tp) n (mT uM L s p q val wr) = some (mT uM L s p (if s = 3 then q + 1 else q) val wr) := by
  obtain ⟨m, rfl⟩ : ∃ x, n = x + 1 := ⟨n - 1, by omega⟩
  rw [lpS]
  generalize lpF (fX7_nextToken_F126 (m + 1) tp) m = kk
  unfold fX7_nextToken_F126
  rw [if_neg (show ¬ (mT uM L s p q val wr).2.2.1 = (2 : Int32) from nI_inj (b := 2) (by omega) (by decide) h2)]
  exact m_201 hs
theorem m_alpL {n : Nat} (hn : 300 ≤ n) {uM : MO} {by' : Nat → Int32} {b : Nat → Nat} {tp : Nat → Int32} {L p : Nat} {val wr : Int32} (hB : HB by' tp b L) : ∀ (k i m : Nat), i + k = L → k < m → lpF (fX7_nextToken_F91 n tp) m (mT uM L 1 p i val wr) = some (mT uM L 1 p (scn b L 1 k i) val wr) := by
  have hL := hB.1
  have fin : ∀ i : Nat, lpF (fX7_nextToken_F126 n tp) n (mT uM L 1 p i val wr) = some (mT uM L 1 p i val wr) := fun i => m_126 hn (by decide) (by decide)
  intro k
  induction k with
  | zero =>
    intro i m hi hm
    obtain ⟨m, rfl⟩ : ∃ x, m = x + 1 := ⟨m - 1, by omega⟩
    rw [lpS]
    unfold fX7_nextToken_F91
    rw [if_pos (show (mT uM L 1 p i val wr).2.2.1 = (1 : Int32) from rfl), show (mT uM L 1 p i val wr).2.2.2.2.1 = nI i from rfl, m_byteAt (uM := mT uM L 1 p i val wr) hB rfl (show i ≤ 200 by omega)]
    simp only [Option.bind_some]
    rw [m_isAlpha hB i]
    have : sN b L i = 0 := by unfold sN; rw [if_neg (by omega)]
    rw [this]
    exact fin i
  | succ k ih =>
    intro i m hi hm
    obtain ⟨m, rfl⟩ : ∃ x, m = x + 1 := ⟨m - 1, by omega⟩
    have ih' := ih (i + 1) m (by omega) (by omega)
    rw [lpS]
    generalize lpF (fX7_nextToken_F91 n tp) m = kk at *
    unfold fX7_nextToken_F91
    rw [if_pos (show (mT uM L 1 p i val wr).2.2.1 = (1 : Int32) from rfl), show (mT uM L 1 p i val wr).2.2.2.2.1 = nI i from rfl, m_byteAt (uM := mT uM L 1 p i val wr) hB rfl (show i ≤ 200 by omega)]
    simp only [Option.bind_some]
    rw [m_isAlpha hB i]
    simp only [Option.bind_some]
    have es : scn b L 1 (k + 1) i = if sN b L i = 1 then scn b L 1 k (i + 1) else i := rfl
    rw [es]
    by_cases q : sN b L i = 1
    · rw [if_pos q, if_neg i10, if_pos q, ← ih', show nI i + (1 : Int32) = nI (i + 1) from nI_1 i]
      rfl
    · rw [if_neg q, if_pos rfl, if_neg q, fin]
/-- a token's value -/
def tV (b : Nat → Nat) (L f : Nat) : Nat := if tS b L f = 2 then mdv b (tQ b L f - tP b L f) (tP b L f) 0 else 0
theorem m_83 {n : Nat} (hn : 300 ≤ n) {uM : MO} {by' : Nat → Int32} {b : Nat → Nat} {tp : Nat → Int32} {L f : Nat} (hB : HB by' tp b L) (hf : f ≤ L) {tk val wr : Int32} : fX7_nextToken_b83 n tp (uM.1, nI L, tk, nI (tP b L f), nI (tP b L f), val, wr, uM.2.2.2.2.2.2.2) (nI (tS b L f)) = some (mT uM L (tS b L f) (tP b L f) (tQ b L f) (nI (tV b L f)) wr) := by
  have hL2 := hB.1
  obtain ⟨p1, p2⟩ := tP_b (b := b) hf
  have hs : tS b L f ≤ 3 := sN_le b L (tP b L f)
  unfold fX7_nextToken_b83
  show lpF (fX7_nextToken_F91 n tp) n (mT uM L (tS b L f) (tP b L f) (tP b L f) 0 wr) = _
  by_cases q1 : tS b L f = 1
  · unfold tV tQ
    rw [q1, if_neg (by decide), if_neg (by decide), if_neg (by decide), m_alpL hn hB (L - tP b L f) (tP b L f) n (by omega) (by omega)]
    rfl
  · obtain ⟨m, hm⟩ : ∃ x, n = x + 1 := ⟨n - 1, by omega⟩
    have e1 : lpF (fX7_nextToken_F91 n tp) n (mT uM L (tS b L f) (tP b L f) (tP b L f) 0 wr) = lpF (fX7_nextToken_F126 n tp) n (mT uM L (tS b L f) (tP b L f) (tP b L f) 0 wr) := by
      have : lpF (fX7_nextToken_F91 n tp) n = lpF (fX7_nextToken_F91 n tp) (m + 1) := by rw [← hm]
      rw [this, lpS]
      generalize lpF (fX7_nextToken_F91 n tp) m = kk
      unfold fX7_nextToken_F91
      rw [if_neg (show ¬ (mT uM L (tS b L f) (tP b L f) (tP b L f) 0 wr).2.2.1 = (1 : Int32) from nI_inj (b := 1) (by omega) (by decide) q1)]
    rw [e1]
    by_cases q2 : tS b L f = 2
    · unfold tV tQ
      rw [q2, if_neg (by decide), if_neg (by decide), if_pos rfl]
      exact m_digL hB (L - tP b L f) (tP b L f) n 0 (by omega) (by omega) (by decide)
    · rw [m_126 hn hs q2]
      unfold tV tQ
      rw [if_neg q2]
      by_cases q3 : tS b L f = 3
      · rw [if_pos q3, if_pos q3]; rfl
      · rw [if_neg q3, if_neg q3, if_pos (show tS b L f = 0 by omega)]; rfl
theorem m_skipL {n : Nat} {uM : MO} {by' : Nat → Int32} {b : Nat → Nat} {tp : Nat → Int32} {L : Nat} {tk to val wr : Int32} (hB : HB by' tp b L) : ∀ (k i m : Nat), i + k = L → k < m → lpF (fX7_nextToken_F8 n tp) m (uM.1, nI L, tk, nI i, to, val, wr, uM.2.2.2.2.2.2.2) = fX7_nextToken_b83 n tp (uM.1, nI L, tk, nI (skp b L k i), nI (skp b L k i), val, wr, uM.2.2.2.2.2.2.2) (nI (sN b L (skp b L k i))) := by
  have hL := hB.1
  have fin : ∀ (i : Nat), i ≤ 200 → ((fX7_byteAt n (uM.1, nI L, tk, nI i, nI i, val, wr, uM.2.2.2.2.2.2.2) tp (nI i)).bind fun r47 => if 0 ≤ r47 then ((fX7_isAlpha n r47).bind fun r61 => if r61 = 0 then ((fX7_isDigit n r47).bind fun r72 => if r72 = 0 then fX7_nextToken_b83 n tp (uM.1, nI L, tk, nI i, nI i, val, wr, uM.2.2.2.2.2.2.2) (3 : Int32) else fX7_nextToken_b83 n tp (uM.1, nI L, tk, nI i, nI i, val, wr, uM.2.2.2.2.2.2.2) (2 : Int32)) else fX7_nextToken_b83 n tp (uM.1, nI L, tk, nI i, nI i, val, wr, uM.2.2.2.2.2.2.2) (1 : Int32)) else fX7_nextToken_b83 n tp (uM.1, nI L, tk, nI i, nI i, val, wr, uM.2.2.2.2.2.2.2) (0 : Int32)) = fX7_nextToken_b83 n tp (uM.1, nI L, tk, nI i, nI i, val, wr, uM.2.2.2.2.2.2.2) (nI (sN b L i)) := by
    intro i hi
    rw [m_byteAt (uM := (uM.1, nI L, tk, nI i, nI i, val, wr, uM.2.2.2.2.2.2.2)) hB rfl hi]
    generalize fX7_nextToken_b83 n tp (uM.1, nI L, tk, nI i, nI i, val, wr, uM.2.2.2.2.2.2.2) = G
    simp only [Option.bind_some, m_isAlpha hB i, m_isDigit hB i]
    by_cases q : i < L
    · have hb := (hB.2 i q).1
      have es : sN b L i = srt (b i) := by unfold sN; rw [if_pos q]
      rw [if_pos q, if_pos (nI_pos' (by omega)), es]
      obtain ⟨s1, s3⟩ := srt_le (b i)
      rcases (show srt (b i) = 1 ∨ srt (b i) = 2 ∨ srt (b i) = 3 by omega) with h | h | h
      · rw [h]; rfl
      · rw [h]; rfl
      · rw [h]; rfl
    · have es : sN b L i = 0 := by unfold sN; rw [if_neg q]
      rw [if_neg q, if_neg (show ¬ (0 : Int32) ≤ -1 by decide), es]
      rfl
  intro k
  induction k with
  | zero =>
    intro i m hi hm
    obtain ⟨m, rfl⟩ : ∃ x, m = x + 1 := ⟨m - 1, by omega⟩
    rw [lpS]
    generalize lpF (fX7_nextToken_F8 n tp) m = kk
    unfold fX7_nextToken_F8
    simp only
    rw [m_byteAt (uM := (uM.1, nI L, tk, nI i, to, val, wr, uM.2.2.2.2.2.2.2)) hB rfl (show i ≤ 200 by omega)]
    simp only [Option.bind_some]
    rw [if_neg (show ¬ i < L by omega), if_neg (show ¬ (-1 : Int32) = 32 by decide)]
    exact fin i (by omega)
  | succ k ih =>
    intro i m hi hm
    obtain ⟨m, rfl⟩ : ∃ x, m = x + 1 := ⟨m - 1, by omega⟩
    have ih' := ih (i + 1) m (by omega) (by omega)
    have h1 := (hB.2 i (by omega)).1
    rw [lpS]
    generalize lpF (fX7_nextToken_F8 n tp) m = kk at *
    unfold fX7_nextToken_F8
    simp only
    rw [m_byteAt (uM := (uM.1, nI L, tk, nI i, to, val, wr, uM.2.2.2.2.2.2.2)) hB rfl (show i ≤ 200 by omega)]
    simp only [Option.bind_some]
    rw [if_pos (show i < L by omega)]
    simp only [show (32 : Int32) = nI 32 from rfl, mEq h1 (show 32 < 256 by decide), show nI i + (1 : Int32) = nI (i + 1) from nI_1 i]
    have es : skp b L (k + 1) i = if b i = 32 then skp b L k (i + 1) else i := rfl
    rw [es]
    by_cases q : b i = 32
    · rw [if_pos q, if_pos q, ← ih']
    · rw [if_neg q, if_neg q]
      exact fin i (by omega)
theorem m_nextT {n : Nat} (hn : 300 ≤ n) {uM : MO} {by' : Nat → Int32} {b : Nat → Nat} {tp : Nat → Int32} {L f : Nat} (hB : HB by' tp b L) (hL : uM.2.1 = nI L) (hf : f ≤ L) (ht : uM.2.2.2.2.1 = nI f) : fX7_nextToken n uM tp = some (mT uM L (tS b L f) (tP b L f) (tQ b L f) (nI (tV b L f)) uM.2.2.2.2.2.2.1) := by
  have hL2 := hB.1
  unfold fX7_nextToken
  rw [hL, ht]
  have e := m_skipL (n := n) (uM := uM) (tk := uM.2.2.1) (to := nI f) (val := uM.2.2.2.2.2.1) (wr := uM.2.2.2.2.2.2.1) hB (L - f) f n (by omega) (by omega)
  exact e.trans (m_83 hn hB hf)
