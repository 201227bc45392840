/-! PURE, 25: numbers, stops -/
/-- a number's value -/
def nV (b : Nat → Nat) (L f : Nat) : Nat := dv b (tQ b L f - tP b L f) (tP b L f) 0
def numOk (b : Nat → Nat) (L f most : Nat) : Prop := tS b L f = 2 ∧ tQ b L f - tP b L f ≤ 3 ∧ nV b L f ≤ most
theorem dig_of {by' tp : Nat → Int32} {b : Nat → Nat} {L f : Nat} (hB : HB by' tp b L) (hf : f ≤ L) (hs : tS b L f = 2) : ∀ x, tP b L f ≤ x → x < tQ b L f → x < L ∧ b x < 256 ∧ 48 ≤ b x ∧ b x ≤ 57 ∧ by' x - (48 : Int32) = nI (b x - 48) := by
  intro x h1 h2
  obtain ⟨q1, q2, -⟩ := tQ_b (b := b) hf
  have e : tQ b L f = scn b L 2 (L - tP b L f) (tP b L f) := by unfold tQ; rw [hs, if_neg (by decide), if_neg (by decide)]
  have h3 := (scn_b (b := b) (L := L) (s := 2) (L - tP b L f) (tP b L f)).2.2 x h1 (by omega)
  have hx : x < L := by omega
  unfold sN at h3
  rw [if_pos hx] at h3
  obtain ⟨c1, c2, -⟩ := hB.2 x hx
  obtain ⟨d1, d2, d3, -⟩ := sbD (b x) c1 h3
  exact ⟨hx, c1, d1, d2, by rw [c2, d3]⟩
theorem dv_s (b : Nat → Nat) (k i acc : Nat) : dv b (k + 1) i acc = dv b k (i + 1) (acc * 10 + (b i - 48)) := rfl
theorem mdv_s (b : Nat → Nat) (k i acc : Nat) : mdv b (k + 1) i acc = mdv b k (i + 1) (if acc ≤ 999 then 10 * acc + b i - 48 else acc) := rfl
theorem p10_s (j : Nat) : 10 ^ (j + 1) = 10 ^ j * 10 := rfl
theorem dv_lt {b : Nat → Nat} : ∀ (k i acc j : Nat), acc < 10 ^ j → (∀ x, i ≤ x → x < i + k → b x ≤ 57) → dv b k i acc < 10 ^ (j + k) := by
  intro k
  induction k with
  | zero => intro i acc j h _; exact h
  | succ k ih =>
    intro i acc j h hx
    rw [dv_s, show j + (k + 1) = (j + 1) + k by omega]
    refine ih (i + 1) _ (j + 1) ?_ (fun x h1 h2 => hx x (by omega) (by omega))
    have := hx i (Nat.le_refl _) (by omega)
    rw [p10_s]
    omega
theorem p10_le : ∀ j, j ≤ 3 → 10 ^ j ≤ 1000 := by decide
theorem mdv_eq {b : Nat → Nat} : ∀ (k i acc j : Nat), acc < 10 ^ j → j + k ≤ 3 → (∀ x, i ≤ x → x < i + k → 48 ≤ b x ∧ b x ≤ 57) → mdv b k i acc = dv b k i acc := by
  intro k
  induction k with
  | zero => intro i acc j _ _ _; rfl
  | succ k ih =>
    intro i acc j h hk hx
    have h1000 := p10_le j (by omega)
    obtain ⟨c1, c2⟩ := hx i (Nat.le_refl _) (by omega)
    rw [mdv_s, dv_s, if_pos (by omega), show 10 * acc + b i - 48 = acc * 10 + (b i - 48) by omega]
    refine ih (i + 1) _ (j + 1) ?_ (by omega) (fun x h1 h2 => hx x (by omega) (by omega))
    rw [p10_s]
    omega
theorem nV_lt {by' tp : Nat → Int32} {b : Nat → Nat} {L f : Nat} (hB : HB by' tp b L) (hf : f ≤ L) (hs : tS b L f = 2) (h3 : tQ b L f - tP b L f ≤ 3) : nV b L f < 1000 ∧ tV b L f = nV b L f := by
  have hd := dig_of hB hf hs
  constructor
  · have h1 := dv_lt (b := b) (tQ b L f - tP b L f) (tP b L f) 0 0 (by decide) (fun x a c => (hd x a (by omega)).2.2.2.1)
    have h2 := p10_le (0 + (tQ b L f - tP b L f)) (by omega)
    unfold nV
    omega
  · unfold tV nV
    rw [if_pos hs]
    exact mdv_eq _ _ _ 0 (by decide) (by omega) (fun x a c => ⟨(hd x a (by omega)).2.2.1, (hd x a (by omega)).2.2.2.1⟩)
theorem k_numL {n : Nat} {by' tp : Nat → Int32} {b : Nat → Nat} {L f most : Nat} (hB : HB by' tp b L) (hf : f ≤ L) (hm9 : most ≤ 999) (hs : tS b L f = 2) : ∀ (k i m acc j : Nat), i + k = tQ b L f → k < m → tP b L f ≤ i → acc < 10 ^ j → j + k ≤ 3 → lpF (fX5_readNumber_F37 n (nI most)) m (kAt by' b L f (nI acc), nI i) = some ((if dv b k i acc ≤ most then 1 else 0), kAt by' b L f (nI (dv b k i acc))) := by
  have hL := hB.1
  have hd := dig_of hB hf hs
  obtain ⟨q1, q2, -⟩ := tQ_b (b := b) hf
  intro k
  induction k with
  | zero =>
    intro i m acc j hi hm hp ha hj
    obtain ⟨m, rfl⟩ : ∃ x, m = x + 1 := ⟨m - 1, by omega⟩
    have h1000 := p10_le j (by omega)
    rw [lpS]
    unfold fX5_readNumber_F37
    rw [if_pos (show nI (tQ b L f) ≤ nI i from nI_le (by omega) (by omega))]
    show (if nI most < nI acc then _ else _) = some ((if acc ≤ most then 1 else 0), kAt by' b L f (nI acc))
    by_cases q : acc ≤ most
    · rw [if_neg (nI_nlt q (by omega)), if_pos q]
    · rw [if_pos (nI_lt (by omega) (by omega)), if_neg q]
  | succ k ih =>
    intro i m acc j hi hm hp ha hj
    obtain ⟨m, rfl⟩ : ∃ x, m = x + 1 := ⟨m - 1, by omega⟩
    obtain ⟨c0, c1, c2, c3, c4⟩ := hd i hp (by omega)
    have ih' := ih (i + 1) m (acc * 10 + (b i - 48)) (j + 1) (by omega) (by omega) (by omega) (by rw [p10_s]; omega) (by omega)
    rw [lpS]
    generalize lpF (fX5_readNumber_F37 n (nI most)) m = kk at *
    unfold fX5_readNumber_F37
    simp only [nI_clamp (show i < 2 ^ 31 by omega), c4, show nI i + (1 : Int32) = nI (i + 1) from nI_1 i, show nI acc * (10 : Int32) = nI (acc * 10) from pk_mul acc 10, nI_add]
    rw [if_neg (show ¬ nI (tQ b L f) ≤ nI i from nI_ge (by omega) (by omega)), if_neg (nI_ok2 (show i < 200 by omega) (by decide)), dv_s]
    exact ih'
theorem k_number {n : Nat} (hn : 300 ≤ n) {uA : TP} {tp : Nat → Int32} {b : Nat → Nat} {L f most : Nat} (hB : HB uA.1 tp b L) (hL : uA.2.1 = nI L) (hf : f ≤ L) (ha : uA.2.2.2.1 = nI f) (hm9 : most ≤ 999) : (numOk b L f most ∧ fX5_readNumber n uA (nI most) = some (1, kAt uA.1 b L f (nI (nV b L f)))) ∨ (¬ numOk b L f most ∧ ∃ num, fX5_readNumber n uA (nI most) = some (0, kAt uA.1 b L f num)) := by
  have hL2 := hB.1
  obtain ⟨q1, q2, -⟩ := tQ_b (b := b) hf
  have hs : tS b L f ≤ 3 := sN_le _ _ _
  unfold fX5_readNumber
  rw [k_step hn hB hL hf ha]
  simp only [Option.bind_some, pk_sub q1]
  by_cases s2 : tS b L f = 2
  · rw [if_pos (show nI (tS b L f) = (2 : Int32) by rw [s2]; rfl)]
    by_cases l3 : tQ b L f - tP b L f ≤ 3
    · rw [if_pos (show nI (tQ b L f - tP b L f) ≤ (3 : Int32) from nI_le (b := 3) l3 (by decide))]
      have e := k_numL (n := n) hB hf hm9 s2 (tQ b L f - tP b L f) (tP b L f) n 0 0 (by omega) (by omega) (Nat.le_refl _) (by decide) (by omega)
      rw [show lpF (fX5_readNumber_F37 n (nI most)) n ((uA.1, nI L, nI (tP b L f), nI (tQ b L f), nI (tS b L f), 0), nI (tP b L f)) = _ from e]
      by_cases q : nV b L f ≤ most
      · left
        refine ⟨⟨s2, l3, q⟩, ?_⟩
        rw [if_pos (show dv b (tQ b L f - tP b L f) (tP b L f) 0 ≤ most from q)]
        rfl
      · right
        refine ⟨fun z => q z.2.2, nI (nV b L f), ?_⟩
        rw [if_neg (show ¬ dv b (tQ b L f - tP b L f) (tP b L f) 0 ≤ most from q)]
        rfl
    · rw [if_neg (show ¬ nI (tQ b L f - tP b L f) ≤ (3 : Int32) from nI_ge (a := 3) (by omega) (by omega))]
      exact Or.inr ⟨fun z => l3 z.2.1, _, rfl⟩
  · rw [if_neg (show ¬ nI (tS b L f) = (2 : Int32) from nI_inj (b := 2) (by omega) (by decide) s2)]
    exact Or.inr ⟨fun z => s2 z.1, _, rfl⟩
-- the reference
theorem m_step {n : Nat} (hn : 300 ≤ n) {uM : MO} {by' tp : Nat → Int32} {b : Nat → Nat} {L f : Nat} {wr : Int32} (hB : HB by' tp b L) (hf : f ≤ L) : fX7_nextToken n (mAt uM b L f wr) tp = some (mAt uM b L (tQ b L f) wr) := by
  obtain ⟨q1, q2, -⟩ := tQ_b (b := b) hf
  exact m_nextT (uM := mAt uM b L f wr) hn hB rfl q2 rfl
theorem m_needs1 {n : Nat} (hn : 300 ≤ n) {uM : MO} {by' tp : Nat → Int32} {b : Nat → Nat} {L f : Nat} (hB : HB by' tp b L) (hf : f ≤ L) : fX7_needs n (mAt uM b L f 0) tp 1 = some (mAt uM b L (tQ b L f) 0) := by
  unfold fX7_needs
  rw [if_pos (show (mAt uM b L f 0).2.2.2.2.2.2.1 = 0 from rfl), if_neg i10]
  unfold fX7_needs_b17
  rw [if_neg (fun z => z (Or.inl rfl)), if_pos rfl]
  show (fX7_nextToken n (mAt uM b L f 0) tp).bind _ = _
  rw [m_step hn hB hf]
  rfl
theorem m_needs0 {n : Nat} {uM : MO} {tp : Nat → Int32} {b : Nat → Nat} {L f : Nat} : fX7_needs n (mAt uM b L f 0) tp 0 = some (mAt uM b L f 1) := by
  unfold fX7_needs
  rw [if_pos (show (mAt uM b L f 0).2.2.2.2.2.2.1 = 0 from rfl), if_pos rfl]
  unfold fX7_needs_b12 fX7_needs_b17
  rw [if_neg (fun z => z (Or.inr rfl)), if_neg i10]
  rfl
theorem m_needsW {n : Nat} {uM : MO} {tp : Nat → Int32} {b : Nat → Nat} {L f : Nat} (x : Int32) : fX7_needs n (mAt uM b L f 1) tp x = some (mAt uM b L f 1) := by
  unfold fX7_needs
  rw [if_neg (show ¬ (mAt uM b L f 1).2.2.2.2.2.2.1 = 0 from i10)]
  unfold fX7_needs_b12 fX7_needs_b17
  rw [if_neg (fun z => z (Or.inr rfl)), if_neg i10]
  rfl
theorem m_num33 {n : Nat} {uM : MO} {tp s : Nat → Int32} {b : Nat → Nat} {L f : Nat} {x1 x2 : Int32} : fX7_numberTo_b33 n tp x1 x2 (mAt uM b L f 0) s = some (mAt uM b L f 1, s) := by
  unfold fX7_numberTo_b33 fX7_numberTo_b34
  rw [if_pos rfl]
  unfold fX7_numberTo_b56
  rw [m_needs0]
  rfl
theorem m_number {n : Nat} (hn : 300 ≤ n) {uM : MO} {by' tp s : Nat → Int32} {b : Nat → Nat} {L f most c : Nat} (hB : HB by' tp b L) (hf : f ≤ L) (hm9 : most ≤ 999) (hc : c < 48) : (numOk b L f most → fX7_numberTo n (mAt uM b L f 0) s tp (nI c) (nI most) = some (mAt uM b L (tQ b L f) 0, upd s c (nI (nV b L f)))) ∧ (¬ numOk b L f most → fX7_numberTo n (mAt uM b L f 0) s tp (nI c) (nI most) = some (mAt uM b L f 1, s)) := by
  have hL := hB.1
  obtain ⟨q1, q2, -⟩ := tQ_b (b := b) hf
  have hs : tS b L f ≤ 3 := sN_le _ _ _
  have e0 : fX7_numberTo n (mAt uM b L f 0) s tp (nI c) (nI most) = if nI (tS b L f) = (2 : Int32) then (if (3 : Int32) < nI (tQ b L f) - nI (tP b L f) then fX7_numberTo_b33 n tp (nI c) (nI most) (mAt uM b L f 0) s else (if nI most < nI (tV b L f) then fX7_numberTo_b33 n tp (nI c) (nI most) (mAt uM b L f 0) s else fX7_numberTo_b34 n tp (nI c) (nI most) (mAt uM b L f 0) s 1)) else fX7_numberTo_b33 n tp (nI c) (nI most) (mAt uM b L f 0) s := rfl
  rw [e0, m_num33, pk_sub q1]
  by_cases s2 : tS b L f = 2
  · rw [if_pos (show nI (tS b L f) = (2 : Int32) by rw [s2]; rfl)]
    by_cases l3 : tQ b L f - tP b L f ≤ 3
    · obtain ⟨v1, v2⟩ := nV_lt hB hf s2 l3
      rw [if_neg (show ¬ (3 : Int32) < nI (tQ b L f - tP b L f) from nI_nlt (a := 3) l3 (by decide)), v2]
      by_cases q : nV b L f ≤ most
      · rw [if_neg (nI_nlt q (by omega))]
        refine ⟨fun _ => ?_, fun z => absurd ⟨s2, l3, q⟩ z⟩
        unfold fX7_numberTo_b34
        rw [if_neg i10, if_pos (show (mAt uM b L f 0).2.2.2.2.2.2.1 = 0 from rfl), if_neg (nI_ok hc (by decide)), nI_clamp (by omega)]
        unfold fX7_numberTo_b56
        rw [m_needs1 hn hB hf, show (mAt uM b L f 0).2.2.2.2.2.1 = nI (tV b L f) from rfl, v2]
        rfl
      · rw [if_pos (nI_lt (by omega) (by omega))]
        exact ⟨fun z => absurd z.2.2 q, fun _ => rfl⟩
    · rw [if_pos (show (3 : Int32) < nI (tQ b L f - tP b L f) from nI_lt (a := 3) (by omega) (by omega))]
      exact ⟨fun z => absurd z.2.1 l3, fun _ => rfl⟩
  · rw [if_neg (show ¬ nI (tS b L f) = (2 : Int32) from nI_inj (b := 2) (by omega) (by decide) s2)]
    exact ⟨fun z => absurd z.1 s2, fun _ => rfl⟩
theorem m_numberW {n : Nat} {uM : MO} {tp s : Nat → Int32} {b : Nat → Nat} {L f : Nat} (x1 x2 : Int32) : fX7_numberTo n (mAt uM b L f 1) s tp x1 x2 = some (mAt uM b L f 1, s) := by
  have w34 : ∀ w0 : Int32, fX7_numberTo_b34 n tp x1 x2 (mAt uM b L f 1) s w0 = some (mAt uM b L f 1, s) := by
    intro w0
    have e56 : fX7_numberTo_b56 n tp x1 x2 (mAt uM b L f 1) s w0 = some (mAt uM b L f 1, s) := by
      unfold fX7_numberTo_b56
      rw [m_needsW]
      rfl
    unfold fX7_numberTo_b34
    rw [if_neg (show ¬ (mAt uM b L f 1).2.2.2.2.2.2.1 = 0 from i10), e56, ite_self]
  unfold fX7_numberTo fX7_numberTo_b33
  rw [w34, w34, ite_self, ite_self, ite_self]
-- stops
def stp (b : Nat → Nat) (L f : Nat) : Prop := tS b L f = 3 ∧ b (tP b L f) = 59
theorem k_isStop {n : Nat} {by' tp : Nat → Int32} {b : Nat → Nat} {L f : Nat} {num : Int32} (hB : HB by' tp b L) (hf : f ≤ L) : Tst (fX5_isStop n (kAt by' b L f num)) (stp b L f) := by
  have hL := hB.1
  obtain ⟨p1, p2⟩ := tP_b (b := b) hf
  have hs : tS b L f ≤ 3 := sN_le _ _ _
  unfold fX5_isStop
  simp only [nI_clamp (show tP b L f < 2 ^ 31 by omega)]
  by_cases s3 : tS b L f = 3
  · have hp : tP b L f < L := by
      apply Classical.byContradiction
      intro q
      unfold tS sN at s3
      rw [if_neg q] at s3
      exact absurd s3 (by decide)
    obtain ⟨h1, h2, -⟩ := hB.2 _ hp
    rw [if_pos (show nI (tS b L f) = (3 : Int32) by rw [s3]; rfl), if_neg (nI_ok2 (show tP b L f < 200 by omega) (by decide)), h2, show (59 : Int32) = nI 59 from rfl]
    by_cases q : b (tP b L f) = 59
    · rw [if_pos ((kEq h1 (by decide)).mpr q)]; exact Or.inl ⟨rfl, s3, q⟩
    · rw [if_neg (fun z => q ((kEq h1 (by decide)).mp z))]; exact Or.inr ⟨rfl, fun z => q z.2⟩
  · rw [if_neg (show ¬ nI (tS b L f) = (3 : Int32) from nI_inj (b := 3) (by omega) (by decide) s3)]
    exact Or.inr ⟨rfl, fun z => s3 z.1⟩
theorem m_68 {n : Nat} (hn : 300 ≤ n) {uM : MO} {by' tp s : Nat → Int32} {b : Nat → Nat} {L f : Nat} (hB : HB by' tp b L) (hf : f ≤ L) : (stp b L f → fX7_itemHere_b68 n tp (mAt uM b L f 0) s = some (mAt uM b L (tQ b L f) 0, s)) ∧ (¬ stp b L f → fX7_itemHere_b68 n tp (mAt uM b L f 0) s = some (mAt uM b L f 1, s)) := by
  have hL := hB.1
  obtain ⟨p1, p2⟩ := tP_b (b := b) hf
  have hs : tS b L f ≤ 3 := sN_le _ _ _
  have e94 : fX7_itemHere_b94 n tp (mAt uM b L f 0) s = some (mAt uM b L f 1, s) := by
    unfold fX7_itemHere_b94 fX7_itemHere_b95
    rw [m_needs0]; rfl
  have e95 : fX7_itemHere_b95 n tp (mAt uM b L f 0) s 1 = some (mAt uM b L (tQ b L f) 0, s) := by
    unfold fX7_itemHere_b95
    rw [m_needs1 hn hB hf]; rfl
  unfold fX7_itemHere_b68
  rw [show (mAt uM b L f 0).2.2.1 = nI (tS b L f) from rfl, show (mAt uM b L f 0).2.2.2.1 = nI (tP b L f) from rfl, e94, e95]
  by_cases s3 : tS b L f = 3
  · have hp : tP b L f < L := by
      apply Classical.byContradiction
      intro q
      unfold tS sN at s3
      rw [if_neg q] at s3
      exact absurd s3 (by decide)
    rw [if_pos (show nI (tS b L f) = (3 : Int32) by rw [s3]; rfl), m_byteAt (uM := mAt uM b L f 0) hB rfl (show tP b L f ≤ 200 by omega), if_pos hp]
    simp only [Option.bind_some, show (59 : Int32) = nI 59 from rfl, mEq (hB.2 _ hp).1 (show 59 < 256 by decide)]
    by_cases q : b (tP b L f) = 59
    · rw [if_pos q]; exact ⟨fun _ => rfl, fun z => absurd ⟨s3, q⟩ z⟩
    · rw [if_neg q]; exact ⟨fun z => absurd z.2 q, fun _ => rfl⟩
  · rw [if_neg (show ¬ nI (tS b L f) = (3 : Int32) from nI_inj (b := 3) (by omega) (by decide) s3)]
    exact ⟨fun z => absurd z.1 s3, fun _ => rfl⟩
theorem m_68W {n : Nat} {uM : MO} {by' tp s : Nat → Int32} {b : Nat → Nat} {L f : Nat} (hB : HB by' tp b L) (hf : f ≤ L) : fX7_itemHere_b68 n tp (mAt uM b L f 1) s = some (mAt uM b L f 1, s) := by
  have hL := hB.1
  obtain ⟨p1, p2⟩ := tP_b (b := b) hf
  have e95 : ∀ x, fX7_itemHere_b95 n tp (mAt uM b L f 1) s x = some (mAt uM b L f 1, s) := by
    intro x
    unfold fX7_itemHere_b95
    rw [m_needsW]; rfl
  unfold fX7_itemHere_b68 fX7_itemHere_b94
  rw [show (mAt uM b L f 1).2.2.2.1 = nI (tP b L f) from rfl, e95, e95, m_byteAt (uM := mAt uM b L f 1) hB rfl (show tP b L f ≤ 200 by omega)]
  simp only [Option.bind_some, ite_self]
/-- how a sentence ends on both sides -/
def Out (by' : Nat → Int32) (b : Nat → Nat) (L f0 : Nat) (uM : MO) (oK : Option (Int32 × TB × TP)) (oM : Option (MO × (Nat → Int32))) : Prop := (∃ (g : Nat) (num : Int32) (Y' : TB) (s' : Nat → Int32), oK = some (0, Y', kAt by' b L g num) ∧ oM = some (mAt uM b L g 1, s')) ∨ (∃ (g : Nat) (num : Int32) (Y' : TB) (s' : Nat → Int32), oK = some (1, Y', kAt by' b L g num) ∧ oM = some (mAt uM b L (tQ b L g) 0, s') ∧ f0 < tQ b L g ∧ g ≤ L ∧ RelT Y' s')
theorem q_mono {b : Nat → Nat} {L f g f0 : Nat} (hf : f ≤ L) (h : f0 < f) : f0 < tQ b L f := by
  obtain ⟨p1, p2⟩ := tP_b (b := b) hf
  obtain ⟨q1, q2, -⟩ := tQ_b (b := b) hf
  omega
/-- what comes behind a number: a stop -/
theorem p_stopHere {n : Nat} (hn : 300 ≤ n) {uM : MO} {by' tp s : Nat → Int32} {b : Nat → Nat} {L f f0 : Nat} {num : Int32} (hB : HB by' tp b L) (hf : f ≤ L) (h0 : f0 < f) {Y : TB} (hR : RelT Y s) : Out by' b L f0 uM ((fX5_isStop n (kAt by' b L f num)).bind fun r => if ¬ (r = 0 ∨ r = 1) then none else some (r, Y, kAt by' b L f num)) (fX7_itemHere_b68 n tp (mAt uM b L f 0) s) := by
  rcases k_isStop (n := n) (num := num) hB hf with ⟨e, z⟩ | ⟨e, z⟩
  · rw [e, (m_68 hn hB hf).1 z]
    exact Or.inr ⟨f, num, Y, s, rfl, rfl, q_mono (g := 0) hf h0, hf, hR⟩
  · rw [e, (m_68 hn hB hf).2 z]
    exact Or.inl ⟨f, num, Y, s, rfl, rfl⟩
