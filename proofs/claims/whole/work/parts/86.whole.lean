/-! PURE, 27: sentences, the feast -/
theorem p_sentence {n : Nat} (hn : 300 ≤ n) {uM : MO} {by' tp s : Nat → Int32} {b : Nat → Nat} {L f : Nat} {num : Int32} (hB : HB by' tp b L) (hf : f ≤ L) (hs : tS b L f ≠ 0) {Y : TB} (hR : RelT Y s) : Out by' b L f uM (fX5_readSentence n Y (kAt by' b L f num)) (fX7_itemHere n (mAt uM b L f 0) s tp) := by
  obtain ⟨t, hK, hM, hO⟩ := hR
  obtain ⟨q1, q2, -⟩ := tQ_b (b := b) hf
  have law := p_law (n := n) hn (uM := uM) (num := num) (wr := 0) hB hf
  have hl : ∃ r6, fX7_lawHere n (mAt uM b L f 0) tp = some r6 := by
    rcases law with ⟨-, e⟩ | ⟨-, ⟨k, -, -, e⟩ | ⟨-, e⟩⟩
    · exact ⟨_, e⟩
    · exact ⟨_, e⟩
    · exact ⟨_, e⟩
  unfold fX5_readSentence fX7_itemHere
  rcases p_kind (n := n) hn (uM := uM) (num := num) (wr := 0) hB hf with ⟨k, hk, e1, e2⟩ | ⟨e1, e2⟩
  · obtain ⟨r6, e6⟩ := hl
    rw [e1, e2, e6]
    simp only [Option.bind_some]
    rw [if_neg (show ¬ nI k = (-3 : Int32) from fun z => nI_pos (n := k) (by omega) (by rw [z]; decide)), if_neg (nI_pos (n := k) (by omega))]
    have hg := p_guestText hn (uM := uM) (num := num) hB hf hs hk hK hM hO
    by_cases q : (8 : Int32) ≤ Y.2.2.2.2.2.2.1
    · rw [if_pos q] at hg ⊢
      exact hg
    · rw [if_neg q] at hg ⊢
      rcases hg with ⟨g, nu, Y', s', a, c⟩ | ⟨g, nu, Y', s', a, c, d⟩
      · rw [a]
        exact Or.inl ⟨g, nu, Y', s', rfl, c⟩
      · rw [a]
        exact Or.inr ⟨g, nu, Y', s', rfl, c, d⟩
  rw [e1, e2]
  simp only [Option.bind_some, if_true, if_pos (show (-1 : Int32) < 0 by decide)]
  rcases law with ⟨l1, l2⟩ | ⟨l1, ⟨k, hk, l2, l3⟩ | ⟨l2, l3⟩⟩
  · rw [l1, l2]
    simp only [Option.bind_some, if_neg i10, if_neg (show ¬ (3 : Int32) < 0 by decide)]
    unfold fX7_itemHere_b32
    rw [m_needs1 hn hB hf]
    simp only [Option.bind_some]
    rw [if_pos (show (mAt uM b L (tQ b L f) 0).2.2.2.2.2.2.1 = 0 from rfl)]
    unfold fX7_itemHere_b48 fX7_itemHere_b65
    rw [if_pos rfl]
    exact p_ruled (c := 3) (most := 999) hn hB hf hs (by decide) (by decide) (fun v => (Y.1, Y.2.1, Y.2.2.1, Y.2.2.2.1, Y.2.2.2.2.1, Y.2.2.2.2.2.1, Y.2.2.2.2.2.2.1, Y.2.2.2.2.2.2.2.1, nI v, Y.2.2.2.2.2.2.2.2.2)) (fun v hv => ⟨setO t v, RK_O hK v, RM_O hM v, ok_O hO (by omega)⟩) (fun x => (Y.1, Y.2.1, Y.2.2.1, Y.2.2.2.1, Y.2.2.2.2.1, Y.2.2.2.2.2.1, Y.2.2.2.2.2.2.1, Y.2.2.2.2.2.2.2.1, x, Y.2.2.2.2.2.2.2.2.2)) (fun v => rfl)
  · rw [l1, l2, l3]
    simp only [Option.bind_some, if_true]
    have k4 : ¬ (nI k < 0 ∨ 4 ≤ (nI k).toNatClampNeg) := nI_ok hk (by decide)
    have cl : (nI k).toNatClampNeg = k := nI_clamp (by omega)
    rw [if_neg (show ¬ nI k = (-3 : Int32) from fun z => nI_pos (n := k) (by omega) (by rw [z]; decide)), if_neg k4, if_neg (nI_pos (n := 4 + k) (by omega))]
    simp only [cl, gsI k hk, if_neg (nI_ok2 hk (by decide))]
    unfold fX7_itemHere_b32
    rw [m_needs1 hn hB hf]
    simp only [Option.bind_some]
    rw [if_pos (show (mAt uM b L (tQ b L f) 0).2.2.2.2.2.2.1 = 0 from rfl)]
    unfold fX7_itemHere_b48 fX7_itemHere_b65
    rw [if_neg (show ¬ nI (4 + k) = (3 : Int32) from nI_inj (b := 3) (by omega) (by decide) (by omega)), show nI (4 + k) - (4 : Int32) = nI k by rw [show (4 : Int32) = nI 4 from rfl, pk_sub (by omega)]; exact congrArg nI (by omega), mostI k hk]
    simp only [Option.bind_some]
    have hmost : (if k < 2 then 9 else 99) ≤ 999 := by split <;> decide
    refine p_ruled (c := 4 + k) (most := if k < 2 then 9 else 99) hn hB hf hs (by omega) hmost (fun v => (upd Y.1 k (nI v), Y.2.1, Y.2.2.1, Y.2.2.2.1, Y.2.2.2.2.1, Y.2.2.2.2.2.1, Y.2.2.2.2.2.2.1, Y.2.2.2.2.2.2.2.1, Y.2.2.2.2.2.2.2.2.1, Y.2.2.2.2.2.2.2.2.2)) (fun v hv => ⟨_, RK_L hK, RM_L hk hM, ok_L hO hk hv⟩) (fun x => (upd Y.1 k x, Y.2.1, Y.2.2.1, Y.2.2.2.1, Y.2.2.2.2.1, Y.2.2.2.2.2.1, Y.2.2.2.2.2.2.1, Y.2.2.2.2.2.2.2.1, Y.2.2.2.2.2.2.2.2.1, Y.2.2.2.2.2.2.2.2.2)) (fun v => rfl)
  · rw [l1, l2, l3]
    simp only [Option.bind_some, if_true, if_pos (show (-1 : Int32) < 0 by decide)]
    unfold fX7_itemHere_b32
    rw [m_needs0]
    simp only [Option.bind_some]
    rw [if_neg (show ¬ (mAt uM b L f 1).2.2.2.2.2.2.1 = 0 from i10)]
    unfold fX7_itemHere_b48 fX7_itemHere_b65
    rw [if_neg (show ¬ (-1 : Int32) = 3 by decide), show fX7_mostOf n ((-1 : Int32) - 4) = some 9 from rfl]
    simp only [Option.bind_some]
    rw [m_numberW]
    simp only [Option.bind_some]
    rw [m_68W hB hf]
    exact Or.inl ⟨f, num, Y, s, rfl, rfl⟩
theorem feastL {n : Nat} (hn : 300 ≤ n) {uM : MO} {by' tp : Nat → Int32} {b : Nat → Nat} {L : Nat} (hB : HB by' tp b L) (bef : Nat → Int32) : ∀ (k f i m mM : Nat) (num pl so : Int32) (Y : TB) (s : Nat → Int32), L - f ≤ k → f ≤ L → i ≤ f → k + 2 < m → k + 3 < mM → RelT Y s → (∃ (g : Nat) (nu : Int32) (Y' : TB) (s' : Nat → Int32), lpF (fX5_readInto_F7 n) m (Y, (by', nI L, pl, nI f, so, num), nI i) = some (0, Y', kAt by' b L g nu) ∧ lpF (fX7_feast_F29 n tp) mM (mAt uM b L f 0, s, bef) = fX7_feast_b50 n tp (mAt uM b L g 1) s' bef) ∨ (∃ (g : Nat) (nu : Int32) (Y' : TB) (s' : Nat → Int32), lpF (fX5_readInto_F7 n) m (Y, (by', nI L, pl, nI f, so, num), nI i) = some (1, Y', kAt by' b L g nu) ∧ lpF (fX7_feast_F29 n tp) mM (mAt uM b L f 0, s, bef) = fX7_feast_b50 n tp (mAt uM b L g 0) s' bef ∧ RelT Y' s') := by
  have hL := hB.1
  intro k
  induction k with
  | zero =>
    intro f i m mM num pl so Y s hk hf hi hm hmM hR
    obtain ⟨m, rfl⟩ : ∃ x, m = x + 1 := ⟨m - 1, by omega⟩
    obtain ⟨mM, rfl⟩ : ∃ x, mM = x + 1 := ⟨mM - 1, by omega⟩
    have e : f = L := by omega
    have ep : tP b L f = L := by have := tP_b (b := b) hf; omega
    have es : tS b L f = 0 := by
      unfold tS sN
      rw [if_neg (by omega)]
    right
    refine ⟨f, num, Y, s, ?_, ?_, hR⟩
    · rw [lpS]
      unfold fX5_readInto_F7
      rw [if_neg (show ¬ (200 : Int32) < nI i from nI_nlt (a := 200) (by omega) (by decide)), k_step (uA := (by', nI L, pl, nI f, so, num)) hn hB rfl hf rfl]
      simp only [Option.bind_some]
      rw [if_pos (show nI (tS b L f) = (0 : Int32) by rw [es]; rfl)]
    · rw [lpS]
      unfold fX7_feast_F29
      rw [if_pos (show (mAt uM b L f 0, s, bef).1.2.2.2.2.2.2.1 = 0 from rfl), if_pos (show (mAt uM b L f 0, s, bef).1.2.2.1 = 0 by show nI (tS b L f) = 0; rw [es]; rfl)]
  | succ k ih =>
    intro f i m mM num pl so Y s hk hf hi hm hmM hR
    obtain ⟨m, rfl⟩ : ∃ x, m = x + 1 := ⟨m - 1, by omega⟩
    obtain ⟨mM, rfl⟩ : ∃ x, mM = x + 1 + 1 := ⟨mM - 2, by omega⟩
    have hs3 : tS b L f ≤ 3 := sN_le _ _ _
    by_cases es : tS b L f = 0
    · right
      refine ⟨f, num, Y, s, ?_, ?_, hR⟩
      · rw [lpS]
        generalize lpF (fX5_readInto_F7 n) m = kk
        unfold fX5_readInto_F7
        rw [if_neg (show ¬ (200 : Int32) < nI i from nI_nlt (a := 200) (by omega) (by decide)), k_step (uA := (by', nI L, pl, nI f, so, num)) hn hB rfl hf rfl]
        simp only [Option.bind_some]
        rw [if_pos (show nI (tS b L f) = (0 : Int32) by rw [es]; rfl)]
      · rw [lpS]
        generalize lpF (fX7_feast_F29 n tp) (mM + 1) = kk
        unfold fX7_feast_F29
        rw [if_pos (show (mAt uM b L f 0, s, bef).1.2.2.2.2.2.2.1 = 0 from rfl), if_pos (show (mAt uM b L f 0, s, bef).1.2.2.1 = 0 by show nI (tS b L f) = 0; rw [es]; rfl)]
    · have eK : lpF (fX5_readInto_F7 n) (m + 1) (Y, (by', nI L, pl, nI f, so, num), nI i) = (fX5_readSentence n Y (kAt by' b L f num)).bind fun r29 => if r29.1 = 0 then some (0, r29.2.1, r29.2.2) else lpF (fX5_readInto_F7 n) m (r29.2.1, r29.2.2, nI (i + 1)) := by
        rw [lpS]
        generalize lpF (fX5_readInto_F7 n) m = kk
        unfold fX5_readInto_F7
        rw [if_neg (show ¬ (200 : Int32) < nI i from nI_nlt (a := 200) (by omega) (by decide)), k_step (uA := (by', nI L, pl, nI f, so, num)) hn hB rfl hf rfl]
        simp only [Option.bind_some, show nI i + (1 : Int32) = nI (i + 1) from nI_1 i]
        rw [if_neg (show ¬ nI (tS b L f) = (0 : Int32) from nI_inj (b := 0) (by omega) (by decide) es)]
      have eM : lpF (fX7_feast_F29 n tp) (mM + 1 + 1) (mAt uM b L f 0, s, bef) = (fX7_itemHere n (mAt uM b L f 0) s tp).bind fun r44 => lpF (fX7_feast_F29 n tp) (mM + 1) (r44.1, r44.2, bef) := by
        rw [lpS]
        generalize lpF (fX7_feast_F29 n tp) (mM + 1) = kk
        unfold fX7_feast_F29
        rw [if_pos (show (mAt uM b L f 0, s, bef).1.2.2.2.2.2.2.1 = 0 from rfl), if_neg (show ¬ (mAt uM b L f 0, s, bef).1.2.2.1 = 0 from nI_inj (b := 0) (by omega) (by decide) es)]
      rw [eK, eM]
      rcases p_sentence hn (uM := uM) (num := num) hB hf es hR with ⟨g, nu, Y', s', a, c⟩ | ⟨g, nu, Y', s', a, c, d1, d2, d3⟩
      · left
        refine ⟨g, nu, Y', s', by rw [a]; rfl, ?_⟩
        rw [c]
        simp only [Option.bind_some]
        rw [lpS]
        generalize lpF (fX7_feast_F29 n tp) mM = kk
        unfold fX7_feast_F29
        rw [if_neg (show ¬ (mAt uM b L g 1, s', bef).1.2.2.2.2.2.2.1 = 0 from i10)]
      · obtain ⟨q1, q2, -⟩ := tQ_b (b := b) d2
        rw [a, c]
        simp only [Option.bind_some, if_neg i10]
        exact ih (tQ b L g) (i + 1) m (mM + 1) nu (nI (tP b L g)) (nI (tS b L g)) Y' s' (by omega) q2 (by omega) (by omega) (by omega) d3
-- how a table begins
def t0 (z : Int32) : TA := ((fun i => if i = 0 then 3 else if i = 1 then 2 else if i = 2 then 90 else 20), (fun _ => 0), (fun _ => 0), (fun _ => 0), (fun _ => 0), 0, 0, 0, 0, z)
theorem ok_t0 (z : Int32) : OkT (t0 z) := ⟨(by decide : 0 ≤ 8), (by decide : 3 ≤ 9 ∧ 2 ≤ 9 ∧ 90 ≤ 99 ∧ 20 ≤ 99), fun g hg => absurd hg (Nat.not_lt_zero g), (by decide : 0 < 2 ^ 0), (by decide : 0 ≤ 99999)⟩
theorem gs0 : ∀ i, i < 4 → gsF 0 i = nI (if i = 0 then 3 else if i = 1 then 2 else if i = 2 then 90 else 20) := by decide
theorem k_clear {n : Nat} (u : TB) (z : Int32) : ∃ u' : TB, fX4_clear n u = some u' ∧ RK (u'.1, u'.2.1, u'.2.2.1, u'.2.2.2.1, u'.2.2.2.2.1, u'.2.2.2.2.2.1, u'.2.2.2.2.2.2.1, u'.2.2.2.2.2.2.2.1, u'.2.2.2.2.2.2.2.2.1, z) (t0 z) := by
  refine ⟨_, rfl, fun i hi => ?_, fun g hg => absurd hg (Nat.not_lt_zero g), rfl, rfl, rfl, rfl, rfl⟩
  show va_cpy (gsF 0) u.1 0 0 4 i = _
  rw [pk_cpy_in (Nat.zero_le _) (by omega)]
  show gsF 0 (0 + (i - 0)) = _
  rw [Nat.zero_add, Nat.sub_zero]
  exact gs0 i hi
theorem m_beginsL {n : Nat} {uM : MO} {z : Int32} : ∀ (k i m : Nat) (s : Nat → Int32), i + k = 48 → k < m → (∀ j, j < i → s j = 0) → ∃ s' : Nat → Int32, lpF (fX7_begins_F9 n uM) m (s, z, nI i) = some s' ∧ RM s' (t0 z) := by
  intro k
  induction k with
  | zero =>
    intro i m s hi hm hz
    obtain ⟨m, rfl⟩ : ∃ x, m = x + 1 := ⟨m - 1, by omega⟩
    have e : i = 48 := by omega
    subst e
    rw [lpS]
    unfold fX7_begins_F9
    rw [if_pos (show (48 : Int32) ≤ nI 48 from nI_le (a := 48) (by decide) (by decide))]
    refine ⟨_, rfl, ?_, ?_, ?_, ?_, ?_, ?_⟩
    · show upd (upd (upd (upd (upd s 2 z) 4 3) 5 2) 6 90) 7 20 0 = 0
      rw [pk_un (by decide), pk_un (by decide), pk_un (by decide), pk_un (by decide), pk_un (by decide)]
      exact hz 0 (by decide)
    · show upd (upd (upd (upd (upd s 2 z) 4 3) 5 2) 6 90) 7 20 1 = 0
      rw [pk_un (by decide), pk_un (by decide), pk_un (by decide), pk_un (by decide), pk_un (by decide)]
      exact hz 1 (by decide)
    · show upd (upd (upd (upd (upd s 2 z) 4 3) 5 2) 6 90) 7 20 2 = z
      rw [pk_un (by decide), pk_un (by decide), pk_un (by decide), pk_un (by decide)]
      exact pk_us
    · show upd (upd (upd (upd (upd s 2 z) 4 3) 5 2) 6 90) 7 20 3 = 0
      rw [pk_un (by decide), pk_un (by decide), pk_un (by decide), pk_un (by decide), pk_un (by decide)]
      exact hz 3 (by decide)
    · intro i hi
      show upd (upd (upd (upd (upd s 2 z) 4 3) 5 2) 6 90) 7 20 (4 + i) = _
      rcases (show i = 0 ∨ i = 1 ∨ i = 2 ∨ i = 3 by omega) with rfl | rfl | rfl | rfl <;> rfl
    · exact fun g hg => absurd hg (Nat.not_lt_zero g)
  | succ k ih =>
    intro i m s hi hm hz
    obtain ⟨m, rfl⟩ : ∃ x, m = x + 1 := ⟨m - 1, by omega⟩
    rw [lpS]
    generalize hkk : lpF (fX7_begins_F9 n uM) m = kk
    unfold fX7_begins_F9
    simp only [nI_clamp (show i < 2 ^ 31 by omega), show nI i + (1 : Int32) = nI (i + 1) from nI_1 i]
    rw [if_neg (show ¬ (48 : Int32) ≤ nI i from nI_ge (b := 48) (by omega) (by decide)), if_neg (nI_ok2 (show i < 48 by omega) (by decide)), ← hkk]
    refine ih (i + 1) m _ (by omega) (by omega) (fun j hj => ?_)
    by_cases e : j = i
    · subst e; exact pk_us
    · exact (pk_un e).trans (hz j (by omega))
theorem m_begins {n : Nat} (hn : 300 ≤ n) {uM : MO} (s : Nat → Int32) : ∃ s' : Nat → Int32, fX7_begins n uM s = some s' ∧ RM s' (t0 (s 2)) := m_beginsL 48 0 n s (by omega) (by omega) (fun j hj => absurd hj (Nat.not_lt_zero j))
theorem p_feast {n : Nat} (hn : 300 ≤ n) {uK : Int32} {uN uY : TB} {uA : TP} {uW : RW} {uM : MO} {s bef tp rows : Nat → Int32} (h : RelT uN s) (hA : RelA uA uM.2.1 tp) (hW : RelW uW uM.2.2.2.2.2.2.2.1 rows) : ∃ (A : Int32) (N' Y' : TB) (A' : TP) (W' : RW) (M' : MO) (s' bef' : Nat → Int32), fX6_feast n uK uN uY uA uW = some (A, N', Y', A', W') ∧ fX7_feast n uM s bef tp = some (A, M', s', bef') ∧ RelT N' s' ∧ RelA A' M'.2.1 tp ∧ RelW W' M'.2.2.2.2.2.2.2.1 rows ∧ M'.1 = uM.1 ∧ M'.2.2.2.2.2.2.2.2 = uM.2.2.2.2.2.2.2.2 := by
  obtain ⟨t, hK, hM, hO⟩ := h
  obtain ⟨b, L, h1, h2, hB⟩ := hA
  have hL := hB.1
  obtain ⟨Y1, e1, r1⟩ := k_clear (n := n) uY uN.2.2.2.2.2.2.2.2.2
  obtain ⟨bef1, e2, r2⟩ := m_copy hn s bef
  obtain ⟨s1, e3, r3⟩ := m_begins hn (uM := uM) s
  have ez : s 2 = uN.2.2.2.2.2.2.2.2.2 := by rw [hM.2.2.1, hK.2.2.2.2.2.2]
  rw [ez] at r3
  unfold fX6_feast fX7_feast fX5_readInto
  rw [e1, e2]
  simp only [Option.bind_some]
  rw [e3]
  simp only [Option.bind_some]
  have eT : fX7_nextToken n (uM.1, uM.2.1, uM.2.2.1, uM.2.2.2.1, (0 : Int32), uM.2.2.2.2.2.1, (0 : Int32), uM.2.2.2.2.2.2.2.1, uM.2.2.2.2.2.2.2.2.1, uM.2.2.2.2.2.2.2.2.2.1, uM.2.2.2.2.2.2.2.2.2.2.1, uM.2.2.2.2.2.2.2.2.2.2.2.1, uM.2.2.2.2.2.2.2.2.2.2.2.2) tp = some (mAt uM b L 0 0) := m_nextT (uM := (uM.1, uM.2.1, uM.2.2.1, uM.2.2.2.1, (0 : Int32), uM.2.2.2.2.2.1, (0 : Int32), uM.2.2.2.2.2.2.2.1, uM.2.2.2.2.2.2.2.2.1, uM.2.2.2.2.2.2.2.2.2.1, uM.2.2.2.2.2.2.2.2.2.2.1, uM.2.2.2.2.2.2.2.2.2.2.2.1, uM.2.2.2.2.2.2.2.2.2.2.2.2)) hn hB h2 (Nat.zero_le _) rfl
  rw [eT]
  simp only [Option.bind_some]
  have nA : ∀ A' : TP, A'.2.1 = 0 → RelA A' 0 tp := fun A' h => ⟨fun _ => 0, 0, h, rfl, Nat.zero_le _, fun i hi => absurd hi (Nat.not_lt_zero i)⟩
  rw [h1]
  rcases feastL hn (uM := uM) hB bef1 L 0 0 n n uA.2.2.2.2.2 uA.2.2.1 uA.2.2.2.2.1 _ s1 (by omega) (Nat.zero_le _) (Nat.le_refl _) (by omega) (by omega) ⟨_, r1, r3, ok_t0 _⟩ with ⟨g, nu, Y', s', a, c⟩ | ⟨g, nu, Y', s', a, c, d⟩
  · rw [show lpF (fX5_readInto_F7 n) n (_, (uA.1, nI L, uA.2.2.1, 0, uA.2.2.2.2.1, uA.2.2.2.2.2), 0) = _ from a, c]
    simp only [Option.bind_some, if_true]
    unfold fX7_feast_b50
    rw [if_neg (show ¬ (mAt uM b L g 1).2.2.2.2.2.2.1 = 0 from i10)]
    obtain ⟨s3, e4, r4⟩ := m_copy hn bef1 s'
    rw [e4]
    exact ⟨_, _, _, _, _, _, _, _, rfl, rfl, ⟨t, hK, RM_congr hO.1 (fun j hj => (r4 j hj).trans (r2 j hj)) hM, hO⟩, nA _ rfl, hW, rfl, rfl⟩
  · rw [show lpF (fX5_readInto_F7 n) n (_, (uA.1, nI L, uA.2.2.1, 0, uA.2.2.2.2.1, uA.2.2.2.2.2), 0) = _ from a, c]
    simp only [Option.bind_some, if_neg i10]
    unfold fX7_feast_b50
    rw [if_pos (show (mAt uM b L g 0).2.2.2.2.2.2.1 = 0 from rfl)]
    obtain ⟨t2, k2, m2, o2⟩ := d
    obtain ⟨N', e5, r5⟩ := k_copy n uN Y'
    have r5 := r5 t2 o2.1 k2
    rw [e5]
    simp only [Option.bind_some, c0]
    rw [r5.2.2.2.1, m2.1]
    exact ⟨_, _, _, _, _, _, _, _, rfl, rfl, ⟨t2, r5, m2, o2⟩, nA _ rfl, ⟨0, by decide, rfl, rfl, fun j hj => by omega⟩, rfl, rfl⟩
