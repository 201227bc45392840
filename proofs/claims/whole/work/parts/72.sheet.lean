/-! PURE, 13: fits; sheets -/
def aFt (F : Nat → Bool) : Nat → Nat → Int32 → Nat × Int32
  | 0, c, l => (c, l)
  | k + 1, c, l => if F k then aFt F k (c + 1) (nI k) else aFt F k c l
theorem aFt_s (F : Nat → Bool) (k c : Nat) (l : Int32) : aFt F (k + 1) c l = if F k then aFt F k (c + 1) (nI k) else aFt F k c l := rfl
theorem k_fitL {n : Nat} (hn : 300 ≤ n) {uK : Int32} {uN : TB} {uS : SH} {t : TA} (hR : RK uN t) (hO : OkT t) {g j L : Nat} (hg : g < tN t) {f : Nat → Int32} (hL : L ≤ 40) (h1 : uS.2.2 j = nI L) (h2 : ∀ k, k < 40 → uS.1 j k = (f k).toInt64) {x1 x3 : Int32} : ∀ (k m : Nat) (uY : TB) (c : Nat) (l : Int32), k ≤ 8 → k < m → ∃ Y' : TB, lpF (fX6_fits_F62 n uK uN uS x1 (nI g) x3) m (uY, j, nI c, l, nI k + (-1)) = some ((if x3 = 0 then nI (aFt (fun p => aGo f L 0 (setH t (at1 (tH t) g p))) k c l).1 else (aFt (fun p => aGo f L 0 (setH t (at1 (tH t) g p))) k c l).2), Y') := by
  intro k
  induction k with
  | zero =>
    intro m uY c l hk hm
    obtain ⟨m, rfl⟩ : ∃ x, m = x + 1 := ⟨m - 1, by omega⟩
    rw [lpS]
    unfold fX6_fits_F62
    rw [if_pos (show nI 0 + (-1) < (0 : Int32) by decide)]
    by_cases q : x3 = 0
    · rw [if_pos q, if_pos q]
      exact ⟨_, rfl⟩
    · rw [if_neg q, if_neg q]
      exact ⟨_, rfl⟩
  | succ k ih =>
    intro m uY c l hk hm
    obtain ⟨m, rfl⟩ : ∃ x, m = x + 1 := ⟨m - 1, by omega⟩
    have h8 : g < 8 := Nat.lt_of_lt_of_le hg hO.1
    obtain ⟨u1, e1, r1⟩ := k_copy n uY uN
    obtain ⟨u2, e2⟩ := k_goL hn (uK := uK) (f := f) hL h1 h2 L 0 n _ (setH t (at1 (tH t) g k)) (by omega) (by omega) (RK_H (i := g) (x := k) (r1 t hO.1 hR)) (ok_H hO (by omega))
    have nc : nI c + (1 : Int32) = nI (c + 1) := nI_1 c
    rw [lpS]
    generalize hkk : lpF (fX6_fits_F62 n uK uN uS x1 (nI g) x3) m = kk at *
    unfold fX6_fits_F62 fX6_fits_b105 fX6_goesAs
    rw [show nI (k + 1) + (-1) = nI k from pk_m1 k]
    simp only [e1, Option.bind_some, nI_cl8 h8, nc]
    rw [if_neg (nI_pos (n := k) (by omega)), if_neg (nI_ok2 h8 (by decide)), show lpF (fX6_goesAs_F2 n uK uS j) n ((u1.1, u1.2.1, upd u1.2.2.1 g (nI k), u1.2.2.2.1, u1.2.2.2.2.1, u1.2.2.2.2.2.1, u1.2.2.2.2.2.2.1, u1.2.2.2.2.2.2.2.1, u1.2.2.2.2.2.2.2.2.1, u1.2.2.2.2.2.2.2.2.2), 0) = _ from e2, aFt_s]
    simp only [Option.bind_some]
    cases hF : aGo f L 0 (setH t (at1 (tH t) g k)) with
    | true =>
      simp only [if_true, if_neg i10, ← hkk]
      exact ih m u2 (c + 1) (nI k) (by omega) (by omega)
    | false =>
      simp only [Bool.false_eq_true, if_false, if_true, ← hkk]
      exact ih m u2 c l (by omega) (by omega)
theorem m_isTold {n : Nat} (hn : 300 ≤ n) {uM : MO} {s a sz nu : Nat → Int32} {t : TA} (hR : RM s t) (hO : OkT t) {j L : Nat} (hj : j < 4) (hL : L ≤ 40) (h1 : sz j = nI L) : ∃ s' a' : Nat → Int32, fX7_isTold n uM s a sz nu (nI j) = some ((if aGo (fun k => nu (40 * j + k)) L 0 t then 1 else 0), s', a') ∧ ∀ q, q < 48 → s' q = s q := by
  obtain ⟨a1, e1, r1⟩ := m_copy hn s a
  obtain ⟨s', e2, r2⟩ := m_goL hn (uM := uM) (nu := nu) (a := a1) hj hL h1 L 0 n s t (by omega) (by omega) hR hO
  unfold fX7_isTold
  simp only [e1, Option.bind_some]
  exact ⟨s', a1, e2, fun q hq => (r2 q hq).trans (r1 q hq)⟩
theorem m_fitL {n : Nat} (hn : 300 ≤ n) {uM : MO} {so sz nu s0 : Nat → Int32} {t : TA} (hR : RM s0 t) (hO : OkT t) {g j L : Nat} (hg : g < tN t) (hj : j < 4) (hL : L ≤ 40) (h1 : sz j = nI L) {x2 x3 : Int32} : ∀ (k m : Nat) (s a : Nat → Int32) (c : Nat) (l : Int32), k ≤ 8 → k < m → (∀ q, q < 48 → q ≠ 8 + 5 * g + 1 → s q = s0 q) → ∃ s' a' : Nat → Int32, lpF (fX7_fits_F69 n uM so sz nu (nI j) x2 x3) m (s, a, nI (8 + 5 * g + 1), s0 (8 + 5 * g + 1), nI c, l, nI k + (-1)) = some ((if x3 = 0 then nI (aFt (fun p => aGo (fun k => nu (40 * j + k)) L 0 (setH t (at1 (tH t) g p))) k c l).1 else (aFt (fun p => aGo (fun k => nu (40 * j + k)) L 0 (setH t (at1 (tH t) g p))) k c l).2), s', a') ∧ ∀ q, q < 48 → s' q = s0 q := by
  have h8 : g < 8 := Nat.lt_of_lt_of_le hg hO.1
  have hA : 8 + 5 * g + 1 < 48 := by omega
  have clA : (nI (8 + 5 * g + 1)).toNatClampNeg = 8 + 5 * g + 1 := nI_clamp (by omega)
  intro k
  induction k with
  | zero =>
    intro m s a c l hk hm hs
    obtain ⟨m, rfl⟩ : ∃ x, m = x + 1 := ⟨m - 1, by omega⟩
    have back : ∀ q, q < 48 → upd s (8 + 5 * g + 1) (s0 (8 + 5 * g + 1)) q = s0 q := by
      intro q hq
      by_cases e : q = 8 + 5 * g + 1
      · subst e; exact pk_us
      · exact (pk_un e).trans (hs q hq e)
    rw [lpS]
    unfold fX7_fits_F69
    simp only [clA]
    rw [if_pos (show nI 0 + (-1) < (0 : Int32) by decide), if_neg (nI_ok2 hA (by decide))]
    by_cases q : x3 = 0
    · rw [if_pos q, if_pos q]
      exact ⟨_, _, rfl, back⟩
    · rw [if_neg q, if_neg q]
      exact ⟨_, _, rfl, back⟩
  | succ k ih =>
    intro m s a c l hk hm hs
    obtain ⟨m, rfl⟩ : ∃ x, m = x + 1 := ⟨m - 1, by omega⟩
    have o0 : OkT (setH t (at1 (tH t) g k)) := ok_H hO (by omega)
    have r1 : RM (upd s (8 + 5 * g + 1) (nI k)) (setH t (at1 (tH t) g k)) := RM_congr o0.1 (fun q hq => by
      by_cases e : q = 8 + 5 * g + 1
      · subst e; rw [pk_us, pk_us]
      · rw [pk_un e, pk_un e]; exact hs q hq e) (RM_H hR)
    obtain ⟨s1, a1, e1, cc⟩ := m_isTold hn (uM := uM) (a := a) (nu := nu) r1 o0 hj hL h1
    have hs1 : ∀ q, q < 48 → q ≠ 8 + 5 * g + 1 → s1 q = s0 q := fun q hq e => (cc q hq).trans ((pk_un e).trans (hs q hq e))
    have nc : nI c + (1 : Int32) = nI (c + 1) := nI_1 c
    have n0 : nI c + (0 : Int32) = nI c := nI_add c 0
    rw [lpS]
    generalize hkk : lpF (fX7_fits_F69 n uM so sz nu (nI j) x2 x3) m = kk at *
    unfold fX7_fits_F69 fX7_fits_b102 fX7_fits_b117
    rw [show nI (k + 1) + (-1) = nI k from pk_m1 k]
    simp only [clA, e1, Option.bind_some, nc, n0]
    rw [if_neg (nI_pos (n := k) (by omega)), if_neg (nI_ok2 hA (by decide)), aFt_s]
    cases hF : aGo (fun k => nu (40 * j + k)) L 0 (setH t (at1 (tH t) g k)) with
    | true =>
      simp only [if_true, if_neg i10, ← hkk]
      exact ih m s1 a1 (c + 1) (nI k) (by omega) (by omega) hs1
    | false =>
      simp only [Bool.false_eq_true, if_false, if_true, ← hkk]
      exact ih m s1 a1 c l (by omega) (by omega) hs1
theorem m_sheet0 {n : Nat} {x : Int32} (h : out x 0 3) : fX7_isSheet n x = some 0 := by
  unfold fX7_isSheet
  rw [show fX7_isIn n x.toInt64 0 3 = some 0 from m_in0 (lo := 0) (hi := 3) (by decide) (by decide) h]
  rfl
theorem m_sheet1 {n k : Nat} (h : k ≤ 3) : fX7_isSheet n (nI k) = some 1 := by
  unfold fX7_isSheet
  rw [show fX7_isIn n (nI k).toInt64 0 3 = some 1 from m_in1 (lo := 0) (hi := 3) (by omega) h (by decide)]
  rfl
theorem so_or {x : Int32} (h : x = -1 ∨ ∃ q, q < 4 ∧ x = nI q) : (x = -1 ∧ ¬ 0 ≤ x) ∨ (¬ x = -1 ∧ 0 ≤ x) := by
  rcases h with h | ⟨q, hq, rfl⟩
  · left
    subst h
    exact ⟨rfl, by decide⟩
  · right
    exact ⟨fun z => nI_pos (n := q) (by omega) (by rw [z]; decide), nI_pos' (by omega)⟩
theorem p_fits {n : Nat} (hn : 300 ≤ n) {uK : Int32} {uN uY : TB} {uS : SH} {uM : MO} {s a so sz nu : Nat → Int32} (h : RelT uN s) (hS : RelS uS so sz nu) (x1 x2 x3 : Int32) : ∃ (A : Int32) (Y' : TB) (s' a' : Nat → Int32), fX6_fits n uK uN uY uS x1 x2 x3 = some (A, Y') ∧ fX7_fits n uM s a so sz nu x1 x2 x3 = some (A, s', a') ∧ RelT uN s' := by
  obtain ⟨t, hK, hM, hO⟩ := h
  unfold fX6_fits fX7_fits
  rcases out_or x1 (lo := 0) (hi := 3) (by decide) (by decide) with h1 | ⟨j, -, hj, rfl⟩
  · rw [show fX6_within n x1 0 3 = some 0 from k_in0 (lo := 0) (hi := 3) h1, m_sheet0 h1]
    exact ⟨_, _, _, _, rfl, rfl, t, hK, hM, hO⟩
  rw [show fX6_within n (nI j) 0 3 = some 1 from k_in1 (lo := 0) (hi := 3) (by omega) hj (by decide), m_sheet1 hj]
  rcases one_or x2 hO.1 with h2 | ⟨g, hg, rfl⟩
  · rw [k_has0 hK hO h2, m_one0 hM h2]
    exact ⟨_, _, _, _, rfl, rfl, t, hK, hM, hO⟩
  rw [k_has1 hK hO hg, m_one1 hM hO hg]
  rcases out_or x3 (lo := 0) (hi := 1) (by decide) (by decide) with h3 | ⟨w, -, hw, rfl⟩
  · rw [show fX6_within n x3 0 1 = some 0 from k_in0 (lo := 0) (hi := 1) h3, show fX7_isIn n x3.toInt64 0 1 = some 0 from m_in0 (lo := 0) (hi := 1) (by decide) (by decide) h3]
    exact ⟨_, _, _, _, rfl, rfl, t, hK, hM, hO⟩
  rw [show fX6_within n (nI w) 0 1 = some 1 from k_in1 (lo := 0) (hi := 1) (by omega) hw (by decide), show fX7_isIn n (nI w).toInt64 0 1 = some 1 from m_in1 (lo := 0) (hi := 1) (by omega) hw (by decide)]
  have h8 : g < 8 := Nat.lt_of_lt_of_le hg hO.1
  have ix : ((8 : Int32) + ((5 : Int32) * nI g)) + (1 : Int32) = nI (8 + 5 * g + 1) := ixM g h8 1 (by decide)
  obtain ⟨q1, q2, ⟨L, hL, q3, q4⟩, q5⟩ := hS j (by omega)
  simp only [Option.bind_some, if_neg i10, ix, nI_clamp (show j < 2 ^ 31 by omega), nI_clamp (show 8 + 5 * g + 1 < 2 ^ 31 by omega), q1]
  rw [if_neg (nI_ok2 (show j < 4 by omega) (by decide)), if_neg (nI_ok2 (show j < 4 by omega) (by decide)), if_neg (nI_ok2 (show 8 + 5 * g + 1 < 48 by omega) (by decide))]
  rcases so_or q2 with ⟨z1, z2⟩ | ⟨z1, z2⟩
  · rw [if_pos z1, if_neg z2]
    exact ⟨_, _, _, _, rfl, rfl, t, hK, hM, hO⟩
  · rw [if_neg z1, if_pos z2]
    obtain ⟨Y', e1⟩ := k_fitL hn (uK := uK) (x1 := nI j) (x3 := nI w) hK hO hg (f := fun k => nu (40 * j + k)) hL q3 q5 8 n uY 0 (-3) (by omega) (by omega)
    obtain ⟨s', a', e2, r2⟩ := m_fitL hn (uM := uM) (so := so) (nu := nu) (x2 := nI g) (x3 := nI w) hM hO hg (show j < 4 by omega) hL q4 8 n s a 0 (-3) (by omega) (by omega) (fun _ _ _ => rfl)
    exact ⟨_, _, _, _, e1, e2, t, hK, RM_congr hO.1 r2 hM, hO⟩
-- what a sheet becomes
theorem k_fillL {n : Nat} {x : Int64} : ∀ (k i m : Nat) (f : Nat → Int64), i + k = 40 → k < m → (∀ j, j < i → f j = x) → ∃ f' : Nat → Int64, lpF (fJ7_fill_d0a16_F6 n x) m (f, nI i, 40) = some f' ∧ ∀ j, j < 40 → f' j = x := by
  intro k
  induction k with
  | zero =>
    intro i m f hi hm hf
    obtain ⟨m, rfl⟩ : ∃ x, m = x + 1 := ⟨m - 1, by omega⟩
    have e : i = 40 := by omega
    subst e
    exact ⟨f, rfl, hf⟩
  | succ k ih =>
    intro i m f hi hm hf
    obtain ⟨m, rfl⟩ : ∃ x, m = x + 1 := ⟨m - 1, by omega⟩
    rw [lpS]
    generalize hkk : lpF (fJ7_fill_d0a16_F6 n x) m = kk
    unfold fJ7_fill_d0a16_F6
    simp only [nI_clamp (show i < 2 ^ 31 by omega), show nI i + (1 : Int32) = nI (i + 1) from nI_1 i]
    rw [if_neg (show ¬ (40 : Int32) ≤ nI i from nI_ge (b := 40) (by omega) (by decide)), if_neg (nI_ok2 (show i < 40 by omega) (by decide)), ← hkk]
    refine ih (i + 1) m _ (by omega) (by omega) (fun j hj => ?_)
    by_cases e : j = i
    · subst e; exact pk_uLs
    · exact (pk_uLn e).trans (hf j (by omega))
theorem k_become {n : Nat} (hn : 300 ≤ n) (u : SHT) (x1 x2 : Int32) : ∃ f : Nat → Int64, fX1_become n u x1 x2 = some (f, x1, x2) ∧ ∀ j, j < 40 → f j = 0 := by
  obtain ⟨f, e, r⟩ := k_fillL (n := n) (x := 0) 40 0 n u.1 (by omega) (by omega) (fun j hj => absurd hj (Nat.not_lt_zero j))
  unfold fX1_become fJ7_fill_d0a16
  rw [show lpF (fJ7_fill_d0a16_F6 n 0) n (u.1, 0, 40) = _ from e]
  exact ⟨f, rfl, r⟩
theorem m_zeroL {n : Nat} {uM : MO} {j : Nat} (hj : j < 4) {x2 x3 : Int32} {so sz nu0 : Nat → Int32} : ∀ (k i m : Nat) (nu : Nat → Int32), i + k = 40 → k < m → (∀ q, nu q = if 40 * j ≤ q ∧ q < 40 * j + i then 0 else nu0 q) → ∃ nu' : Nat → Int32, lpF (fX7_sheet_F69 n uM (nI j) x2 x3) m (so, sz, nu, nI i) = some (1, so, sz, nu') ∧ ∀ q, nu' q = if 40 * j ≤ q ∧ q < 40 * j + 40 then 0 else nu0 q := by
  intro k
  induction k with
  | zero =>
    intro i m nu hi hm hq
    obtain ⟨m, rfl⟩ : ∃ x, m = x + 1 := ⟨m - 1, by omega⟩
    have e : i = 40 := by omega
    subst e
    exact ⟨nu, rfl, hq⟩
  | succ k ih =>
    intro i m nu hi hm hq
    obtain ⟨m, rfl⟩ : ∃ x, m = x + 1 := ⟨m - 1, by omega⟩
    have ix : ((40 : Int32) * nI j) + nI i = nI (40 * j + i) := by rw [show (40 : Int32) = nI 40 from rfl, pk_mul, nI_add]
    rw [lpS]
    generalize hkk : lpF (fX7_sheet_F69 n uM (nI j) x2 x3) m = kk
    unfold fX7_sheet_F69
    simp only [ix, nI_clamp (show 40 * j + i < 2 ^ 31 by omega), show nI i + (1 : Int32) = nI (i + 1) from nI_1 i]
    rw [if_neg (show ¬ (40 : Int32) ≤ nI i from nI_ge (b := 40) (by omega) (by decide)), if_neg (nI_ok2 (show 40 * j + i < 160 by omega) (by decide)), ← hkk]
    refine ih (i + 1) m _ (by omega) (by omega) (fun q => ?_)
    by_cases e : q = 40 * j + i
    · subst e
      rw [if_pos (by omega)]
      exact pk_us
    · rw [pk_un e, hq q]
      by_cases e2 : 40 * j ≤ q ∧ q < 40 * j + i
      · rw [if_pos e2, if_pos (by omega)]
      · rw [if_neg e2, if_neg (by omega)]
theorem RelS_new {uS : SH} {so sz nu nu' : Nat → Int32} (h : RelS uS so sz nu) {j L : Nat} (hj : j < 4) {v : Int32} (hv : v = -1 ∨ ∃ q, q < 4 ∧ v = nI q) (hL : L ≤ 40) {f : Nat → Int64} (hf : ∀ k, k < 40 → f k = 0) (hn : ∀ q, nu' q = if 40 * j ≤ q ∧ q < 40 * j + 40 then 0 else nu q) : RelS (va_up uS.1 j f, upd uS.2.1 j v, upd uS.2.2 j (nI L)) (upd so j v) (upd sz j (nI L)) nu' := by
  intro i hi
  by_cases e : i = j
  · subst e
    refine ⟨pk_us.trans pk_us.symm, by rw [pk_us]; exact hv, ⟨L, hL, pk_us, pk_us⟩, fun k hk => ?_⟩
    show va_up uS.1 i f i k = _
    rw [va_up_self, hf k hk, hn, if_pos (by omega)]
    rfl
  · obtain ⟨q1, q2, ⟨L', hL', q3, q4⟩, q5⟩ := h i hi
    refine ⟨(pk_un e).trans (q1.trans (pk_un e).symm), by rw [pk_un e]; exact q2, ⟨L', hL', (pk_un e).trans q3, (pk_un e).trans q4⟩, fun k hk => ?_⟩
    show va_up uS.1 j f i k = _
    rw [va_up_ne _ _ e, q5 k hk, hn, if_neg (by omega)]
theorem sort_or (x : Int32) : (fX6_within 0 x (-1) 3 = some 0) ∨ (fX6_within 0 x (-1) 3 = some 1 ∧ (x = -1 ∨ ∃ q, q < 4 ∧ x = nI q)) := by
  unfold fX6_within
  by_cases h1 : x < -1
  · left; rw [if_pos h1]
  · rw [if_neg h1]
    by_cases h2 : (3 : Int32) < x
    · left; rw [if_pos h2]
    · right
      rw [if_neg h2]
      refine ⟨rfl, ?_⟩
      by_cases h0 : x < 0
      · left
        have a1 := Int32.le_iff_toInt_le.mp (Int32.not_lt.mp h1)
        have a2 := Int32.lt_iff_toInt_lt.mp h0
        apply Int32.toInt_inj.mp
        have e1 : (-1 : Int32).toInt = -1 := by decide
        have e2 : (0 : Int32).toInt = 0 := by decide
        rw [e1] at a1 ⊢
        rw [e2] at a2
        omega
      · right
        obtain ⟨q, hq, rfl⟩ := nI_of h0
        refine ⟨q, ?_, rfl⟩
        have : q ≤ 3 := Nat.not_lt.mp (fun z => h2 (nI_lt (a := 3) z hq))
        omega
theorem p_sheet {n : Nat} (hn : 300 ≤ n) {uK : Int32} {uS : SH} {uM : MO} {so sz nu : Nat → Int32} (hS : RelS uS so sz nu) (x1 x2 x3 : Int32) : ∃ (A : Int32) (S' : SH) (so' sz' nu' : Nat → Int32), fX6_sheet n uK uS x1 x2 x3 = some (A, S') ∧ fX7_sheet n uM so sz nu x1 x2 x3 = some (A, so', sz', nu') ∧ RelS S' so' sz' nu' := by
  unfold fX6_sheet fX7_sheet
  rcases out_or x1 (lo := 0) (hi := 3) (by decide) (by decide) with h1 | ⟨j, -, hj, rfl⟩
  · rw [show fX6_within n x1 0 3 = some 0 from k_in0 (lo := 0) (hi := 3) h1, m_sheet0 h1]
    exact ⟨_, _, _, _, _, rfl, rfl, hS⟩
  rw [show fX6_within n (nI j) 0 3 = some 1 from k_in1 (lo := 0) (hi := 3) (by omega) hj (by decide), m_sheet1 hj, show fX7_isIn n x2.toInt64 (-1) 3 = fX6_within n x2 (-1) 3 from isIn_eq x2 (-1) 3]
  rcases sort_or x2 with h2 | ⟨h2, h2'⟩
  · rw [show fX6_within n x2 (-1) 3 = some 0 from h2]
    exact ⟨_, _, _, _, _, rfl, rfl, hS⟩
  rw [show fX6_within n x2 (-1) 3 = some 1 from h2]
  unfold fX7_sheet_b33 fX7_sheet_b44 fX7_sheet_b65
  simp only [Option.bind_some, if_neg i10, nI_clamp (show j < 2 ^ 31 by omega)]
  have j4 : ¬ (nI j < 0 ∨ 4 ≤ j) := nI_ok2 (show j < 4 by omega) (by decide)
  rcases so_or h2' with ⟨z1, z2⟩ | ⟨z1, z2⟩
  · obtain ⟨f, e1, r1⟩ := k_become hn (uS.1 j, uS.2.1 j, uS.2.2 j) (-1) 0
    obtain ⟨nu', e2, r2⟩ := m_zeroL (n := n) (uM := uM) (j := j) (by omega) (x2 := x2) (x3 := x3) (so := upd so j x2) (sz := upd sz j 0) (nu0 := nu) 40 0 n nu (by omega) (by omega) (fun q => by rw [if_neg (by omega)])
    simp only [if_pos z1, if_neg j4, e1, Option.bind_some, if_pos (Int32.not_le.mp z2), if_neg z2]
    refine ⟨_, _, _, _, _, rfl, e2, ?_⟩
    rw [z1]
    exact RelS_new hS (L := 0) (by omega) (Or.inl rfl) (by omega) r1 r2
  · have hlt : ¬ x2 < 0 := fun z => absurd (Int32.lt_of_lt_of_le z z2) Int32.lt_irrefl
    simp only [if_neg z1, if_neg j4, if_neg hlt, if_pos z2]
    by_cases h40 : x3 ≤ 40
    · simp only [if_pos h40]
      by_cases h0 : 0 ≤ x3
      · simp only [if_pos h0]
        obtain ⟨L, hL, rfl⟩ := nI_of (fun z => absurd (Int32.lt_of_lt_of_le z h0) Int32.lt_irrefl : ¬ x3 < 0)
        have hL40 : L ≤ 40 := (nI_leI (b := 40) hL (by decide)).mp h40
        obtain ⟨f, e1, r1⟩ := k_become hn (uS.1 j, uS.2.1 j, uS.2.2 j) x2 (nI L)
        obtain ⟨nu', e2, r2⟩ := m_zeroL (n := n) (uM := uM) (j := j) (by omega) (x2 := x2) (x3 := nI L) (so := upd so j x2) (sz := upd sz j (nI L)) (nu0 := nu) 40 0 n nu (by omega) (by omega) (fun q => by rw [if_neg (by omega)])
        simp only [e1, Option.bind_some]
        exact ⟨_, _, _, _, _, rfl, e2, RelS_new hS (by omega) h2' hL40 r1 r2⟩
      · simp only [if_neg h0]
        exact ⟨_, _, _, _, _, rfl, rfl, hS⟩
    · simp only [if_neg h40]
      exact ⟨_, _, _, _, _, rfl, rfl, hS⟩
