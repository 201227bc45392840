/-! PURE, 18: how deep it may be -/
/-- another DEPTH -/
def sD (t : TA) (v : Nat) : TA := setL t (at1 (tL t) 2 v)
theorem ph_sD (t : TA) (v i : Nat) : aPh (sD t v) i = sD (aPh t i) v := rfl
theorem tell_sD (t : TA) (v g : Nat) : aTell (sD t v) g = sD (aTell t g) v := rfl
theorem teller_sD (t : TA) (v : Nat) : aTeller (sD t v) = aTeller t := rfl
theorem tells_s (b : Nat) (t : TA) : aTells (b + 1) t = match aTeller t with | none => t | some g => aTells b (aTell t g) := rfl
theorem tells_sD : ∀ (b : Nat) (t : TA) (v : Nat), aTells b (sD t v) = sD (aTells b t) v := by
  intro b
  induction b with
  | zero => intro t v; rfl
  | succ b ih =>
    intro t v
    rw [tells_s, tells_s, teller_sD]
    cases aTeller t with
    | none => rfl
    | some g =>
      show aTells b (aTell (sD t v) g) = sD (aTells b (aTell t g)) v
      rw [tell_sD, ih]
/-- a COURSE before its end -/
def mid (t : TA) : TA := aTells (tL t 0) (aPh t (tN t))
/-- a COURSE's end, where nobody is drowned -/
def enD (m : TA) : TA := (tL m, tK m, tH m, tG m, tT m, tD m, tN m, tC m + 1, tO m, tZ m)
theorem serve_sD (t : TA) (v : Nat) : aServe (sD t v) = aEnd (sD (mid t) v) := by
  unfold aServe mid
  rw [ph_sD, tells_sD]
  rfl
theorem sDD (t : TA) (v w : Nat) : tL (sD t v) 2 = v := rfl
theorem dr_bit (m : TA) (g : Nat) : ∀ i, (aDr m i).testBit g = ((tD m).testBit g || (decide (g < i) && decide (tL m 2 < tG m g))) := by
  intro i
  induction i with
  | zero => show (tD m).testBit g = _; simp
  | succ i ih =>
    show (if tL m 2 < tG m i then aDr m i ||| 2 ^ i else aDr m i).testBit g = _
    split
    · rename_i h
      rw [Nat.testBit_or, ih, Nat.testBit_two_pow]
      by_cases e : i = g
      · subst e
        simp [h]
      · have : decide (g < i + 1) = decide (g < i) := by
          apply decide_eq_decide.mpr; omega
        rw [this]
        simp [e]
    · rename_i h
      rw [ih]
      by_cases e : i = g
      · subst e
        simp [h]
      · have : decide (g < i + 1) = decide (g < i) := by
          apply decide_eq_decide.mpr; omega
        rw [this]
theorem dr_same {m : TA} (h : ∀ g, g < tN m → (tD m).testBit g = true ∨ tG m g ≤ tL m 2) : aDr m (tN m) = tD m := by
  apply Nat.eq_of_testBit_eq
  intro g
  rw [dr_bit]
  by_cases hg : g < tN m
  · rcases h g hg with q | q
    · rw [q]; rfl
    · have : ¬ tL m 2 < tG m g := by omega
      simp [this]
  · simp [hg]
/-- the deepest of those who are not drowned -/
def aDA (t : TA) : Nat → Nat
  | 0 => 0
  | i + 1 => if (tD t).testBit i then aDA t i else max (aDA t i) (tG t i)
theorem aDA_le {t : TA} {v : Nat} : ∀ i, aDA t i ≤ v ↔ ∀ g, g < i → (tD t).testBit g = true ∨ tG t g ≤ v := by
  intro i
  induction i with
  | zero => exact ⟨fun _ g hg => absurd hg (Nat.not_lt_zero g), fun _ => Nat.zero_le _⟩
  | succ i ih =>
    show (if (tD t).testBit i then aDA t i else max (aDA t i) (tG t i)) ≤ v ↔ _
    constructor
    · intro h g hg
      split at h
      · rename_i hb
        by_cases e : g = i
        · subst e; exact Or.inl hb
        · exact ih.mp h g (by omega)
      · by_cases e : g = i
        · subst e; exact Or.inr (by omega)
        · exact ih.mp (by omega) g (by omega)
    · intro h
      have h1 := ih.mpr (fun g hg => h g (by omega))
      split
      · exact h1
      · rename_i hb
        have := (h i (by omega)).resolve_left hb
        omega
/-- the deepest in k COURSES -/
def aMx : Nat → TA → Nat → Nat
  | 0, _, acc => acc
  | k + 1, t, acc => aMx k (aServe t) (max acc (aDA (aServe t) (tN t)))
theorem aMx_s (k : Nat) (t : TA) (acc : Nat) : aMx (k + 1) t acc = aMx k (aServe t) (max acc (aDA (aServe t) (tN t))) := rfl
theorem aMx_acc : ∀ (k : Nat) (t : TA) (acc v : Nat), aMx k t acc ≤ v ↔ acc ≤ v ∧ aMx k t 0 ≤ v := by
  intro k
  induction k with
  | zero =>
    intro t acc v
    show acc ≤ v ↔ acc ≤ v ∧ 0 ≤ v
    omega
  | succ k ih =>
    intro t acc v
    rw [aMx_s, aMx_s, ih, ih (aServe t) (max 0 _)]
    omega
theorem serves_D : ∀ (k : Nat) (t : TA) (g : Nat), (tD t).testBit g = true → (tD (aServes k t)).testBit g = true := by
  intro k
  induction k with
  | zero => intro t g h; exact h
  | succ k ih => intro t g h; exact ih (aServe t) g (serve_drowned h).2
theorem ok_sD {t : TA} (hO : OkT t) {v : Nat} (hv : v ≤ 99) : OkT (sD t v) := ok_L hO (by decide) hv
theorem mid_D (t : TA) : tD (mid t) = tD t := tells_D _ _
theorem mid_N (t : TA) : tN (mid t) = tN t := tells_N _ _
theorem ok_mid {t : TA} (hO : OkT t) : OkT (mid t) := ok_tells _ (ok_ph hO _)
theorem ok_enD {t : TA} (hO : OkT t) : OkT (enD t) := hO
theorem serve_v {t : TA} {v : Nat} (h : aDA (mid t) (tN t) ≤ v) : aServe (sD t v) = sD (enD (mid t)) v := by
  rw [serve_sD]
  have e : aDr (sD (mid t) v) (tN (mid t)) = tD (mid t) := dr_same (m := sD (mid t) v) (fun g hg => (aDA_le (t := mid t) _).mp (mid_N t ▸ h) g hg)
  unfold aEnd
  show (_, _, _, _, _, aDr (sD (mid t) v) (tN (mid t)), _) = _
  rw [e]
  rfl
theorem depth_aux (m : TA) : ∀ i, aDA (sD (enD m) 99) i = aDA m i := by
  intro i
  induction i with
  | zero => rfl
  | succ i ih =>
    show (if (tD m).testBit i then aDA (sD (enD m) 99) i else max (aDA (sD (enD m) 99) i) (tG m i)) = (if (tD m).testBit i then aDA m i else max (aDA m i) (tG m i))
    rw [ih]
theorem depth_iff : ∀ (k : Nat) (t : TA) (v : Nat), OkT t → v ≤ 99 → (tD (aServes k (sD t v)) = tD t ↔ aMx k (sD t 99) 0 ≤ v) := by
  intro k
  induction k with
  | zero => intro t v _ _; exact ⟨fun _ => Nat.zero_le _, fun _ => rfl⟩
  | succ k ih =>
    intro t v hO hv
    have h99 : aDA (mid t) (tN t) ≤ 99 := (aDA_le _).mpr (fun g hg => Or.inr (((ok_mid hO).2.2.1 g (by rw [mid_N]; exact hg)).2.2.1))
    rw [aMx_s, serve_v h99, aMx_acc]
    show (tD (aServes k (aServe (sD t v))) = tD t ↔ _)
    have eA : aDA (sD (enD (mid t)) 99) (tN (sD t 99)) = aDA (mid t) (tN t) := depth_aux (mid t) (tN t)
    rw [eA]
    by_cases h : aDA (mid t) (tN t) ≤ v
    · rw [serve_v h]
      have i1 := ih (enD (mid t)) v (ok_enD (ok_mid hO)) hv
      rw [show tD (enD (mid t)) = tD t from mid_D t] at i1
      rw [i1]
      omega
    · refine ⟨fun z => ?_, fun z => by omega⟩
      exfalso
      have : ∃ g, g < tN t ∧ (tD (mid t)).testBit g = false ∧ v < tG (mid t) g := by
        apply Classical.byContradiction
        intro hn
        apply h
        refine (aDA_le _).mpr (fun g hg => ?_)
        cases hb : (tD (mid t)).testBit g with
        | true => exact Or.inl rfl
        | false =>
          right
          apply Classical.byContradiction
          intro hq
          exact hn ⟨g, hg, hb, by omega⟩
      obtain ⟨g, hg, hb, hG⟩ := this
      have b1 : (tD (aServe (sD t v))).testBit g = true := by
        rw [serve_sD]
        show (aDr (sD (mid t) v) (tN (mid t))).testBit g = true
        rw [dr_bit, mid_N]
        have hG' : tL (sD (mid t) v) 2 < tG (sD (mid t) v) g := hG
        simp [hg, hG']
      have b2 := serves_D k _ g b1
      rw [z, ← mid_D t, hb] at b2
      exact absurd b2 (by decide)
theorem aMx_99 : ∀ (k : Nat) (t : TA) (acc : Nat), OkT t → acc ≤ 99 → aMx k t acc ≤ 99 := by
  intro k
  induction k with
  | zero => intro t acc _ h; exact h
  | succ k ih =>
    intro t acc hO h
    rw [aMx_s]
    have o1 := ok_serve hO
    refine ih (aServe t) _ o1 ?_
    have : aDA (aServe t) (tN t) ≤ 99 := (aDA_le _).mpr (fun g hg => Or.inr ((o1.2.2.1 g (by rw [serve_N]; exact hg)).2.2.1))
    omega
-- the class
theorem maxI {a b : Nat} (ha : a < 2 ^ 31) (hb : b < 2 ^ 31) : (if nI a < nI b then nI b else nI a) = nI (max a b) := by
  by_cases h : a < b
  · rw [if_pos (nI_lt h hb), Nat.max_eq_right (by omega)]
  · rw [if_neg (nI_nlt (by omega) ha), Nat.max_eq_left (by omega)]
theorem k_daL {n : Nat} {u : TB} {t : TA} (hR : RK u t) (hO : OkT t) : ∀ (k i m : Nat), i + k = tN t → k < m → lpF (fX4_deepestAlive_F4 n u) m (nI (aDA t i), nI i) = some (nI (aDA t (tN t))) := by
  intro k
  induction k with
  | zero =>
    intro i m hi hm
    obtain ⟨m, rfl⟩ : ∃ x, m = x + 1 := ⟨m - 1, by omega⟩
    have hN := hO.1
    have : i = tN t := by omega
    rw [lpS]
    unfold fX4_deepestAlive_F4
    rw [hR.2.2.2.1, if_pos (nI_le (by omega) (by omega)), this]
  | succ k ih =>
    intro i m hi hm
    obtain ⟨m, rfl⟩ : ∃ x, m = x + 1 := ⟨m - 1, by omega⟩
    have hN := hO.1
    have h8 : i < 8 := by omega
    obtain ⟨-, -, qg, -⟩ := hR.2.1 i (by omega)
    have ih' := ih (i + 1) m (by omega) (by omega)
    have h99 : aDA t i ≤ 99 := (aDA_le _).mpr (fun g hg => Or.inr ((hO.2.2.1 g (by omega)).2.2.1))
    have hg9 := (hO.2.2.1 i (by omega)).2.2.1
    rw [lpS]
    generalize lpF (fX4_deepestAlive_F4 n u) m = kk at *
    unfold fX4_deepestAlive_F4 fX4_deepestAlive_b31
    simp only [k_isDrowned hR hO h8, Option.bind_some, nI_cl8 h8, qg, hR.2.2.2.1, show nI i + (1 : Int32) = nI (i + 1) from nI_1 i, maxI (show aDA t i < 2 ^ 31 by omega) (show tG t i < 2 ^ 31 by omega), nI_of_bit0]
    rw [if_neg (show ¬ nI (tN t) ≤ nI i from nI_ge (by omega) (by omega)), if_neg (nI_ok2 h8 (by decide))]
    have ed : aDA t (i + 1) = if (tD t).testBit i then aDA t i else max (aDA t i) (tG t i) := rfl
    cases hb : (tD t).testBit i with
    | true =>
      rw [ed, hb, if_pos rfl] at ih'
      simpa using ih'
    | false =>
      rw [ed, hb] at ih'
      simpa using ih'
theorem k_da {n : Nat} (hn : 300 ≤ n) {u : TB} {t : TA} (hR : RK u t) (hO : OkT t) : fX4_deepestAlive n u = some (nI (aDA t (tN t))) := by
  have hN := hO.1
  exact k_daL hR hO (tN t) 0 n (by omega) (by omega)
theorem k_depthL {n : Nat} (hn : 300 ≤ n) {uK : Int32} {uN : TB} {N : Nat} (hN : N ≤ 40) : ∀ (k i m : Nat) (uY : TB) (t : TA) (acc : Nat), i + k = N → k < m → RK uY t → OkT t → acc ≤ 99 → ∃ Y' : TB, lpF (fX6_depthFor_F38 n uK uN (nI N)) m (uY, nI acc, nI i) = some (nI (aMx k t acc), Y') := by
  intro k
  induction k with
  | zero =>
    intro i m uY t acc hi hm hR hO ha
    obtain ⟨m, rfl⟩ : ∃ x, m = x + 1 := ⟨m - 1, by omega⟩
    rw [lpS]
    unfold fX6_depthFor_F38
    rw [if_pos (nI_le (by omega) (by omega))]
    exact ⟨_, rfl⟩
  | succ k ih =>
    intro i m uY t acc hi hm hR hO ha
    obtain ⟨m, rfl⟩ : ∃ x, m = x + 1 := ⟨m - 1, by omega⟩
    obtain ⟨u1, e1, r1⟩ := k_serve hn hR hO
    have o1 := ok_serve hO
    have h99 : aDA (aServe t) (tN t) ≤ 99 := (aDA_le _).mpr (fun g hg => Or.inr ((o1.2.2.1 g (by rw [serve_N]; exact hg)).2.2.1))
    have e2 : fX4_deepestAlive n u1 = some (nI (aDA (aServe t) (tN t))) := by rw [k_da hn r1 o1, serve_N]
    obtain ⟨Y', e3⟩ := ih (i + 1) m u1 (aServe t) (max acc (aDA (aServe t) (tN t))) (by omega) (by omega) r1 o1 (by omega)
    rw [lpS]
    generalize lpF (fX6_depthFor_F38 n uK uN (nI N)) m = kk at *
    unfold fX6_depthFor_F38
    simp only [e1, e2, Option.bind_some, show nI i + (1 : Int32) = nI (i + 1) from nI_1 i, maxI (show acc < 2 ^ 31 by omega) (show aDA (aServe t) (tN t) < 2 ^ 31 by omega)]
    rw [if_neg (show ¬ nI N ≤ nI i from nI_ge (by omega) (by omega)), aMx_s]
    exact ⟨Y', e3⟩
-- the reference
theorem m_depthS {n : Nat} {uM : MO} {t : TA} {w : Nat} {s0 : Nat → Int32} (z v m : Nat) (s a : Nat → Int32) (hn : 300 ≤ n) (hO : OkT t) (hw : w ≤ 40) (hM : RM s0 t) (hX : aMx w (sD t 99) 0 ≤ 99) (back : ∀ s : Nat → Int32, (∀ j, j < 48 → j ≠ 6 → s j = s0 j) → ∀ j, j < 48 → upd s 6 (s0 6) j = s0 j) (hv : v ≤ 99) (hle : v ≤ aMx w (sD t 99) 0) (hs : ∀ j, j < 48 → j ≠ 6 → s j = s0 j) (next : v < aMx w (sD t 99) 0 → ∀ s1 a1 : Nat → Int32, (∀ j, j < 48 → j ≠ 6 → s1 j = s0 j) → ∃ s' a' : Nat → Int32, lpF (fX7_depthFor_F23 n uM (nI w)) m (s1, a1, s0 6, -3, nI (v + 1)) = some (nI (aMx w (sD t 99) 0), s', a') ∧ ∀ j, j < 48 → s' j = s0 j) (hm : 0 < m) : ∃ s' a' : Nat → Int32, lpF (fX7_depthFor_F23 n uM (nI w)) (m + 1) (s, a, s0 6, -3, nI v) = some (nI (aMx w (sD t 99) 0), s', a') ∧ ∀ j, j < 48 → s' j = s0 j := by
  have o1 : OkT (sD t v) := ok_sD hO hv
  have rb : RM (upd s0 6 (nI v)) (sD t v) := RM_L (i := 2) (x := v) (by decide) hM
  have r1 : RM (upd s 6 (nI v)) (sD t v) := RM_congr o1.1 (fun j hj => by
    by_cases e : j = 6
    · subst e; rw [pk_us, pk_us]
    · rw [pk_un e, pk_un e]; exact hs j hj e) rb
  obtain ⟨a1, ea, ra⟩ := m_copy hn (upd s 6 (nI v)) a
  obtain ⟨s2, e2, r2⟩ := m_many (uM := uM) hn r1 o1 (k := w) (by omega)
  have o2 := ok_serves w o1
  obtain ⟨s3, e3, r3⟩ := m_copy hn a1 s2
  have hs3 : ∀ j, j < 48 → j ≠ 6 → s3 j = s0 j := fun j hj e => (r3 j hj).trans ((ra j hj).trans ((pk_un e).trans (hs j hj e)))
  have d1 := m_drowned (uM := uM) hn r1 o1
  have d2 := m_drowned (uM := uM) hn r2 o2
  have iff1 := depth_iff w t v hO hv
  rw [lpS]
  generalize hkk : lpF (fX7_depthFor_F23 n uM (nI w)) m = kk at *
  unfold fX7_depthFor_F23 fX7_depthFor_b81
  simp only [c6, ea, d1, e2, d2, e3, Option.bind_some, show nI v + (1 : Int32) = nI (v + 1) from nI_1 v]
  rw [if_neg (show ¬ (99 : Int32) < nI v from nI_nlt (a := 99) hv (by decide)), if_neg (show ¬ (0 : Int32) ≤ -3 by decide)]
  have m1 := mask_lt o1
  have m2 := mask_lt o2
  by_cases q : aMx w (sD t 99) 0 ≤ v
  · have hq : nI (tD (aServes w (sD t v))) = nI (tD (sD t v)) := congrArg nI (iff1.mpr q)
    rw [if_pos hq]
    have hvX : v = aMx w (sD t 99) 0 := by omega
    obtain ⟨m, rfl⟩ : ∃ x, m = x + 1 := ⟨m - 1, by omega⟩
    rw [← hkk, lpS]
    generalize lpF (fX7_depthFor_F23 n uM (nI w)) m = k2
    unfold fX7_depthFor_F23 fX7_depthFor_b99
    simp only [c6, if_pos (show (0 : Int32) ≤ nI v from nI_pos' (by omega)), ← hvX, ite_self]
    exact ⟨_, _, rfl, back s3 hs3⟩
  · have hq : ¬ nI (tD (aServes w (sD t v))) = nI (tD (sD t v)) := nI_inj (by omega) (by omega) (fun z => q (iff1.mp z))
    rw [if_neg hq]
    exact next (by omega) s3 a1 hs3
theorem m_depthL {n : Nat} {uM : MO} (hn : 300 ≤ n) {t : TA} (hO : OkT t) {w : Nat} (hw : w ≤ 40) {s0 : Nat → Int32} (hM : RM s0 t) : ∀ (k v m : Nat) (s a : Nat → Int32), v + k = 99 → k + 1 < m → v ≤ aMx w (sD t 99) 0 → (∀ j, j < 48 → j ≠ 6 → s j = s0 j) → ∃ s' a' : Nat → Int32, lpF (fX7_depthFor_F23 n uM (nI w)) m (s, a, s0 6, -3, nI v) = some (nI (aMx w (sD t 99) 0), s', a') ∧ ∀ j, j < 48 → s' j = s0 j := by
  have hX : aMx w (sD t 99) 0 ≤ 99 := aMx_99 _ _ _ (ok_sD hO (by decide)) (by decide)
  have back : ∀ s : Nat → Int32, (∀ j, j < 48 → j ≠ 6 → s j = s0 j) → ∀ j, j < 48 → upd s 6 (s0 6) j = s0 j := by
    intro s hs j hj
    by_cases e : j = 6
    · subst e; exact pk_us
    · exact (pk_un e).trans (hs j hj e)
  intro k
  induction k with
  | zero =>
    intro v m s a hv hm hle hs
    obtain ⟨m, rfl⟩ : ∃ x, m = x + 1 + 1 := ⟨m - 2, by omega⟩
    exact m_depthS 0 v (m + 1) s a hn hO hw hM hX back (by omega) hle hs (fun h => by omega) (by omega)
  | succ k ih =>
    intro v m s a hv hm hle hs
    obtain ⟨m, rfl⟩ : ∃ x, m = x + 1 + 1 := ⟨m - 2, by omega⟩
    refine m_depthS 0 v (m + 1) s a hn hO hw hM hX back (by omega) hle hs (fun h s1 a1 h1 => ?_) (by omega)
    exact ih (v + 1) (m + 1) s1 a1 (by omega) (by omega) (by omega) h1
theorem p_depthFor {n : Nat} (hn : 300 ≤ n) {uK : Int32} {uN uY : TB} {uM : MO} {s a : Nat → Int32} (h : RelT uN s) (x1 : Int32) : ∃ (A : Int32) (Y' : TB) (s' a' : Nat → Int32), fX6_depthFor n uK uN uY x1 = some (A, Y') ∧ fX7_depthFor n uM s a x1 = some (A, s', a') ∧ RelT uN s' := by
  obtain ⟨t, hK, hM, hO⟩ := h
  unfold fX6_depthFor fX7_depthFor
  rcases out_or x1 (lo := 1) (hi := 40) (by decide) (by decide) with h1 | ⟨w, hw1, hw, rfl⟩
  · rw [show fX6_within n x1 1 40 = some 0 from k_in0 (lo := 1) (hi := 40) h1, m_short0 h1]
    exact ⟨_, _, _, _, rfl, rfl, t, hK, hM, hO⟩
  rw [show fX6_within n (nI w) 1 40 = some 1 from k_in1 (lo := 1) (hi := 40) hw1 hw (by decide), m_short1 hw1 hw]
  obtain ⟨u1, e1, r1⟩ := k_copy n uY uN
  have rk : RK (upd u1.1 2 (nI 99), u1.2) (sD t 99) := RK_L (i := 2) (x := 99) (r1 t hO.1 hK)
  obtain ⟨Y', e2⟩ := k_depthL hn (uK := uK) (uN := uN) hw w 0 n _ _ 0 (by omega) (by omega) rk (ok_sD hO (by decide)) (by decide)
  obtain ⟨s', a', e3, r3⟩ := m_depthL (uM := uM) hn hO hw hM 99 0 n s a (by omega) (by omega) (Nat.zero_le _) (fun _ _ _ => rfl)
  simp only [e1, Option.bind_some, if_neg i10, c2, c6]
  exact ⟨_, Y', s', a', e2, e3, t, hK, RM_congr hO.1 r3 hM, hO⟩
