/-! PURE, 19: the fewest with whom it is told -/
def dM (t : TA) (S : Nat) : Nat := tD t ||| ((2 ^ tN t - 1) ^^^ S)
/-- only those of S are there -/
def dS (t : TA) (S : Nat) : TA := setD t (dM t S)
theorem dM_bit {t : TA} {S g : Nat} (hS : S < 2 ^ tN t) : (dM t S).testBit g = ((tD t).testBit g || (decide (g < tN t) && !S.testBit g)) := by
  unfold dM
  rw [Nat.testBit_or, Nat.testBit_xor, Nat.testBit_two_pow_sub_one]
  by_cases hg : g < tN t
  · simp [hg]
  · have : S.testBit g = false := Nat.testBit_lt_two_pow (Nat.lt_of_lt_of_le hS (Nat.pow_le_pow_right (by decide) (by omega)))
    simp [hg, this]
theorem dM_lt {t : TA} (hO : OkT t) {S : Nat} (hS : S < 2 ^ tN t) : dM t S < 2 ^ tN t := by
  have h2 := Nat.two_pow_pos (tN t)
  exact Nat.or_lt_two_pow hO.2.2.2.1 (Nat.xor_lt_two_pow (by omega) hS)
theorem ok_dS {t : TA} (hO : OkT t) {S : Nat} (hS : S < 2 ^ tN t) : OkT (dS t S) := ⟨hO.1, hO.2.1, hO.2.2.1, dM_lt hO hS, hO.2.2.2.2⟩
/-- TOLD behind w COURSES with those of S -/
def fS (t : TA) (w S : Nat) : Nat := tO (aServes w (dS t S))
-- who holds none of the next pieces
def Stk (q : Nat) (t : TA) : Prop := tO t ≤ q ∧ ∀ g, g < tN t → tH t g = q % 8 → (tD t).testBit g = true
theorem stk_tells {q : Nat} : ∀ (b : Nat) (t : TA), Stk q t → Stk q (aTells b t) := by
  intro b
  induction b with
  | zero => intro t h; exact h
  | succ b ih =>
    intro t h
    rw [tells_s]
    cases hT : aTeller t with
    | none => exact h
    | some g =>
      refine ih _ ⟨?_, h.2⟩
      obtain ⟨-, hg, hc⟩ := fst_some _ _ hT
      show min 99999 (tO t + 1) ≤ q
      have : tO t ≠ q := by
        intro e
        unfold canTell at hc
        simp only [Bool.and_eq_true, decide_eq_true_eq, Bool.not_eq_true'] at hc
        have := h.2 g (by omega) (by rw [hc.1.1, e])
        rw [this] at hc
        exact absurd hc.1.2 (by decide)
      have := h.1
      omega
theorem stk_serve {q : Nat} {t : TA} (h : Stk q t) : Stk q (aServe t) := by
  have h1 : Stk q (mid t) := stk_tells _ _ (show Stk q (aPh t (tN t)) from h)
  exact ⟨h1.1, fun g hg hh => aDr_keep (mid t) g _ (h1.2 g hg hh)⟩
theorem stk_serves {q : Nat} : ∀ (k : Nat) (t : TA), Stk q t → Stk q (aServes k t) := by
  intro k
  induction k with
  | zero => intro t h; exact h
  | succ k ih => intro t h; exact ih _ (stk_serve h)
theorem tells_L : ∀ (b : Nat) (t : TA), tL (aTells b t) = tL t ∧ tO (aTells b t) ≤ tO t + b := by
  intro b
  induction b with
  | zero => intro t; exact ⟨rfl, Nat.le_refl _⟩
  | succ b ih =>
    intro t
    rw [tells_s]
    cases aTeller t with
    | none => exact ⟨rfl, by show tO t ≤ tO t + (b + 1); omega⟩
    | some g =>
      obtain ⟨i1, i2⟩ := ih (aTell t g)
      refine ⟨i1, ?_⟩
      have : tO (aTell t g) = min 99999 (tO t + 1) := rfl
      show tO (aTells b (aTell t g)) ≤ _
      omega
theorem serve_L (t : TA) : tL (aServe t) = tL t ∧ tO (aServe t) ≤ tO t + tL t 0 := tells_L (tL t 0) (aPh t (tN t))
theorem serves_le : ∀ (k : Nat) (t : TA), tO (aServes k t) ≤ tO t + k * tL t 0 := by
  intro k
  induction k with
  | zero => intro t; show tO t ≤ _; omega
  | succ k ih =>
    intro t
    have h1 := ih (aServe t)
    obtain ⟨e, h2⟩ := serve_L t
    rw [e] at h1
    show tO (aServes k (aServe t)) ≤ _
    rw [Nat.succ_mul]
    omega
theorem serves_O : ∀ (k : Nat) {t : TA}, OkT t → tO t ≤ tO (aServes k t) := by
  intro k
  induction k with
  | zero => intro t _; exact Nat.le_refl _
  | succ k ih => intro t h; exact Nat.le_trans (serve_monoO h) (ih (ok_serve h))
-- who holds none of the wanted pieces changes nothing
def Sm (o0 A P : Nat) (u w : TA) : Prop := tL u = tL w ∧ tN u = tN w ∧ tK u = tK w ∧ tH u = tH w ∧ tO u = tO w ∧ o0 ≤ tO u ∧ ∀ g, g < tN u → (A.testBit g = true ∧ tG u g = tG w g ∧ (tD u).testBit g = (tD w).testBit g) ∨ (A.testBit g = false ∧ (tD w).testBit g = true ∧ ((tD u).testBit g = true ∨ P.testBit (tH u g) = false))
def Jm (v o0 A P : Nat) (u w : TA) : Prop := (v ≤ tO u ∧ v ≤ tO w) ∨ (tO u < v ∧ Sm o0 A P u w)
theorem fst_congr {P Q : Nat → Bool} : ∀ (k i : Nat), (∀ g, i ≤ g → g < i + k → P g = Q g) → fst P k i = fst Q k i := by
  intro k
  induction k with
  | zero => intro i _; rfl
  | succ k ih =>
    intro i h
    show (if P i then some i else fst P k (i + 1)) = (if Q i then some i else fst Q k (i + 1))
    rw [h i (by omega) (by omega), ih (i + 1) (fun g h1 h2 => h g (by omega) (by omega))]
theorem sm_ph {o0 A P : Nat} {u w : TA} (h : Sm o0 A P u w) : Sm o0 A P (aPh u (tN u)) (aPh w (tN w)) := by
  obtain ⟨h1, h2, h3, h4, h5, h6, h7⟩ := h
  refine ⟨h1, h2, h3, h4, h5, h6, fun g hg => ?_⟩
  have hg' : g < tN u := hg
  rcases h7 g hg with ⟨a, b, c⟩ | z
  · refine Or.inl ⟨a, ?_, c⟩
    show (if g < tN u then aG1 u g else tG u g) = (if g < tN w then aG1 w g else tG w g)
    rw [if_pos hg', if_pos (h2 ▸ hg')]
    unfold aG1 aP aM
    rw [h1, h3, h4, h5, b, c]
  · exact Or.inr z
theorem sm_can {v o0 A P : Nat} (hP : ∀ o, o0 ≤ o → o < v → P.testBit (o % 8) = true) {u w : TA} (h : Sm o0 A P u w) (hv : tO u < v) {g : Nat} (hg : g < tN u) : canTell u g = canTell w g := by
  obtain ⟨h1, h2, h3, h4, h5, h6, h7⟩ := h
  unfold canTell aNd
  rcases h7 g hg with ⟨a, b, c⟩ | ⟨a, b, c⟩
  · rw [h1, h3, h4, h5, b, c]
  · rw [b]
    rcases c with c | c
    · rw [c]; simp
    · have : ¬ tH u g = tO u % 8 := fun e => by
        rw [e, hP _ h6 hv] at c
        exact absurd c (by decide)
      simp [this]
theorem sm_teller {v o0 A P : Nat} (hP : ∀ o, o0 ≤ o → o < v → P.testBit (o % 8) = true) {u w : TA} (h : Sm o0 A P u w) (hv : tO u < v) : aTeller u = aTeller w := by
  unfold aTeller
  rw [← h.2.1]
  exact fst_congr _ _ (fun g _ hg => sm_can hP h hv (by omega))
theorem sm_tell {v o0 A P : Nat} (hP : ∀ o, o0 ≤ o → o < v → P.testBit (o % 8) = true) {u w : TA} (hOu : OkT u) (h : Sm o0 A P u w) (hv : tO u < v) {g : Nat} (hT : aTeller w = some g) : Jm v o0 A P (aTell u g) (aTell w g) := by
  obtain ⟨-, hg, hc⟩ := fst_some _ _ hT
  obtain ⟨h1, h2, h3, h4, h5, h6, h7⟩ := h
  have hgu : g < tN u := by omega
  have e5 : tO (aTell u g) = tO (aTell w g) := by show min 99999 (tO u + 1) = min 99999 (tO w + 1); rw [h5]
  by_cases q : v ≤ tO (aTell u g)
  · exact Or.inl ⟨q, e5 ▸ q⟩
  · refine Or.inr ⟨by omega, h1, h2, h3, h4, e5, ?_, fun j hj => ?_⟩
    · have := hOu.2.2.2.2
      show o0 ≤ min 99999 (tO u + 1)
      omega
    · rcases h7 j hj with ⟨a, b, c⟩ | z
      · refine Or.inl ⟨a, ?_, c⟩
        show (if j = g then tG u g - aCo u g else tG u j) = (if j = g then tG w g - aCo w g else tG w j)
        by_cases e : j = g
        · subst e
          rw [if_pos rfl, if_pos rfl]
          unfold aCo
          rw [h1, h3, b]
        · rw [if_neg e, if_neg e, b]
      · exact Or.inr z
theorem jm_tells {v o0 A P : Nat} (hP : ∀ o, o0 ≤ o → o < v → P.testBit (o % 8) = true) : ∀ (b : Nat) (u w : TA), OkT u → OkT w → Jm v o0 A P u w → Jm v o0 A P (aTells b u) (aTells b w) := by
  intro b
  induction b with
  | zero => intro u w _ _ h; exact h
  | succ b ih =>
    intro u w hu hw h
    rcases h with ⟨z1, z2⟩ | ⟨z1, z2⟩
    · exact Or.inl ⟨Nat.le_trans z1 (tells_monoO _ hu), Nat.le_trans z2 (tells_monoO _ hw)⟩
    · rw [tells_s, tells_s, sm_teller hP z2 z1]
      cases hT : aTeller w with
      | none => exact Or.inr ⟨z1, z2⟩
      | some g => exact ih _ _ (ok_tell hu g) (ok_tell hw g) (sm_tell hP hu z2 z1 hT)
theorem jm_serve {v o0 A P : Nat} (hP : ∀ o, o0 ≤ o → o < v → P.testBit (o % 8) = true) {u w : TA} (hu : OkT u) (hw : OkT w) (h : Jm v o0 A P u w) : Jm v o0 A P (aServe u) (aServe w) := by
  rcases h with ⟨z1, z2⟩ | ⟨z1, z2⟩
  · exact Or.inl ⟨Nat.le_trans z1 (serve_monoO hu), Nat.le_trans z2 (serve_monoO hw)⟩
  · have e0 : tL u 0 = tL w 0 := by rw [z2.1]
    have h1 : Jm v o0 A P (mid u) (mid w) := by
      unfold mid
      rw [e0]
      exact jm_tells hP _ _ _ (ok_ph hu _) (ok_ph hw _) (Or.inr ⟨z1, sm_ph z2⟩)
    rcases h1 with q | ⟨q1, h1, h2, h3, h4, h5, h6, h7⟩
    · exact Or.inl q
    · refine Or.inr ⟨q1, h1, h2, h3, h4, h5, h6, fun g hg => ?_⟩
      have hgu : g < tN (mid u) := hg
      show (_ ∧ _ ∧ (aDr (mid u) (tN (mid u))).testBit g = (aDr (mid w) (tN (mid w))).testBit g) ∨ (_ ∧ (aDr (mid w) (tN (mid w))).testBit g = true ∧ ((aDr (mid u) (tN (mid u))).testBit g = true ∨ _))
      rcases h7 g hg with ⟨a, b, c⟩ | ⟨a, b, c⟩
      · refine Or.inl ⟨a, b, ?_⟩
        rw [dr_bit, dr_bit, c, h1, h2, b]
      · refine Or.inr ⟨a, aDr_keep _ _ _ b, ?_⟩
        rcases c with c | c
        · exact Or.inl (aDr_keep _ _ _ c)
        · exact Or.inr c
theorem jm_serves {v o0 A P : Nat} (hP : ∀ o, o0 ≤ o → o < v → P.testBit (o % 8) = true) : ∀ (k : Nat) (u w : TA), OkT u → OkT w → Jm v o0 A P u w → Jm v o0 A P (aServes k u) (aServes k w) := by
  intro k
  induction k with
  | zero => intro u w _ _ h; exact h
  | succ k ih => intro u w hu hw h; exact ih _ _ (ok_serve hu) (ok_serve hw) (jm_serve hP hu hw h)
-- the wanted pieces, and who holds them
def Pw (t : TA) (v P : Nat) : Prop := ∀ p, P.testBit p = true ↔ ∃ i, i < 8 ∧ tO t + i < v ∧ p = (tO t + i) % 8
def Hw (t : TA) (P H : Nat) : Prop := ∀ g, H.testBit g = true ↔ g < tN t ∧ (tD t).testBit g = false ∧ P.testBit (tH t g) = true
theorem Pw_mod {t : TA} {v P : Nat} (h : Pw t v P) : ∀ o, tO t ≤ o → o < v → P.testBit (o % 8) = true := by
  intro o h1 h2
  exact (h _).mpr ⟨(o - tO t) % 8, by omega, by omega, by omega⟩
theorem and_lt {a b k : Nat} (h : a < 2 ^ k) : a &&& b < 2 ^ k := Nat.lt_of_le_of_lt Nat.and_le_left h
theorem only_H {t : TA} (hO : OkT t) {v w P H S : Nat} (hP : Pw t v P) (hH : Hw t P H) (hS : S < 2 ^ tN t) (hv : tO t < v) (h : v ≤ fS t w S) : v ≤ fS t w (S &&& H) := by
  have hA : S &&& H < 2 ^ tN t := and_lt hS
  have j0 : Jm v (tO t) (S &&& H) P (dS t S) (dS t (S &&& H)) := by
    refine Or.inr ⟨hv, rfl, rfl, rfl, rfl, rfl, Nat.le_refl _, fun g hg => ?_⟩
    have hg' : g < tN t := hg
    show (_ ∧ _ ∧ (dM t S).testBit g = (dM t (S &&& H)).testBit g) ∨ (_ ∧ (dM t (S &&& H)).testBit g = true ∧ ((dM t S).testBit g = true ∨ P.testBit (tH t g) = false))
    rw [dM_bit hS, dM_bit hA, Nat.testBit_and]
    cases hs : S.testBit g with
    | false => right; simp [hg']
    | true =>
      cases hh : H.testBit g with
      | true => left; simp; rfl
      | false =>
        right
        refine ⟨by simp, by simp [hg'], ?_⟩
        cases hd : (tD t).testBit g with
        | true => left; simp
        | false =>
          right
          cases hp : P.testBit (tH t g) with
          | false => rfl
          | true => rw [(hH g).mpr ⟨hg', hd, hp⟩] at hh; exact absurd hh (by decide)
  rcases jm_serves (Pw_mod hP) w _ _ (ok_dS hO hS) (ok_dS hO hA) j0 with z | ⟨z, -⟩
  · exact z.2
  · have h' : v ≤ tO (aServes w (dS t S)) := h
    omega
theorem has_all {t : TA} {v w S i : Nat} (hS : S < 2 ^ tN t) (hi : tO t + i < v) (h : v ≤ fS t w S) : ∃ g, g < tN t ∧ S.testBit g = true ∧ tH t g = (tO t + i) % 8 := by
  apply Classical.byContradiction
  intro hn
  have st : Stk (tO t + i) (dS t S) := by
    refine ⟨Nat.le_add_right _ _, fun g hg hh => ?_⟩
    have hg' : g < tN t := hg
    show (dM t S).testBit g = true
    rw [dM_bit hS]
    cases hs : S.testBit g with
    | false => simp [hg']
    | true => exact absurd ⟨g, hg', hs, hh⟩ hn
  have := (stk_serves w _ st).1
  have h' : v ≤ tO (aServes w (dS t S)) := h
  omega
/-- whose pieces are these -/
def Ps (t : TA) (S Q : Nat) : Prop := ∀ p, Q.testBit p = true ↔ ∃ g, g < tN t ∧ S.testBit g = true ∧ tH t g = p
/-- what the class looks for -/
def Cs (t : TA) (v w P H S : Nat) : Prop := S ≠ 0 ∧ S &&& H = S ∧ Ps t S P ∧ v ≤ fS t w S
theorem bitN_and (S H g : Nat) : bitN (S &&& H) g ≤ bitN S g := by
  unfold bitN
  rw [Nat.testBit_and]
  cases S.testBit g <;> cases H.testBit g <;> decide
theorem bit_lt8 {S g : Nat} (hS : S < 256) (h : S.testBit g = true) : g < 8 := by
  apply Classical.byContradiction
  intro q
  have : S < 2 ^ g := Nat.lt_of_lt_of_le hS (show 2 ^ 8 ≤ 2 ^ g from Nat.pow_le_pow_right (by decide) (by omega))
  rw [Nat.testBit_lt_two_pow this] at h
  exact absurd h (by decide)
theorem pc_less {S H : Nat} (hS : S < 256) (h : S &&& H ≠ S) : pc (S &&& H) < pc S := by
  have : ∃ g, S.testBit g = true ∧ H.testBit g = false := by
    apply Classical.byContradiction
    intro hn
    apply h
    apply Nat.eq_of_testBit_eq
    intro g
    rw [Nat.testBit_and]
    cases hs : S.testBit g with
    | false => rfl
    | true =>
      cases hh : H.testBit g with
      | true => rfl
      | false => exact absurd ⟨g, hs, hh⟩ hn
  obtain ⟨g, hs, hh⟩ := this
  have h8 := bit_lt8 hS hs
  have lt : bitN (S &&& H) g < bitN S g := by
    unfold bitN
    rw [Nat.testBit_and, hs, hh]
    decide
  have b0 := bitN_and S H 0
  have b1 := bitN_and S H 1
  have b2 := bitN_and S H 2
  have b3 := bitN_and S H 3
  have b4 := bitN_and S H 4
  have b5 := bitN_and S H 5
  have b6 := bitN_and S H 6
  have b7 := bitN_and S H 7
  unfold pc
  rcases (show g = 0 ∨ g = 1 ∨ g = 2 ∨ g = 3 ∨ g = 4 ∨ g = 5 ∨ g = 6 ∨ g = 7 by omega) with rfl | rfl | rfl | rfl | rfl | rfl | rfl | rfl <;> omega
theorem p2_le {N : Nat} (h : N ≤ 8) : 2 ^ N ≤ 256 := Nat.pow_le_pow_right (n := 2) (by decide) h
theorem min_C {t : TA} (hO : OkT t) {v w P H S : Nat} (hP : Pw t v P) (hH : Hw t P H) (hS : S < 2 ^ tN t) (hv : tO t < v) (h : v ≤ fS t w S) (hmin : ∀ S', S' < 2 ^ tN t → v ≤ fS t w S' → pc S ≤ pc S') : Cs t v w P H S := by
  have h256 : S < 256 := Nat.lt_of_lt_of_le hS (p2_le hO.1)
  have hSH : S &&& H = S := by
    apply Classical.byContradiction
    intro q
    have := hmin (S &&& H) (and_lt hS) (only_H hO hP hH hS hv h)
    have := pc_less h256 q
    omega
  have hsub : ∀ g, S.testBit g = true → H.testBit g = true := by
    intro g hg
    have := congrArg (fun z => Nat.testBit z g) hSH
    simp only [Nat.testBit_and, hg, Bool.true_and] at this
    exact this
  refine ⟨?_, hSH, ?_, h⟩
  · rintro rfl
    obtain ⟨g, -, hg, -⟩ := has_all (i := 0) hS hv h
    rw [Nat.zero_testBit] at hg
    exact absurd hg (by decide)
  · intro p
    constructor
    · intro hp
      obtain ⟨i, -, hi, rfl⟩ := (hP p).mp hp
      exact has_all hS hi h
    · rintro ⟨g, hg, hs, rfl⟩
      exact ((hH g).mp (hsub g hs)).2.2
/-- the least by size, then by number -/
def Lst (n : Nat) (R : Nat → Prop) : Option Nat → Prop
  | none => ∀ S, S < n → ¬ R S
  | some b => b < n ∧ R b ∧ ∀ S, S < n → R S → pc b < pc S ∨ (pc b = pc S ∧ b ≤ S)
theorem lst_eq {t : TA} (hO : OkT t) {v w P H : Nat} (hP : Pw t v P) (hH : Hw t P H) (hv : tO t < v) {X Y : Option Nat} (hX : Lst (2 ^ tN t) (fun S => v ≤ fS t w S) X) (hY : Lst (2 ^ tN t) (Cs t v w P H) Y) : X = Y := by
  cases X with
  | none =>
    cases Y with
    | none => rfl
    | some b => exact absurd hY.2.1.2.2.2 (hX b hY.1)
  | some a =>
    have ca : Cs t v w P H a := min_C hO hP hH hX.1 hv hX.2.1 (fun S' h1 h2 => by
      rcases hX.2.2 S' h1 h2 with q | q <;> omega)
    cases Y with
    | none => exact absurd ca (hY a hX.1)
    | some b =>
      have q1 := hX.2.2 b hY.1 hY.2.1.2.2.2
      have q2 := hY.2.2 a hX.1 ca
      have : a = b := by omega
      rw [this]
