/-! PURE, 20: strangersFor -/
theorem evI : ∀ N, N < 9 → (((1 : Int32) <<< (nI N &&& 31)) = nI (2 ^ N)) ∧ (((1 : Int32) <<< (nI N &&& 31)) - (1 : Int32)) = nI (2 ^ N - 1) := by decide +kernel
theorem coI : ∀ N, N < 9 → ∀ S, S < 256 → S < 2 ^ N → (nI (2 ^ N - 1) &&& (nI S ^^^ (-1 : Int32))) = nI ((2 ^ N - 1) ^^^ S) := by decide +kernel
theorem pcN : ∀ N, N < 9 → ∀ S, S < 256 → S < 2 ^ N → pc S ≤ N := by decide +kernel
theorem nI_or (a b : Nat) : nI a ||| nI b = nI (a ||| b) := by
  apply Int32.toBitVec_inj.mp
  show BitVec.ofNat 32 a ||| BitVec.ofNat 32 b = BitVec.ofNat 32 (a ||| b)
  exact BitVec.ofNat_or.symm
-- the wanted pieces
def aPU (o : Nat) : Nat → Nat
  | 0 => 0
  | i + 1 => aPU o i ||| 2 ^ ((o + i) % 8)
theorem aPU_bit (o p : Nat) : ∀ j, (aPU o j).testBit p = true ↔ ∃ i, i < j ∧ p = (o + i) % 8 := by
  intro j
  induction j with
  | zero =>
    show (0 : Nat).testBit p = true ↔ _
    rw [Nat.zero_testBit]
    exact ⟨fun h => absurd h (by decide), fun ⟨i, h, _⟩ => absurd h (Nat.not_lt_zero i)⟩
  | succ j ih =>
    show (aPU o j ||| 2 ^ ((o + j) % 8)).testBit p = true ↔ _
    rw [Nat.testBit_or, Bool.or_eq_true, ih, Nat.testBit_two_pow, decide_eq_true_eq]
    constructor
    · rintro (⟨i, hi, e⟩ | e)
      · exact ⟨i, by omega, e⟩
      · exact ⟨j, by omega, e.symm⟩
    · rintro ⟨i, hi, e⟩
      by_cases q : i = j
      · subst q; exact Or.inr e.symm
      · exact Or.inl ⟨i, by omega, e⟩
theorem aPU_lt (o : Nat) : ∀ j, aPU o j < 256 := by
  intro j
  induction j with
  | zero => exact (by decide : (0 : Nat) < 256)
  | succ j ih => exact Nat.or_lt_two_pow (n := 8) ih (Nat.pow_lt_pow_right (by decide) (Nat.mod_lt _ (by decide)))
theorem k_puL {n : Nat} {u : TB} {t : TA} (hR : RK u t) (hO : OkT t) {v : Nat} (hv : v ≤ 99999) : ∀ (k i m : Nat), i + k = min 8 (v - tO t) → k < m → lpF (fX4_piecesUntil_F4 n u (nI v)) m (nI (aPU (tO t) i), nI i) = some (nI (aPU (tO t) (min 8 (v - tO t)))) := by
  have ho := hO.2.2.2.2
  intro k
  induction k with
  | zero =>
    intro i m hi hm
    obtain ⟨m, rfl⟩ : ∃ x, m = x + 1 := ⟨m - 1, by omega⟩
    have e : i = min 8 (v - tO t) := by omega
    rw [lpS]
    unfold fX4_piecesUntil_F4
    simp only [hR.2.2.2.2.2.1, nI_add]
    by_cases q : 8 ≤ i
    · rw [if_pos (show (8 : Int32) ≤ nI i from nI_le (a := 8) q (by omega)), ← e]
    · rw [if_neg (show ¬ (8 : Int32) ≤ nI i from nI_ge (b := 8) (by omega) (by decide)), if_pos (nI_le (by omega) (by omega)), ← e]
  | succ k ih =>
    intro i m hi hm
    obtain ⟨m, rfl⟩ : ∃ x, m = x + 1 := ⟨m - 1, by omega⟩
    have ih' := ih (i + 1) m (by omega) (by omega)
    rw [lpS]
    generalize lpF (fX4_piecesUntil_F4 n u (nI v)) m = kk at *
    unfold fX4_piecesUntil_F4
    simp only [hR.2.2.2.2.2.1, nI_add, show nI i + (1 : Int32) = nI (i + 1) from nI_1 i, show nI (tO t + i) - nI (tO t + i) / (8 : Int32) * (8 : Int32) = nI ((tO t + i) % 8) from pk_rem (d := 8) (by omega) (by decide) (by decide), orI _ (aPU_lt (tO t) i) _ (show (tO t + i) % 8 < 8 from Nat.mod_lt _ (by decide))]
    rw [if_neg (show ¬ (8 : Int32) ≤ nI i from nI_ge (b := 8) (by omega) (by decide)), if_neg (nI_ge (by omega) (by omega))]
    exact ih'
theorem k_pu {n : Nat} (hn : 300 ≤ n) {u : TB} {t : TA} (hR : RK u t) (hO : OkT t) {v : Nat} (hv : v ≤ 99999) : ∃ P, P < 256 ∧ Pw t v P ∧ fX4_piecesUntil n u (nI v) = some (nI P) := by
  refine ⟨_, aPU_lt _ _, fun p => ?_, k_puL hR hO hv (min 8 (v - tO t)) 0 n (by omega) (by omega)⟩
  rw [aPU_bit]
  constructor
  · rintro ⟨i, hi, e⟩; exact ⟨i, by omega, by omega, e⟩
  · rintro ⟨i, h1, h2, e⟩; exact ⟨i, by omega, e⟩
-- who holds them
def aHo (t : TA) (P : Nat) : Nat → Nat
  | 0 => 0
  | i + 1 => if (tD t).testBit i = false ∧ P.testBit (tH t i) = true then aHo t P i ||| 2 ^ i else aHo t P i
theorem aHo_bit (t : TA) (P g : Nat) : ∀ i, (aHo t P i).testBit g = true ↔ g < i ∧ (tD t).testBit g = false ∧ P.testBit (tH t g) = true := by
  intro i
  induction i with
  | zero =>
    show (0 : Nat).testBit g = true ↔ _
    rw [Nat.zero_testBit]
    exact ⟨fun h => absurd h (by decide), fun h => absurd h.1 (Nat.not_lt_zero g)⟩
  | succ i ih =>
    show (if (tD t).testBit i = false ∧ P.testBit (tH t i) = true then aHo t P i ||| 2 ^ i else aHo t P i).testBit g = true ↔ _
    split
    · rename_i h
      rw [Nat.testBit_or, Bool.or_eq_true, ih, Nat.testBit_two_pow, decide_eq_true_eq]
      constructor
      · rintro (⟨h1, h2⟩ | e)
        · exact ⟨by omega, h2⟩
        · subst e; exact ⟨by omega, h⟩
      · rintro ⟨h1, h2⟩
        by_cases q : i = g
        · exact Or.inr q
        · exact Or.inl ⟨by omega, h2⟩
    · rename_i h
      rw [ih]
      constructor
      · rintro ⟨h1, h2⟩; exact ⟨by omega, h2⟩
      · rintro ⟨h1, h2⟩
        by_cases q : i = g
        · subst q; exact absurd h2 h
        · exact ⟨by omega, h2⟩
theorem aHo_lt (t : TA) (P : Nat) : ∀ i, i ≤ 8 → aHo t P i < 256 := by
  intro i
  induction i with
  | zero => intro _; exact (by decide : (0 : Nat) < 256)
  | succ i ih =>
    intro hi
    show (if _ then _ else _) < 256
    split
    · exact Nat.or_lt_two_pow (n := 8) (ih (by omega)) (Nat.pow_lt_pow_right (by decide) (by omega))
    · exact ih (by omega)
theorem one_bit (m g : Nat) : (nI (bitN m g) = (1 : Int32)) = (m.testBit g = true) := nI_of_bit m g
theorem k_hoL {n : Nat} {u : TB} {t : TA} (hR : RK u t) (hO : OkT t) {P : Nat} (hP : P < 256) : ∀ (k i m : Nat), i + k = tN t → k < m → lpF (fX4_holdersOf_F4 n u (nI P)) m (nI (aHo t P i), nI i) = some (nI (aHo t P (tN t))) := by
  have hN := hO.1
  intro k
  induction k with
  | zero =>
    intro i m hi hm
    obtain ⟨m, rfl⟩ : ∃ x, m = x + 1 := ⟨m - 1, by omega⟩
    have e : i = tN t := by omega
    rw [lpS]
    unfold fX4_holdersOf_F4
    rw [hR.2.2.2.1, if_pos (nI_le (by omega) (by omega)), e]
  | succ k ih =>
    intro i m hi hm
    obtain ⟨m, rfl⟩ : ∃ x, m = x + 1 := ⟨m - 1, by omega⟩
    have h8 : i < 8 := by omega
    obtain ⟨-, qh, -, -⟩ := hR.2.1 i (by omega)
    have hh7 := (hO.2.2.1 i (by omega)).2.1
    have ih' := ih (i + 1) m (by omega) (by omega)
    have ed : aHo t P (i + 1) = if (tD t).testBit i = false ∧ P.testBit (tH t i) = true then aHo t P i ||| 2 ^ i else aHo t P i := rfl
    rw [lpS]
    generalize lpF (fX4_holdersOf_F4 n u (nI P)) m = kk at *
    unfold fX4_holdersOf_F4 fX4_holdersOf_b40
    simp only [k_isDrowned hR hO h8, Option.bind_some, nI_cl8 h8, qh, hR.2.2.2.1, show nI i + (1 : Int32) = nI (i + 1) from nI_1 i, bitI P hP _ (show tH t i < 8 by omega), orI _ (aHo_lt t P i (by omega)) i h8, nI_of_bit0, one_bit]
    rw [if_neg (show ¬ nI (tN t) ≤ nI i from nI_ge (by omega) (by omega)), if_neg (nI_ok2 h8 (by decide))]
    cases hb : (tD t).testBit i with
    | true =>
      rw [ed, hb, if_neg (fun z => absurd z.1 (by decide))] at ih'
      simpa using ih'
    | false =>
      cases hp : P.testBit (tH t i) with
      | true =>
        rw [ed, hb, hp, if_pos ⟨rfl, rfl⟩] at ih'
        simpa using ih'
      | false =>
        rw [ed, hb, hp, if_neg (fun z => absurd z.2 (by decide))] at ih'
        simpa using ih'
theorem k_ho {n : Nat} (hn : 300 ≤ n) {u : TB} {t : TA} (hR : RK u t) (hO : OkT t) {P : Nat} (hP : P < 256) : ∃ H, H < 256 ∧ Hw t P H ∧ fX4_holdersOf n u (nI P) = some (nI H) := by
  have hN := hO.1
  exact ⟨_, aHo_lt t P _ hN, fun g => aHo_bit t P g _, k_hoL hR hO hP (tN t) 0 n (by omega) (by omega)⟩
-- the pieces of a set
def aPsn (t : TA) (S : Nat) : Nat → Nat
  | 0 => 0
  | i + 1 => if S.testBit i then aPsn t S i ||| 2 ^ tH t i else aPsn t S i
theorem aPsn_bit (t : TA) (S p : Nat) : ∀ i, (aPsn t S i).testBit p = true ↔ ∃ g, g < i ∧ S.testBit g = true ∧ tH t g = p := by
  intro i
  induction i with
  | zero =>
    show (0 : Nat).testBit p = true ↔ _
    rw [Nat.zero_testBit]
    exact ⟨fun h => absurd h (by decide), fun ⟨g, h, _⟩ => absurd h (Nat.not_lt_zero g)⟩
  | succ i ih =>
    show (if S.testBit i then aPsn t S i ||| 2 ^ tH t i else aPsn t S i).testBit p = true ↔ _
    split
    · rename_i h
      rw [Nat.testBit_or, Bool.or_eq_true, ih, Nat.testBit_two_pow, decide_eq_true_eq]
      constructor
      · rintro (⟨g, h1, h2⟩ | e)
        · exact ⟨g, by omega, h2⟩
        · exact ⟨i, by omega, h, e⟩
      · rintro ⟨g, h1, h2⟩
        by_cases q : g = i
        · subst q; exact Or.inr h2.2
        · exact Or.inl ⟨g, by omega, h2⟩
    · rename_i h
      rw [ih]
      constructor
      · rintro ⟨g, h1, h2⟩; exact ⟨g, by omega, h2⟩
      · rintro ⟨g, h1, h2⟩
        by_cases q : g = i
        · subst q; exact absurd h2.1 h
        · exact ⟨g, by omega, h2⟩
theorem aPsn_lt {t : TA} (hO : OkT t) (S : Nat) : ∀ i, i ≤ tN t → aPsn t S i < 256 := by
  intro i
  induction i with
  | zero => intro _; exact (by decide : (0 : Nat) < 256)
  | succ i ih =>
    intro hi
    have := (hO.2.2.1 i (by omega)).2.1
    show (if _ then _ else _) < 256
    split
    · exact Nat.or_lt_two_pow (n := 8) (ih (by omega)) (Nat.pow_lt_pow_right (by decide) (by omega))
    · exact ih (by omega)
theorem k_psL {n : Nat} {u : TB} {t : TA} (hR : RK u t) (hO : OkT t) {S : Nat} (hS : S < 256) : ∀ (k i m : Nat), i + k = tN t → k < m → lpF (fX4_piecesOf_F4 n u (nI S)) m (nI (aPsn t S i), nI i) = some (nI (aPsn t S (tN t))) := by
  have hN := hO.1
  intro k
  induction k with
  | zero =>
    intro i m hi hm
    obtain ⟨m, rfl⟩ : ∃ x, m = x + 1 := ⟨m - 1, by omega⟩
    have e : i = tN t := by omega
    rw [lpS]
    unfold fX4_piecesOf_F4
    rw [hR.2.2.2.1, if_pos (nI_le (by omega) (by omega)), e]
  | succ k ih =>
    intro i m hi hm
    obtain ⟨m, rfl⟩ : ∃ x, m = x + 1 := ⟨m - 1, by omega⟩
    have h8 : i < 8 := by omega
    obtain ⟨-, qh, -, -⟩ := hR.2.1 i (by omega)
    have hh7 := (hO.2.2.1 i (by omega)).2.1
    have ih' := ih (i + 1) m (by omega) (by omega)
    have ed : aPsn t S (i + 1) = if S.testBit i then aPsn t S i ||| 2 ^ tH t i else aPsn t S i := rfl
    rw [lpS]
    generalize lpF (fX4_piecesOf_F4 n u (nI S)) m = kk at *
    unfold fX4_piecesOf_F4 fX4_piecesOf_b32
    simp only [nI_cl8 h8, qh, hR.2.2.2.1, show nI i + (1 : Int32) = nI (i + 1) from nI_1 i, bitI S hS i h8, orI _ (aPsn_lt hO S i (by omega)) _ (show tH t i < 8 by omega), one_bit]
    rw [if_neg (show ¬ nI (tN t) ≤ nI i from nI_ge (by omega) (by omega)), if_neg (nI_ok2 h8 (by decide))]
    cases hb : S.testBit i with
    | true =>
      rw [ed, hb, if_pos rfl] at ih'
      simpa using ih'
    | false =>
      rw [ed, hb] at ih'
      simpa using ih'
theorem k_ps {n : Nat} (hn : 300 ≤ n) {u : TB} {t : TA} (hR : RK u t) (hO : OkT t) {S : Nat} (hS : S < 256) : ∃ Q, Q < 256 ∧ Ps t S Q ∧ fX4_piecesOf n u (nI S) = some (nI Q) := by
  have hN := hO.1
  exact ⟨_, aPsn_lt hO S _ (Nat.le_refl _), fun p => aPsn_bit t S p _, k_psL hR hO hS (tN t) 0 n (by omega) (by omega)⟩
theorem Ps_eq {t : TA} {S P Q : Nat} (h : Ps t S Q) : Ps t S P ↔ Q = P := by
  constructor
  · intro h2
    apply Nat.eq_of_testBit_eq
    intro p
    have := (h p).trans (h2 p).symm
    cases h3 : Q.testBit p <;> cases h4 : P.testBit p <;> simp [h3, h4] at this ⊢
  · rintro rfl; exact h
theorem RK_D {u : TB} {t : TA} (h : RK u t) (d : Nat) : RK (u.1, u.2.1, u.2.2.1, u.2.2.2.1, u.2.2.2.2.1, nI d, u.2.2.2.2.2.2) (setD t d) := ⟨h.1, h.2.1, rfl, h.2.2.2⟩
theorem k_reaches {n : Nat} (hn : 300 ≤ n) {uK : Int32} {uN : TB} (uY : TB) {t : TA} (hR : RK uN t) (hO : OkT t) {S w v : Nat} (hS : S < 2 ^ tN t) (hw : w ≤ 20) (hv : v ≤ 99999) : ∃ Y' : TB, fX6_reaches n uK uN uY (nI S) (nI w) (nI v) = some ((if v ≤ fS t w S then 1 else 0), Y') := by
  have hN := hO.1
  obtain ⟨u1, e1, r1⟩ := k_copy n uY uN
  have r1 := r1 t hO.1 hR
  have r2 : RK (u1.1, u1.2.1, u1.2.2.1, u1.2.2.2.1, u1.2.2.2.2.1, nI (dM t S), u1.2.2.2.2.2.2) (dS t S) := RK_D r1 _
  obtain ⟨Y', e3, -⟩ := k_told hn r2 (ok_dS hO hS) (k := w) (by omega)
  have h256 := Nat.lt_of_lt_of_le hS (p2_le hN)
  refine ⟨Y', ?_⟩
  unfold fX6_reaches fX4_everyone
  simp only [e1, Option.bind_some, r1.2.2.2.1, (evI (tN t) (by omega)).2, coI (tN t) (by omega) S h256 hS, r1.2.2.1, nI_or]
  have e3 : fX4_toldBehind n (u1.1, u1.2.1, u1.2.2.1, u1.2.2.2.1, u1.2.2.2.2.1, nI (dM t S), u1.2.2.2.2.2.2.1, u1.2.2.2.2.2.2.2) (nI w) = some (nI (tO (aServes w (dS t S))), Y') := e3
  rw [r1.2.2.2.1] at e3
  rw [show fX4_toldBehind n (u1.1, u1.2.1, u1.2.2.1, u1.2.2.2.1, u1.2.2.2.2.1, nI (tD t ||| ((2 ^ tN t - 1) ^^^ S)), nI (tN t), u1.2.2.2.2.2.2.2.1, u1.2.2.2.2.2.2.2.2.1, u1.2.2.2.2.2.2.2.2.2) (nI w) = _ from e3]
  have ho := (ok_serves w (ok_dS hO hS)).2.2.2.2
  simp only [Option.bind_some]
  unfold fS
  by_cases q : v ≤ tO (aServes w (dS t S))
  · rw [if_neg (nI_nlt q (by omega)), if_pos q]
  · rw [if_pos (nI_lt (by omega) (by omega)), if_neg q]
