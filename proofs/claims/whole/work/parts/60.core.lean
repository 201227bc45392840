/-! PURE, 1: the abstract table, and its tie to both sides -/
/-- law, kind, hold, gone, tell, the drowned (bits), how many, course, told, z -/
abbrev TA : Type := (Nat → Nat) × (Nat → Nat) × (Nat → Nat) × (Nat → Nat) × (Nat → Nat) × Nat × Nat × Int32 × Nat × Int32
abbrev tL (t : TA) : Nat → Nat := t.1
abbrev tK (t : TA) : Nat → Nat := t.2.1
abbrev tH (t : TA) : Nat → Nat := t.2.2.1
abbrev tG (t : TA) : Nat → Nat := t.2.2.2.1
abbrev tT (t : TA) : Nat → Nat := t.2.2.2.2.1
abbrev tD (t : TA) : Nat := t.2.2.2.2.2.1
abbrev tN (t : TA) : Nat := t.2.2.2.2.2.2.1
abbrev tC (t : TA) : Int32 := t.2.2.2.2.2.2.2.1
abbrev tO (t : TA) : Nat := t.2.2.2.2.2.2.2.2.1
abbrev tZ (t : TA) : Int32 := t.2.2.2.2.2.2.2.2.2
def OkT (t : TA) : Prop := tN t ≤ 8 ∧ (tL t 0 ≤ 9 ∧ tL t 1 ≤ 9 ∧ tL t 2 ≤ 99 ∧ tL t 3 ≤ 99) ∧ (∀ g, g < tN t → tK t g ≤ 5 ∧ tH t g ≤ 7 ∧ tG t g ≤ 99 ∧ tT t g ≤ 9999) ∧ tD t < 2 ^ tN t ∧ tO t ≤ 99999
/-- the class's table is this one -/
def RK (u : TB) (t : TA) : Prop := (∀ i, i < 4 → u.1 i = nI (tL t i)) ∧ (∀ g, g < tN t → u.2.1 g = nI (tK t g) ∧ u.2.2.1 g = nI (tH t g) ∧ u.2.2.2.1 g = nI (tG t g) ∧ u.2.2.2.2.1 g = nI (tT t g)) ∧ u.2.2.2.2.2.1 = nI (tD t) ∧ u.2.2.2.2.2.2.1 = nI (tN t) ∧ u.2.2.2.2.2.2.2.1 = tC t ∧ u.2.2.2.2.2.2.2.2.1 = nI (tO t) ∧ u.2.2.2.2.2.2.2.2.2 = tZ t
def bitN (m g : Nat) : Nat := if m.testBit g then 1 else 0
/-- the reference's row is this one -/
def RM (s : Nat → Int32) (t : TA) : Prop := s 0 = nI (tN t) ∧ s 1 = tC t ∧ s 2 = tZ t ∧ s 3 = nI (tO t) ∧ (∀ i, i < 4 → s (4 + i) = nI (tL t i)) ∧ (∀ g, g < tN t → s (8 + 5 * g) = nI (tK t g) ∧ s (8 + 5 * g + 1) = nI (tH t g) ∧ s (8 + 5 * g + 2) = nI (tG t g) ∧ s (8 + 5 * g + 3) = nI (tT t g) ∧ s (8 + 5 * g + 4) = nI (bitN (tD t) g))
-- numbers
theorem c0 : (0 : Int32).toNatClampNeg = 0 := rfl
theorem c1 : (1 : Int32).toNatClampNeg = 1 := rfl
theorem c2 : (2 : Int32).toNatClampNeg = 2 := rfl
theorem c3 : (3 : Int32).toNatClampNeg = 3 := rfl
theorem c4 : (4 : Int32).toNatClampNeg = 4 := rfl
theorem c5 : (5 : Int32).toNatClampNeg = 5 := rfl
theorem c6 : (6 : Int32).toNatClampNeg = 6 := rfl
theorem c7 : (7 : Int32).toNatClampNeg = 7 := rfl
theorem c8 : (8 : Int32).toNatClampNeg = 8 := rfl
theorem lpS {σ ρ : Type} (F : (σ → Option ρ) → σ → Option ρ) (n : Nat) (s : σ) : lpF F (n + 1) s = F (lpF F n) s := rfl
theorem nI_ok {i N : Nat} (h : i < N) (hN : N < 2 ^ 31) : ¬ (nI i < 0 ∨ N ≤ (nI i).toNatClampNeg) := by
  rw [nI_clamp (by omega)]
  rintro (z | z)
  · exact nI_pos (by omega) z
  · omega
theorem nI_ok2 {i N : Nat} (h : i < N) (hN : N < 2 ^ 31) : ¬ (nI i < 0 ∨ N ≤ i) := by
  rintro (z | z)
  · exact nI_pos (by omega) z
  · omega
theorem nI_cl8 {i : Nat} (h : i < 8) : (nI i).toNatClampNeg = i := nI_clamp (by omega)
theorem nI_inj {a b : Nat} (ha : a < 2 ^ 31) (hb : b < 2 ^ 31) (h : ¬ a = b) : ¬ nI a = nI b := fun z => h ((nI_eq ha hb).mp z)
/-- a place of a guest in the reference's row -/
theorem ixM : ∀ g, g < 8 → ∀ w, w < 5 → (((8 : Int32) + ((5 : Int32) * nI g)) + nI w) = nI (8 + 5 * g + w) := by decide +kernel
theorem bitI : ∀ m, m < 256 → ∀ g, g < 8 → ((nI m >>> (nI g &&& 31)) &&& (1 : Int32)) = nI (bitN m g) := by decide +kernel
theorem orI : ∀ m, m < 256 → ∀ g, g < 8 → (nI m ||| ((1 : Int32) <<< (nI g &&& 31))) = nI (m ||| 2 ^ g) := by decide +kernel
theorem offI : ∀ m, m < 256 → ∀ g, g < 8 → (nI m &&& (((1 : Int32) <<< (nI g &&& 31)) ^^^ (-1 : Int32))) = nI (m - bitN m g * 2 ^ g) := by decide +kernel
theorem subI : ∀ g, g < 100 → ∀ m, m < 10 → nI g + ((2 : Int32) - nI m) = nI (g + 2) - nI m := by decide +kernel
-- the pieces of a course
def aP (t : TA) (g : Nat) : Nat := if tK t g = 1 then 4 + tL t 1 else if tK t g = 2 then 2 else if tK t g = 3 then 2 * (4 + tL t 1) else if tK t g = 4 then 2 else if tK t g = 5 then (if tH t g = tO t % 8 then 9 else 4) else 4
def aM (t : TA) (g : Nat) : Nat := if tK t g = 4 then tL t 1 else 0
def aNd (t : TA) (g : Nat) : Nat := if tK t g = 1 then 15 else if tK t g = 2 then 30 else if tK t g = 3 then 15 - tL t 1 else if tK t g = 4 then 30 - tG t g / 10 else if tK t g = 5 then 10 else 20
def aCo (t : TA) (g : Nat) : Nat := if tK t g = 2 then 15 else if tK t g = 3 then 5 else if tK t g = 4 then 15 - tL t 1 else if tK t g = 5 then 0 else 10
/-- GONE behind the first step of a COURSE -/
def aG1 (t : TA) (g : Nat) : Nat := if (tD t).testBit g then tG t g else min 99 (tG t g + aP t g - aM t g)
def setG (t : TA) (f : Nat → Nat) : TA := (tL t, tK t, tH t, f, tT t, tD t, tN t, tC t, tO t, tZ t)
def setD (t : TA) (d : Nat) : TA := (tL t, tK t, tH t, tG t, tT t, d, tN t, tC t, tO t, tZ t)
/-- the first i guests have taken theirs -/
def aPh (t : TA) (i : Nat) : TA := setG t (fun g => if g < i then aG1 t g else tG t g)
def fst (P : Nat → Bool) : Nat → Nat → Option Nat
  | 0, _ => none
  | k + 1, i => if P i then some i else fst P k (i + 1)
def canTell (t : TA) (g : Nat) : Bool := decide (tH t g = tO t % 8) && !(tD t).testBit g && decide (aNd t g ≤ tG t g)
def aTeller (t : TA) : Option Nat := fst (canTell t) (tN t) 0
def aTell (t : TA) (g : Nat) : TA := (tL t, tK t, tH t, (fun j => if j = g then tG t g - aCo t g else tG t j), (fun j => if j = g then min 9999 (tT t g + 1) else tT t j), tD t, tN t, tC t, min 99999 (tO t + 1), tZ t)
def aTells : Nat → TA → TA
  | 0, t => t
  | b + 1, t => match aTeller t with
    | none => t
    | some g => aTells b (aTell t g)
/-- who is DROWNED when the first i have been looked at -/
def aDr (t : TA) : Nat → Nat
  | 0 => tD t
  | i + 1 => if tL t 2 < tG t i then aDr t i ||| 2 ^ i else aDr t i
def aEnd (t : TA) : TA := (tL t, tK t, tH t, tG t, tT t, aDr t (tN t), tN t, tC t + 1, tO t, tZ t)
/-- A COURSE -/
def aServe (t : TA) : TA := aEnd (aTells (tL t 0) (aPh t (tN t)))
def aServes : Nat → TA → TA
  | 0, t => t
  | n + 1, t => aServes n (aServe t)
theorem bitN_le (m g : Nat) : bitN m g ≤ 1 := by unfold bitN; split <;> omega
theorem mask_lt {t : TA} (h : OkT t) : tD t < 256 := Nat.lt_of_lt_of_le h.2.2.2.1 (Nat.pow_le_pow_right (by decide) h.1)
theorem nI_of_bit (m g : Nat) : (nI (bitN m g) = (1 : Int32)) = (m.testBit g = true) := by
  unfold bitN
  cases m.testBit g <;> simp <;> decide
theorem nI_of_bit0 (m g : Nat) : (nI (bitN m g) = (0 : Int32)) = (m.testBit g = false) := by
  unfold bitN
  cases m.testBit g <;> simp <;> decide
-- the class's side
theorem k_isDrowned {n : Nat} {u : TB} {t : TA} (hR : RK u t) (hO : OkT t) {g : Nat} (hg : g < 8) : fX4_isDrowned n u (nI g) = some (nI (bitN (tD t) g)) := by
  unfold fX4_isDrowned
  rw [hR.2.2.1, bitI _ (mask_lt hO) _ hg]
  unfold bitN
  cases (tD t).testBit g <;> rfl
theorem k_next {n : Nat} {u : TB} {t : TA} (hR : RK u t) (hO : OkT t) : fX4_next n u = some (nI (tO t % 8)) := by
  unfold fX4_next
  rw [hR.2.2.2.2.2.1]
  exact congrArg some (pk_rem (d := 8) (by have := hO.2.2.2.2; omega) (by decide) (by decide))
theorem k_takes {n : Nat} {u : TB} {t : TA} (hR : RK u t) (hO : OkT t) {g : Nat} (hg : g < tN t) : fX4_takes n u (nI g) = some (nI (aP t g) - nI (aM t g)) := by
  have h8 : g < 8 := Nat.lt_of_lt_of_le hg hO.1
  obtain ⟨hk, hh, hgo, ht⟩ := hR.2.1 g hg
  have hk5 := (hO.2.2.1 g hg).1
  have hs := hO.2.1.2.1
  unfold fX4_takes
  rw [if_neg (nI_ok h8 (by decide)), if_neg (nI_ok h8 (by decide)), nI_cl8 h8, hk, c1, hR.1 1 (by decide), hh]
  unfold aP aM
  rw [k_next hR hO]
  have e : ∀ a : Nat, nI a - nI 0 = nI a := fun a => pk_sub (Nat.zero_le a)
  rcases (show tK t g = 0 ∨ tK t g = 1 ∨ tK t g = 2 ∨ tK t g = 3 ∨ tK t g = 4 ∨ tK t g = 5 by omega) with h | h | h | h | h | h <;> rw [h]
  · show some (4 : Int32) = some (nI 4 - nI 0)
    rw [e]; rfl
  · show some ((4 : Int32) + nI (tL t 1)) = some (nI (4 + tL t 1) - nI 0)
    rw [e]
    exact congrArg some (nI_add 4 _)
  · show some (2 : Int32) = some (nI 2 - nI 0)
    rw [e]; rfl
  · show some (((4 : Int32) + nI (tL t 1)) * (2 : Int32)) = some (nI (2 * (4 + tL t 1)) - nI 0)
    rw [e, show ((4 : Int32) + nI (tL t 1)) = nI (4 + tL t 1) from nI_add 4 _, Nat.mul_comm 2]
    exact congrArg some (pk_mul _ 2)
  · rfl
  · show (if nI (tH t g) = nI (tO t % 8) then some (9 : Int32) else some (4 : Int32)) = some (nI (if tH t g = tO t % 8 then 9 else 4) - nI 0)
    rw [e]
    have h1 := (hO.2.2.1 g hg).2.1
    by_cases q : tH t g = tO t % 8
    · rw [if_pos (congrArg nI q), if_pos q]; rfl
    · rw [if_neg (nI_inj (by omega) (by omega) q), if_neg q]; rfl
theorem k_needs {n : Nat} {u : TB} {t : TA} (hR : RK u t) (hO : OkT t) {g : Nat} (hg : g < tN t) : fX4_needs n u (nI g) = some (nI (aNd t g)) := by
  have h8 : g < 8 := Nat.lt_of_lt_of_le hg hO.1
  obtain ⟨hk, hh, hgo, ht⟩ := hR.2.1 g hg
  obtain ⟨hk5, -, hg9, -⟩ := hO.2.2.1 g hg
  have hs := hO.2.1.2.1
  unfold fX4_needs
  rw [if_neg (nI_ok h8 (by decide)), if_neg (nI_ok h8 (by decide)), nI_cl8 h8, hk, c1, hR.1 1 (by decide), hgo]
  unfold aNd
  rcases (show tK t g = 0 ∨ tK t g = 1 ∨ tK t g = 2 ∨ tK t g = 3 ∨ tK t g = 4 ∨ tK t g = 5 by omega) with h | h | h | h | h | h <;> rw [h]
  · rfl
  · rfl
  · rfl
  · show some ((15 : Int32) - nI (tL t 1)) = some (nI (15 - tL t 1))
    exact congrArg some (pk_sub (a := 15) (by omega))
  · show some ((30 : Int32) - nI (tG t g) / (10 : Int32)) = some (nI (30 - tG t g / 10))
    rw [show nI (tG t g) / (10 : Int32) = nI (tG t g / 10) from pk_div (d := 10) (by omega) (by decide) (by decide)]
    exact congrArg some (pk_sub (a := 30) (by omega))
  · rfl
theorem k_costs {n : Nat} {u : TB} {t : TA} (hR : RK u t) (hO : OkT t) {g : Nat} (hg : g < tN t) : fX4_costs n u (nI g) = some (nI (aCo t g)) := by
  have h8 : g < 8 := Nat.lt_of_lt_of_le hg hO.1
  obtain ⟨hk, hh, hgo, ht⟩ := hR.2.1 g hg
  obtain ⟨hk5, -, hg9, -⟩ := hO.2.2.1 g hg
  have hs := hO.2.1.2.1
  unfold fX4_costs
  rw [if_neg (nI_ok h8 (by decide)), nI_cl8 h8, hk, c1, hR.1 1 (by decide)]
  unfold aCo
  rcases (show tK t g = 0 ∨ tK t g = 1 ∨ tK t g = 2 ∨ tK t g = 3 ∨ tK t g = 4 ∨ tK t g = 5 by omega) with h | h | h | h | h | h <;> rw [h]
  · rfl
  · rfl
  · rfl
  · rfl
  · show some ((15 : Int32) - nI (tL t 1)) = some (nI (15 - tL t 1))
    exact congrArg some (pk_sub (a := 15) (by omega))
  · rfl
/-- held to 0 to 99 -/
theorem k_held {n a b : Nat} (ha : a < 2 ^ 20) (hb : b < 2 ^ 20) : fX6_held n (nI a - nI b) = some (nI (min 99 (a - b))) := by
  unfold fX6_held
  by_cases h : b ≤ a
  · rw [pk_sub h]
    by_cases h1 : a - b < 99
    · rw [if_pos (show nI (a - b) < (99 : Int32) from (nI_ltI (by omega) (by decide)).mpr h1)]
      by_cases h2 : 0 < a - b
      · rw [if_pos (show (0 : Int32) < nI (a - b) from (nI_ltI (a := 0) (by decide) (by omega)).mpr h2), show min 99 (a - b) = a - b by omega]
      · rw [if_neg (show ¬ (0 : Int32) < nI (a - b) from fun z => h2 ((nI_ltI (a := 0) (by decide) (by omega)).mp z)), show min 99 (a - b) = 0 by omega]
        rfl
    · rw [if_neg (show ¬ nI (a - b) < (99 : Int32) from fun z => h1 ((nI_ltI (by omega) (by decide)).mp z)), show min 99 (a - b) = 99 by omega]
      rfl
  · have hn : nI a - nI b < 0 := pk_sneg (by omega) (by omega)
    rw [if_pos (Int32.lt_trans hn (by decide)), if_neg (fun z => Int32.lt_irrefl (Int32.lt_trans hn z)), show min 99 (a - b) = 0 by omega]
    rfl
theorem m_within {n a b : Nat} (ha : a < 2 ^ 20) (hb : b < 2 ^ 20) : fX7_within n (nI a - nI b) = some (nI (min 99 (a - b))) := by
  unfold fX7_within
  by_cases h : b ≤ a
  · rw [pk_sub h, if_pos (show (0 : Int32) ≤ nI (a - b) from nI_pos' (by omega))]
    by_cases h1 : a - b ≤ 99
    · rw [if_pos (show nI (a - b) ≤ (99 : Int32) from (nI_leI (by omega) (by decide)).mpr h1), show min 99 (a - b) = a - b by omega]
    · rw [if_neg (show ¬ nI (a - b) ≤ (99 : Int32) from fun z => h1 ((nI_leI (by omega) (by decide)).mp z)), show min 99 (a - b) = 99 by omega]
      rfl
  · have hn : nI a - nI b < 0 := pk_sneg (by omega) (by omega)
    rw [if_neg (fun z => Int32.lt_irrefl (Int32.lt_of_lt_of_le hn z)), show min 99 (a - b) = 0 by omega]
    rfl
/-- what GONE is with what is taken -/
theorem addT {t : TA} (hO : OkT t) {g : Nat} (hg : g < tN t) : nI (tG t g) + (nI (aP t g) - nI (aM t g)) = nI (tG t g + aP t g) - nI (aM t g) := by
  obtain ⟨hk5, -, hg9, -⟩ := hO.2.2.1 g hg
  have hs := hO.2.1.2.1
  unfold aP aM
  by_cases h4 : tK t g = 4
  · simp only [h4]
    exact subI (tG t g) (by omega) (tL t 1) (by omega)
  · simp only [if_neg h4]
    rw [pk_sub (Nat.zero_le _), pk_sub (Nat.zero_le _), nI_add, Nat.sub_zero, Nat.sub_zero]
theorem aP_le {t : TA} (hO : OkT t) (g : Nat) : aP t g ≤ 26 ∧ aM t g ≤ 9 := by
  have hs := hO.2.1.2.1
  unfold aP aM
  constructor
  · repeat' split
    all_goals omega
  · split <;> omega
/-- who tells, as the class looks for it -/
theorem k_tellerL {n : Nat} {u : TB} {t : TA} (hR : RK u t) (hO : OkT t) : ∀ (k i m : Nat), i + k = tN t → k < m → lpF (fX4_teller_F7 n u) m (nI (tO t % 8), nI i) = some (match fst (canTell t) k i with | none => -3 | some g => nI g) := by
  intro k
  induction k with
  | zero =>
    intro i m hi hm
    obtain ⟨m, rfl⟩ : ∃ x, m = x + 1 := ⟨m - 1, by omega⟩
    have hN := hO.1
    rw [lpS]
    unfold fX4_teller_F7
    rw [hR.2.2.2.1, if_pos (nI_le (by omega) (by omega))]
    rfl
  | succ k ih =>
    intro i m hi hm
    obtain ⟨m, rfl⟩ : ∃ x, m = x + 1 := ⟨m - 1, by omega⟩
    have hN := hO.1
    have hi8 : i < 8 := by omega
    have hiN : i < tN t := by omega
    obtain ⟨hk, hh, hgo, ht⟩ := hR.2.1 i hiN
    obtain ⟨q1, q2, q3, -⟩ := hO.2.2.1 i hiN
    have hnx : tO t % 8 < 8 := Nat.mod_lt _ (by decide)
    have nx : nI i + (1 : Int32) = nI (i + 1) := nI_1 i
    have ih' := ih (i + 1) m (by omega) (by omega)
    rw [lpS]
    generalize lpF (fX4_teller_F7 n u) m = kk at ih' ⊢
    unfold fX4_teller_F7 fX4_teller_b49
    simp only [nI_cl8 hi8, hR.2.2.2.1, hh, hgo, k_isDrowned hR hO hi8, k_needs hR hO hiN, Option.bind_some, nx]
    rw [if_neg (nI_ge hiN (by omega)), if_neg (nI_ok2 hi8 (by decide)), if_neg (nI_ok2 hi8 (by decide)), ih']
    show _ = some (match (if canTell t i = true then some i else fst (canTell t) k (i + 1)) with | none => -3 | some g => nI g)
    have hnd : aNd t i < 2 ^ 20 := by unfold aNd; repeat' split
                                      all_goals omega
    by_cases a1 : tH t i = tO t % 8
    · rw [if_pos (congrArg nI a1)]
      by_cases a2 : (tD t).testBit i = true
      · rw [if_neg (by rw [nI_of_bit0]; simp [a2])]
        have : canTell t i = false := by simp [canTell, a2]
        rw [this]; rfl
      · rw [if_pos (by rw [nI_of_bit0]; simpa using a2)]
        by_cases a3 : aNd t i ≤ tG t i
        · rw [if_neg (nI_nlt a3 (by omega))]
          have : canTell t i = true := by simp [canTell, a1, a3]; simpa using a2
          rw [this]; rfl
        · rw [if_pos (nI_lt (by omega) (by omega))]
          have : canTell t i = false := by simp [canTell, a3]
          rw [this]; rfl
    · rw [if_neg (nI_inj (by omega) (by omega) a1)]
      have : canTell t i = false := by simp [canTell, a1]
      rw [this]; rfl
theorem k_teller {n : Nat} {u : TB} {t : TA} (hR : RK u t) (hO : OkT t) (hn : 8 < n) : fX4_teller n u = some (match aTeller t with | none => -3 | some g => nI g) := by
  unfold fX4_teller
  rw [k_next hR hO]
  exact k_tellerL hR hO (tN t) 0 n (by omega) (by have := hO.1; omega)
theorem fst_some {P : Nat → Bool} : ∀ (k i : Nat) {g : Nat}, fst P k i = some g → i ≤ g ∧ g < i + k ∧ P g = true := by
  intro k
  induction k with
  | zero => intro i g h; cases h
  | succ k ih =>
    intro i g h
    unfold fst at h
    by_cases hp : P i = true
    · rw [if_pos hp] at h
      cases h
      exact ⟨Nat.le_refl _, by omega, hp⟩
    · rw [if_neg hp] at h
      obtain ⟨a, b, c⟩ := ih (i + 1) h
      exact ⟨by omega, by omega, c⟩
theorem capI {a N : Nat} (ha : a < 2 ^ 20) (hN : N < 2 ^ 20) : (if nI a + (1 : Int32) < nI N then nI a + (1 : Int32) else nI N) = nI (min N (a + 1)) := by
  rw [nI_1]
  by_cases h : a + 1 < N
  · rw [if_pos (nI_lt h (by omega)), show min N (a + 1) = a + 1 by omega]
  · rw [if_neg (nI_nlt (by omega) (by omega)), show min N (a + 1) = N by omega]
theorem ok_setG {t : TA} (hO : OkT t) {f : Nat → Nat} (hf : ∀ g, g < tN t → f g ≤ 99) : OkT (setG t f) := ⟨hO.1, hO.2.1, fun g hg => ⟨(hO.2.2.1 g hg).1, (hO.2.2.1 g hg).2.1, hf g hg, (hO.2.2.1 g hg).2.2.2⟩, hO.2.2.2.1, hO.2.2.2.2⟩
theorem ok_ph {t : TA} (hO : OkT t) (i : Nat) : OkT (aPh t i) := by
  refine ok_setG hO (fun g hg => ?_)
  have h9 := (hO.2.2.1 g hg).2.2.1
  split
  · unfold aG1
    split <;> omega
  · exact h9
theorem ok_tell {t : TA} (hO : OkT t) (g : Nat) : OkT (aTell t g) := by
  refine ⟨hO.1, hO.2.1, fun j hj => ?_, hO.2.2.2.1, ?_⟩
  · obtain ⟨a, b, c, d⟩ := hO.2.2.1 j hj
    refine ⟨a, b, ?_, ?_⟩
    · show (if j = g then tG t g - aCo t g else tG t j) ≤ 99
      split
      · rename_i e; subst e; omega
      · exact c
    · show (if j = g then min 9999 (tT t g + 1) else tT t j) ≤ 9999
      split
      · omega
      · exact d
  · show min 99999 (tO t + 1) ≤ 99999
    omega
theorem ok_tells : ∀ (b : Nat) {t : TA}, OkT t → OkT (aTells b t) := by
  intro b
  induction b with
  | zero => intro t h; exact h
  | succ b ih =>
    intro t h
    unfold aTells
    split
    · exact h
    · exact ih (ok_tell h _)
theorem tells_N : ∀ (b : Nat) (t : TA), tN (aTells b t) = tN t := by
  intro b
  induction b with
  | zero => intro t; rfl
  | succ b ih =>
    intro t
    unfold aTells
    split
    · rfl
    · rw [ih]; rfl
theorem aDr_lt {t : TA} (hO : OkT t) : ∀ i, i ≤ tN t → aDr t i < 2 ^ tN t := by
  intro i
  induction i with
  | zero => intro _; exact hO.2.2.2.1
  | succ i ih =>
    intro h
    unfold aDr
    split
    · exact Nat.or_lt_two_pow (ih (by omega)) (Nat.pow_lt_pow_right (by decide) (by omega))
    · exact ih (by omega)
theorem ok_end {t : TA} (hO : OkT t) : OkT (aEnd t) := ⟨hO.1, hO.2.1, hO.2.2.1, aDr_lt hO _ (Nat.le_refl _), hO.2.2.2.2⟩
theorem ok_serve {t : TA} (hO : OkT t) : OkT (aServe t) := ok_end (ok_tells _ (ok_ph hO _))
theorem ok_serves : ∀ (n : Nat) {t : TA}, OkT t → OkT (aServes n t) := by
  intro n
  induction n with
  | zero => intro t h; exact h
  | succ n ih => intro t h; exact ih (ok_serve h)
theorem serves_add (a b : Nat) (t : TA) : aServes (a + b) t = aServes b (aServes a t) := by
  induction a generalizing t with
  | zero => rw [Nat.zero_add]; rfl
  | succ a ih => rw [Nat.succ_add]; exact ih (aServe t)
theorem serves_succ (a : Nat) (t : TA) : aServes (a + 1) t = aServe (aServes a t) := serves_add a 1 t
theorem RK_setG {u : TB} {t : TA} {f f' : Nat → Nat} (h : RK u (setG t f)) (he : ∀ g, g < tN t → f g = f' g) : RK u (setG t f') := by
  refine ⟨h.1, fun g hg => ?_, h.2.2⟩
  obtain ⟨a, b, c, d⟩ := h.2.1 g hg
  exact ⟨a, b, c.trans (congrArg nI (he g hg)), d⟩
theorem RK_updG {u : TB} {t : TA} {f f' : Nat → Nat} {i x : Nat} (h : RK u (setG t f)) (he : ∀ g, g < tN t → f' g = if g = i then x else f g) : RK (u.1, u.2.1, u.2.2.1, upd u.2.2.2.1 i (nI x), u.2.2.2.2) (setG t f') := by
  refine ⟨h.1, fun g hg => ?_, h.2.2⟩
  obtain ⟨a, b, c, d⟩ := h.2.1 g hg
  refine ⟨a, b, ?_, d⟩
  show upd u.2.2.2.1 i (nI x) g = nI (f' g)
  rw [he g hg]
  unfold upd
  split
  · rfl
  · exact c
theorem k_tellNext {n : Nat} {u : TB} {t : TA} (hR : RK u t) (hO : OkT t) {g : Nat} (hg : g < tN t) : ∃ u' : TB, fX4_tellNext n u (nI g) = some u' ∧ RK u' (aTell t g) := by
  have h8 : g < 8 := Nat.lt_of_lt_of_le hg hO.1
  obtain ⟨hk, hh, hgo, ht⟩ := hR.2.1 g hg
  obtain ⟨hk5, -, hg9, ht9⟩ := hO.2.2.1 g hg
  have hto := hO.2.2.2.2
  have hco : aCo t g < 2 ^ 20 := by unfold aCo; repeat' split
                                    all_goals omega
  unfold fX4_tellNext
  rw [k_costs hR hO hg]
  simp only [Option.bind_some, nI_cl8 h8]
  rw [if_neg (nI_ok2 h8 (by decide)), if_neg (nI_ok2 h8 (by decide)), if_neg (nI_ok2 h8 (by decide)), hgo, k_held (by omega) hco]
  simp only [Option.bind_some]
  rw [if_neg (nI_ok2 h8 (by decide)), ht, hR.2.2.2.2.2.1, show (9999 : Int32) = nI 9999 from rfl, show (99999 : Int32) = nI 99999 from rfl, capI (by omega) (by decide), capI (by omega) (by decide), show min 99 (tG t g - aCo t g) = tG t g - aCo t g by omega]
  refine ⟨_, rfl, hR.1, fun j hj => ?_, hR.2.2.1, hR.2.2.2.1, hR.2.2.2.2.1, rfl, hR.2.2.2.2.2.2⟩
  obtain ⟨a, b, c, d⟩ := hR.2.1 j hj
  refine ⟨a, b, ?_, ?_⟩
  · show upd u.2.2.2.1 g (nI (tG t g - aCo t g)) j = nI (if j = g then tG t g - aCo t g else tG t j)
    unfold upd
    split
    · rfl
    · exact c
  · show upd u.2.2.2.2.1 g (nI (min 9999 (tT t g + 1))) j = nI (if j = g then min 9999 (tT t g + 1) else tT t j)
    unfold upd
    split
    · rfl
    · exact d
theorem k_phL {n : Nat} {t : TA} (hO : OkT t) : ∀ (k i m : Nat) (u : TB), i + k = tN t → k < m → RK u (aPh t i) → ∃ u' : TB, RK u' (aPh t (tN t)) ∧ lpF (fX4_serve_F2 n) m (u, nI i) = lpF (fX4_serve_F47 n) n (u', 0) := by
  intro k
  induction k with
  | zero =>
    intro i m u hi hm hR
    obtain ⟨m, rfl⟩ : ∃ x, m = x + 1 := ⟨m - 1, by omega⟩
    have hN := hO.1
    refine ⟨u, ?_, ?_⟩
    · rw [show tN t = i by omega]; exact hR
    · rw [lpS]
      unfold fX4_serve_F2
      rw [if_pos (show u.2.2.2.2.2.2.1 ≤ nI i by rw [hR.2.2.2.1]; exact nI_le (show tN t ≤ i by omega) (by omega))]
  | succ k ih =>
    intro i m u hi hm hR
    obtain ⟨m, rfl⟩ : ∃ x, m = x + 1 := ⟨m - 1, by omega⟩
    have hN := hO.1
    have hi8 : i < 8 := by omega
    have hiN : i < tN t := by omega
    have hP := ok_ph hO i
    have hg : u.2.2.2.1 i = nI (tG t i) := by
      have := (hR.2.1 i hiN).2.2.1
      rw [this]
      show nI (if i < i then aG1 t i else tG t i) = _
      rw [if_neg (Nat.lt_irrefl i)]
    have g9 := (hO.2.2.1 i hiN).2.2.1
    have nx : nI i + (1 : Int32) = nI (i + 1) := nI_1 i
    obtain ⟨p1, p2⟩ := aP_le hO i
    rw [lpS]
    unfold fX4_serve_F2 fX4_serve_b39
    simp only [k_isDrowned hR hP hi8, Option.bind_some, nI_cl8 hi8, nx, k_takes hR hP hiN]
    rw [if_neg (show ¬ u.2.2.2.2.2.2.1 ≤ nI i by rw [hR.2.2.2.1]; exact nI_ge hiN (show tN t < 2 ^ 31 by omega))]
    by_cases hb : (tD t).testBit i = true
    · rw [if_neg (show ¬ nI (bitN (tD (aPh t i)) i) = (0 : Int32) by rw [nI_of_bit0]; show ¬ (tD t).testBit i = false; simp [hb])]
      refine ih (i + 1) m u (by omega) (by omega) (RK_setG hR (fun g hg => ?_))
      by_cases e : g = i
      · subst e
        rw [if_neg (Nat.lt_irrefl g), if_pos (Nat.lt_succ_self g)]
        unfold aG1
        rw [if_pos hb]
      · by_cases e2 : g < i
        · rw [if_pos e2, if_pos (by omega)]
        · rw [if_neg e2, if_neg (by omega)]
    · rw [if_pos (show nI (bitN (tD (aPh t i)) i) = (0 : Int32) by rw [nI_of_bit0]; show (tD t).testBit i = false; simpa using hb), if_neg (nI_ok2 hi8 (by decide)), hg]
      have e1 : nI (tG t i) + (nI (aP (aPh t i) i) - nI (aM (aPh t i) i)) = nI (tG t i + aP t i) - nI (aM t i) := addT hO hiN
      rw [e1, k_held (by omega) (by omega)]
      simp only [Option.bind_some]
      rw [if_neg (nI_ok2 hi8 (by decide))]
      refine ih (i + 1) m _ (by omega) (by omega) (RK_updG (i := i) (x := min 99 (tG t i + aP t i - aM t i)) hR (fun g hg => ?_))
      by_cases e : g = i
      · subst e
        rw [if_pos (Nat.lt_succ_self g), if_pos rfl]
        unfold aG1
        rw [if_neg hb]
      · rw [if_neg e]
        by_cases e2 : g < i
        · rw [if_pos e2, if_pos (by omega)]
        · rw [if_neg e2, if_neg (by omega)]
theorem k_tellsL {n : Nat} (hn : 300 ≤ n) : ∀ (b j m : Nat) (u : TB) (t : TA), OkT t → RK u t → j + b = tL t 0 → b < m → ∃ u' : TB, RK u' (aTells b t) ∧ lpF (fX4_serve_F47 n) m (u, nI j) = lpF (fX4_serve_F84 n) n (u', 0) := by
  intro b
  induction b with
  | zero =>
    intro j m u t hO hR hj hm
    obtain ⟨m, rfl⟩ : ∃ x, m = x + 1 := ⟨m - 1, by omega⟩
    have hL := hO.2.1.1
    refine ⟨u, hR, ?_⟩
    rw [lpS]
    unfold fX4_serve_F47
    rw [c0, if_pos (show u.1 0 ≤ nI j by rw [hR.1 0 (by decide)]; exact nI_le (by omega) (by omega))]
    rfl
  | succ b ih =>
    intro j m u t hO hR hj hm
    obtain ⟨m, rfl⟩ : ∃ x, m = x + 1 := ⟨m - 1, by omega⟩
    have hL := hO.2.1.1
    have nx : nI j + (1 : Int32) = nI (j + 1) := nI_1 j
    rw [lpS]
    unfold fX4_serve_F47
    simp only [k_teller hR hO (show 8 < n by omega), Option.bind_some, c0, nx]
    rw [if_neg (show ¬ u.1 0 ≤ nI j by rw [hR.1 0 (by decide)]; exact nI_ge (by omega) (by omega))]
    show ∃ u' : TB, RK u' (match aTeller t with | none => t | some g => aTells b (aTell t g)) ∧ _
    cases hT : aTeller t with
    | none => exact ⟨u, hR, rfl⟩
    | some g =>
      have hg : g < tN t := by have := fst_some _ _ hT; omega
      have hN := hO.1
      obtain ⟨u', e', hR'⟩ := k_tellNext (n := n) hR hO hg
      simp only [e', Option.bind_some]
      rw [if_neg (show ¬ nI g = (-3 : Int32) from fun z => nI_pos (n := g) (by omega) (by rw [z]; decide))]
      exact ih (j + 1) m u' (aTell t g) (ok_tell hO g) hR' (show j + 1 + b = tL t 0 by omega) (by omega)
theorem k_endL {n : Nat} {t : TA} (hO : OkT t) : ∀ (k i m : Nat) (u : TB), i + k = tN t → k < m → RK u (setD t (aDr t i)) → ∃ u' : TB, RK u' (aEnd t) ∧ lpF (fX4_serve_F84 n) m (u, nI i) = some u' := by
  intro k
  induction k with
  | zero =>
    intro i m u hi hm hR
    obtain ⟨m, rfl⟩ : ∃ x, m = x + 1 := ⟨m - 1, by omega⟩
    have hN := hO.1
    have e : i = tN t := by omega
    subst e
    rw [lpS]
    unfold fX4_serve_F84
    rw [if_pos (show u.2.2.2.2.2.2.1 ≤ nI (tN t) by rw [hR.2.2.2.1]; exact nI_le (Nat.le_refl _) (by omega))]
    refine ⟨(u.1, u.2.1, u.2.2.1, u.2.2.2.1, u.2.2.2.2.1, u.2.2.2.2.2.1, u.2.2.2.2.2.2.1, u.2.2.2.2.2.2.2.1 + 1, u.2.2.2.2.2.2.2.2.1, u.2.2.2.2.2.2.2.2.2), ⟨hR.1, hR.2.1, hR.2.2.1, hR.2.2.2.1, ?_, hR.2.2.2.2.2⟩, rfl⟩
    show u.2.2.2.2.2.2.2.1 + 1 = tC t + 1
    rw [hR.2.2.2.2.1]
    rfl
  | succ k ih =>
    intro i m u hi hm hR
    obtain ⟨m, rfl⟩ : ∃ x, m = x + 1 := ⟨m - 1, by omega⟩
    have hN := hO.1
    have hi8 : i < 8 := by omega
    have hiN : i < tN t := by omega
    have hg : u.2.2.2.1 i = nI (tG t i) := (hR.2.1 i hiN).2.2.1
    have g9 := (hO.2.2.1 i hiN).2.2.1
    have hd := hO.2.1.2.2.1
    have nx : nI i + (1 : Int32) = nI (i + 1) := nI_1 i
    have hl : u.1 2 = nI (tL t 2) := hR.1 2 (by decide)
    have hm8 : aDr t i < 256 := Nat.lt_of_lt_of_le (aDr_lt hO i (by omega)) (Nat.pow_le_pow_right (by decide) hN)
    rw [lpS]
    unfold fX4_serve_F84 fX4_serve_b113
    simp only [nI_cl8 hi8, c2, hg, hl, nx]
    rw [if_neg (show ¬ u.2.2.2.2.2.2.1 ≤ nI i by rw [hR.2.2.2.1]; exact nI_ge hiN (show tN t < 2 ^ 31 by omega)), if_neg (nI_ok2 hi8 (by decide))]
    by_cases hb : tG t i ≤ tL t 2
    · rw [if_pos (nI_le hb (by omega))]
      refine ih (i + 1) m u (by omega) (by omega) ?_
      have : aDr t (i + 1) = aDr t i := by
        show (if tL t 2 < tG t i then aDr t i ||| 2 ^ i else aDr t i) = _
        rw [if_neg (by omega)]
      rw [this]
      exact hR
    · rw [if_neg (nI_ge (by omega) (by omega))]
      unfold fX4_drown
      rw [if_neg (show ¬ (1 : Int32) = 0 by decide)]
      simp only [Option.bind_some]
      refine ih (i + 1) m _ (by omega) (by omega) ⟨hR.1, hR.2.1, ?_, hR.2.2.2⟩
      show (u.2.2.2.2.2.1 ||| ((1 : Int32) <<< (nI i &&& 31))) = nI (aDr t (i + 1))
      rw [hR.2.2.1]
      show (nI (aDr t i) ||| ((1 : Int32) <<< (nI i &&& 31))) = nI (if tL t 2 < tG t i then aDr t i ||| 2 ^ i else aDr t i)
      rw [if_pos (by omega), orI _ hm8 _ hi8]
/-- A COURSE, by the class -/
theorem k_serve {n : Nat} (hn : 300 ≤ n) {u : TB} {t : TA} (hR : RK u t) (hO : OkT t) : ∃ u' : TB, fX4_serve n u = some u' ∧ RK u' (aServe t) := by
  have hN := hO.1
  have hL := hO.2.1.1
  have h0 : RK u (aPh t 0) := RK_setG (f := tG t) hR (fun g _ => by rw [if_neg (Nat.not_lt_zero g)])
  obtain ⟨u1, h1, e1⟩ := k_phL (n := n) hO (tN t) 0 n u (by omega) (by omega) h0
  obtain ⟨u2, h2, e2⟩ := k_tellsL hn (tL t 0) 0 n u1 (aPh t (tN t)) (ok_ph hO _) h1 (by show 0 + tL t 0 = tL t 0; omega) (by omega)
  have hN2 : tN (aTells (tL t 0) (aPh t (tN t))) = tN t := tells_N _ _
  obtain ⟨u3, h3, e3⟩ := k_endL (n := n) (ok_tells (tL t 0) (ok_ph hO (tN t))) (tN t) 0 n u2 (by rw [hN2]; omega) (by omega) h2
  refine ⟨u3, ?_, h3⟩
  unfold fX4_serve
  exact e1.trans (e2.trans e3)
