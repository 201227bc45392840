/-! THE BASE OF THE DECOMPILED CONTRACTS: what a method's function (an Option) tells of its walk; the global facts (GC); the call rows. -/
theorem zp {α : Type} {c : Prop} [Decidable c] {A B : Option α} {z : α} (h : (if c then A else B) = some z) (hc : c) : A = some z := by rwa [if_pos hc] at h
theorem zn {α : Type} {c : Prop} [Decidable c] {A B : Option α} {z : α} (h : (if c then A else B) = some z) (hc : ¬ c) : B = some z := by rwa [if_neg hc] at h
theorem zg {α : Type} {c : Prop} [Decidable c] {X : Option α} {z : α} (h : (if c then none else X) = some z) : ¬ c ∧ X = some z := by
  by_cases hc : c
  · rw [if_pos hc] at h; cases h
  · rw [if_neg hc] at h; exact ⟨hc, h⟩
theorem zb {α β : Type} {o : Option α} {k : α → Option β} {z : β} (h : o.bind k = some z) : ∃ a, o = some a ∧ k a = some z := by
  cases o with
  | none => cases h
  | some a => exact ⟨a, rfl, h⟩
/-- a loop, by fuel: none when it runs out -/
def lpF {σ ρ : Type} (F : (σ → Option ρ) → σ → Option ρ) : Nat → σ → Option ρ
  | 0, _ => none
  | n + 1, s => F (lpF F n) s
theorem lpW {σ ρ : Type} {F : (σ → Option ρ) → σ → Option ρ} {z : ρ} {P : σ → Prop} (hs : ∀ k : σ → Option ρ, (∀ s, k s = some z → P s) → ∀ s, F k s = some z → P s) : ∀ (n : Nat) (s : σ), lpF F n s = some z → P s := by
  intro n
  induction n with
  | zero => intro s h; cases h
  | succ n ih => intro s h; exact hs (lpF F n) ih s h
theorem vi {i : Int32} {N : Nat} (h : decide (i < 0 ∨ N ≤ i.toNatClampNeg) = false) : vp_in i N := of_decide_eq_false h
theorem nz_b {v : Int32} (h : ¬ (¬ (v = 0 ∨ v = 1))) : narrow .boolean (.int v) = .int v ∧ fits .boolean (.int v) = true := by
  rcases Decidable.not_not.mp h with h | h <;> subst h <;> exact ⟨rfl, rfl⟩
theorem zc4 {i : Int32} (h : ¬ (i < 0 ∨ 4 ≤ i.toNatClampNeg)) : i.toNatClampNeg = 0 ∨ i.toNatClampNeg = 1 ∨ i.toNatClampNeg = 2 ∨ i.toNatClampNeg = 3 := by
  have h1 : ¬ 4 ≤ i.toNatClampNeg := fun z => h (Or.inr z)
  omega
theorem zc4n {j : Nat} (h : j < 4) : j = 0 ∨ j = 1 ∨ j = 2 ∨ j = 3 := by omega
def gsF (k j : Nat) : Int32 := (([[3, 2, 90, 20], [9, 9, 99, 99], [-1, 0, 0, 1, 2, 0], [10, 11, 12, 13, 10, 20, 12, 13, 30, 11, 12, 31, 51, 20, 50, 13, 40, 41, 12, 31, 10, 11, 61, 60]] : List (List Int32)).getD k []).getD j 0
def gkB : List (List Int32) := [[103, 117, 101, 115, 116], [110, 105, 101, 99, 101], [97, 99, 116, 117, 97, 114, 121], [104, 101, 105, 114], [99, 108, 101, 114, 107], [103, 105, 114, 108], [119, 105, 116, 104], [103, 111, 110, 101], [100, 114, 111, 119, 110, 101, 100], [116, 111, 108, 100], [98, 114, 101, 97, 116, 104], [115, 97, 108, 116], [100, 101, 112, 116, 104], [115, 108, 105, 112]]
def gkL : List Nat := [5, 5, 7, 4, 5, 4, 4, 4, 7, 4, 6, 4, 5, 4]
def fJ0_length_8abf5 (n : Nat) (j : Nat) : Option Int32 := some (nI (gkL.getD j 0))
def fJ0_charAt_5068e (n : Nat) (j : Nat) (x1 : Int32) : Option Int32 := if x1 < 0 ∨ gkL.getD j 0 ≤ x1.toNatClampNeg then none else some ((gkB.getD j []).getD x1.toNatClampNeg 0 &&& 255)
