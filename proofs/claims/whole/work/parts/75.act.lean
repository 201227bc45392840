/-! PURE, 16: acts and their bodies -/
abbrev Tr : Type := (Nat → Int32) × Nat
/-- a body begins -/
def aB (p : Tr) (x : Int32) : Tr := if p.2 < 30 then (upd p.1 p.2 x, p.2 + 1) else p
theorem aB_le {p : Tr} {x : Int32} (h : p.2 ≤ 30) : (aB p x).2 ≤ 30 := by
  unfold aB
  split
  · show p.2 + 1 ≤ 30; omega
  · exact h
def eqT (p q : Tr) : Prop := p.2 = q.2 ∧ p.2 ≤ 30 ∧ ∀ i, i < p.2 → p.1 i = q.1 i
theorem eqT_B {p q : Tr} (h : eqT p q) (x : Int32) : eqT (aB p x) (aB q x) := by
  obtain ⟨h1, h2, h3⟩ := h
  refine ⟨?_, aB_le h2, ?_⟩
  · unfold aB
    rw [← h1]
    split
    · rfl
    · exact h1
  · unfold aB
    rw [← h1]
    split
    · intro i hi
      show upd p.1 p.2 x i = upd q.1 p.2 x i
      by_cases e : i = p.2
      · subst e; rw [pk_us, pk_us]
      · rw [pk_un e, pk_un e]
        have hi' : i < p.2 + 1 := hi
        exact h3 i (by omega)
    · exact h3
abbrev stK (p : Tr) (k N A b : Int32) : SG := (p.1, nI p.2, k, N, A, b)
abbrev stM (uM : MO) (p : Tr) (k N A b : Int32) : MO := (uM.1, uM.2.1, uM.2.2.1, uM.2.2.2.1, uM.2.2.2.2.1, uM.2.2.2.2.2.1, uM.2.2.2.2.2.2.1, uM.2.2.2.2.2.2.2.1, nI p.2, k, N, A, b)
theorem k_begin {n : Nat} {p : Tr} (h : p.2 ≤ 30) (k N A b x : Int32) : fX3_begin n (stK p k N A b) x = some (stK (aB p x) k N A b) := by
  unfold fX3_begin aB
  simp only [nI_clamp (show p.2 < 2 ^ 31 by omega), show nI p.2 + (1 : Int32) = nI (p.2 + 1) from nI_1 p.2]
  by_cases q : p.2 < 30
  · rw [if_neg (show ¬ (30 : Int32) ≤ nI p.2 from nI_ge (b := 30) q (by decide)), if_neg (nI_ok2 q (by decide)), if_pos q]
  · rw [if_pos (show (30 : Int32) ≤ nI p.2 from nI_le (a := 30) (by omega) (by omega)), if_neg q]
theorem m_runs {n : Nat} {uM : MO} {p : Tr} (h : p.2 ≤ 30) (k N A b x : Int32) : fX7_runs n (stM uM p k N A b) p.1 x = some (stM uM (aB p x) k N A b, (aB p x).1) := by
  unfold fX7_runs aB
  simp only [nI_clamp (show p.2 < 2 ^ 31 by omega), show nI p.2 + (1 : Int32) = nI (p.2 + 1) from nI_1 p.2]
  by_cases q : p.2 < 30
  · rw [if_neg (show ¬ (30 : Int32) ≤ nI p.2 from nI_ge (b := 30) q (by decide)), if_neg (nI_ok2 q (by decide)), if_pos q]
  · rw [if_pos (show (30 : Int32) ≤ nI p.2 from nI_le (a := 30) (by omega) (by omega)), if_neg q]
-- what a body does: value, the thing's bodies, whether it parted by 0
abbrev Rn : Type := SG → Int32 → Int32 → Int32 → Option (Int32 × SG)
theorem K_run {n d : Nat} {p : Tr} (h : p.2 ≤ 30) {k N A c x e : Int32} (he : e ≤ 20) (Z : Rn → SG → Option (Int32 × SG)) (hz : ∀ (rn : Rn) (u : SG), FX3_run n rn u c x e = if u.2.2.2.2.2 = 0 then (if e ≤ 20 then (fX3_begin n u c).bind (fun r => Z rn r) else some (0, u)) else some (0, u)) : rX3 n (d + 1) (stK p k N A 0) c x e = Z (rX3 n d) (stK (aB p c) k N A 0) := by
  show FX3_run n (rX3 n d) (stK p k N A 0) c x e = _
  rw [hz, if_pos rfl, if_pos he, k_begin h]
  rfl
theorem K_out {n d : Nat} {u : SG} {c x e : Int32} (h : u.2.2.2.2.2 = 1) : rX3 n (d + 1) u c x e = some (0, u) := by
  show FX3_run n (rX3 n d) u c x e = _
  unfold FX3_run
  rw [h, if_neg i10]
theorem K_own {n : Nat} {rn : Rn} {u : SG} {k w : Nat} (hk : k < 6) (hw : w < 4) (hu : u.2.2.1 = nI k) (x e : Int32) : FX3_own n rn u (nI w) x e = rn u (gsF 3 (4 * k + w)) x e := by
  unfold FX3_own
  rw [hu, show (nI k * (4 : Int32)) + nI w = nI (4 * k + w) by rw [show (4 : Int32) = nI 4 from rfl, pk_mul, nI_add, Nat.mul_comm], if_neg (nI_ok (show 4 * k + w < 24 by omega) (by decide)), nI_clamp (by omega)]
  cases rn u (gsF 3 (4 * k + w)) x e <;> rfl
theorem e20 {m : Nat} (h : m ≤ 20) : nI m ≤ (20 : Int32) := nI_le (b := 20) h (by decide)
theorem e1 (m : Nat) : nI m + (1 : Int32) = nI (m + 1) := nI_1 m
-- lifts
def aLv (k : Nat) (N A x : Int32) : Int32 := if k = 2 then (x * 2 + N) * 3 else if k = 3 then (x * 2 + N) - A else if k = 4 then 0 - (x * 2 + N) * 3 else x * 2 + N
def aLt (k : Nat) (p : Tr) : Tr := if k = 2 then aB (aB p 30) 10 else if k = 3 then aB (aB p 51) 10 else if k = 4 then aB (aB (aB p 40) 30) 10 else aB p 10
theorem aLt_le {k : Nat} {p : Tr} (h : p.2 ≤ 30) : (aLt k p).2 ≤ 30 := by
  unfold aLt
  split
  · exact aB_le (aB_le h)
  split
  · exact aB_le (aB_le h)
  split
  · exact aB_le (aB_le (aB_le h))
  · exact aB_le h
theorem eqT_L {k : Nat} {p q : Tr} (h : eqT p q) : eqT (aLt k p) (aLt k q) := by
  unfold aLt
  split
  · exact eqT_B (eqT_B h _) _
  split
  · exact eqT_B (eqT_B h _) _
  split
  · exact eqT_B (eqT_B (eqT_B h _) _) _
  · exact eqT_B h _
theorem K10 {n d : Nat} {p : Tr} (h : p.2 ≤ 30) {k N A x e : Int32} (he : e ≤ 20) : rX3 n (d + 1) (stK p k N A 0) 10 x e = some (x * 2 + N, stK (aB p 10) k N A 0) :=
  K_run h he (fun rn r => some (x * 2 + r.2.2.2.1, r)) (fun rn u => rfl)
theorem K30 {n d : Nat} {p : Tr} (h : p.2 ≤ 30) {k N A x : Int32} {m : Nat} (he : m ≤ 19) : rX3 n (d + 2) (stK p k N A 0) 30 x (nI m) = some ((x * 2 + N) * 3, stK (aB (aB p 30) 10) k N A 0) := by
  rw [K_run h (e20 (by omega)) (fun rn r => (rn r 10 x (nI m + 1)).bind fun r => some (r.1 * 3, r.2)) (fun rn u => rfl)]
  show (rX3 n (d + 1) _ 10 x (nI m + 1)).bind _ = _
  rw [e1, K10 (aB_le h) (e20 (by omega))]
  rfl
theorem K40 {n d : Nat} {p : Tr} (h : p.2 ≤ 30) {k N A x : Int32} {m : Nat} (he : m ≤ 18) : rX3 n (d + 3) (stK p k N A 0) 40 x (nI m) = some (0 - (x * 2 + N) * 3, stK (aB (aB (aB p 40) 30) 10) k N A 0) := by
  rw [K_run h (e20 (by omega)) (fun rn r => (rn r 30 x (nI m + 1)).bind fun r => some (0 - r.1, r.2)) (fun rn u => rfl)]
  show (rX3 n (d + 2) _ 30 x (nI m + 1)).bind _ = _
  rw [e1, K30 (aB_le h) (by omega)]
  rfl
theorem K51 {n d : Nat} {p : Tr} (h : p.2 ≤ 30) {k N A x : Int32} {m : Nat} (he : m ≤ 19) : rX3 n (d + 2) (stK p k N A 0) 51 x (nI m) = some ((x * 2 + N) - A, stK (aB (aB p 51) 10) k N A 0) := by
  rw [K_run h (e20 (by omega)) (fun rn r => (rn r 10 x (nI m + 1)).bind fun r => some (r.1 - r.2.2.2.2.2.1, r.2)) (fun rn u => rfl)]
  show (rX3 n (d + 1) _ 10 x (nI m + 1)).bind _ = _
  rw [e1, K10 (aB_le h) (e20 (by omega))]
  rfl
theorem K_lift {n d : Nat} {p : Tr} (h : p.2 ≤ 30) {N A x : Int32} {k m : Nat} (hk : k < 6) (he : m ≤ 15) : FX3_own n (rX3 n (d + 3)) (stK p (nI k) N A 0) 0 x (nI m) = some (aLv k N A x, stK (aLt k p) (nI k) N A 0) := by
  rw [show (0 : Int32) = nI 0 from rfl, K_own hk (by decide) rfl]
  unfold aLv aLt
  rcases (show k = 0 ∨ k = 1 ∨ k = 2 ∨ k = 3 ∨ k = 4 ∨ k = 5 by omega) with rfl | rfl | rfl | rfl | rfl | rfl
  · exact K10 h (e20 (by omega))
  · exact K10 h (e20 (by omega))
  · exact K30 h (by omega)
  · exact K51 h (by omega)
  · exact K40 h (by omega)
  · exact K10 h (e20 (by omega))
theorem M10 {n : Nat} {uM : MO} {p : Tr} (h : p.2 ≤ 30) {k N A b x : Int32} : fX7_liftsPlain n (stM uM p k N A b) p.1 x = some (x * 2 + N, stM uM (aB p 10) k N A b, (aB p 10).1) := by
  unfold fX7_liftsPlain
  rw [m_runs h]
  rfl
theorem M30 {n : Nat} {uM : MO} {p : Tr} (h : p.2 ≤ 30) {k N A b x : Int32} : fX7_liftsOfActuary n (stM uM p k N A b) p.1 x = some ((x * 2 + N) * 3, stM uM (aB (aB p 30) 10) k N A b, (aB (aB p 30) 10).1) := by
  unfold fX7_liftsOfActuary
  rw [m_runs h]
  show (fX7_liftsPlain n (stM uM (aB p 30) k N A b) (aB p 30).1 x).bind _ = _
  rw [M10 (aB_le h)]
  rfl
theorem M_lift {n : Nat} {uM : MO} {p : Tr} (h : p.2 ≤ 30) {N A b x : Int32} {k : Nat} (hk : k < 6) : fX7_lifts n (stM uM p (nI k) N A b) p.1 x = some (aLv k N A x, stM uM (aLt k p) (nI k) N A b, (aLt k p).1) := by
  unfold fX7_lifts aLv aLt
  rcases (show k = 0 ∨ k = 1 ∨ k = 2 ∨ k = 3 ∨ k = 4 ∨ k = 5 by omega) with rfl | rfl | rfl | rfl | rfl | rfl
  · show (fX7_liftsPlain n (stM uM p 0 N A b) p.1 x).bind _ = _
    rw [M10 h]; rfl
  · show (fX7_liftsPlain n (stM uM p 1 N A b) p.1 x).bind _ = _
    rw [M10 h]; rfl
  · show (fX7_liftsOfActuary n (stM uM p 2 N A b) p.1 x).bind _ = _
    rw [M30 h]; rfl
  · show (fX7_runs n (stM uM p 3 N A b) p.1 51).bind _ = _
    rw [m_runs h]
    show (fX7_liftsPlain n (stM uM (aB p 51) 3 N A b) (aB p 51).1 x).bind _ = _
    rw [M10 (aB_le h)]; rfl
  · show (fX7_runs n (stM uM p 4 N A b) p.1 40).bind _ = _
    rw [m_runs h]
    show (fX7_liftsOfActuary n (stM uM (aB p 40) 4 N A b) (aB p 40).1 x).bind _ = _
    rw [M30 (aB_le h)]; rfl
  · show (fX7_liftsPlain n (stM uM p 5 N A b) p.1 x).bind _ = _
    rw [M10 h]; rfl
-- cuts
def aCp (k : Nat) (N A x : Int32) : Int32 := aLv k N A x - A * 3
def aCv (k : Nat) (N A x : Int32) : Int32 := if k = 1 then aCp k N A x + 7 else if k = 3 then aCp k N A x + 7 else if k = 4 then aCp k N A x + aLv k N A A else aCp k N A x
def aCt (k : Nat) (p : Tr) : Tr := if k = 1 then aLt k (aB (aB p 20) 11) else if k = 3 then aLt k (aB (aB p 20) 11) else if k = 4 then aLt k (aLt k (aB (aB p 41) 11)) else aLt k (aB p 11)
theorem aCt_le {k : Nat} {p : Tr} (h : p.2 ≤ 30) : (aCt k p).2 ≤ 30 := by
  unfold aCt
  split
  · exact aLt_le (aB_le (aB_le h))
  split
  · exact aLt_le (aB_le (aB_le h))
  split
  · exact aLt_le (aLt_le (aB_le (aB_le h)))
  · exact aLt_le (aB_le h)
theorem eqT_C {k : Nat} {p q : Tr} (h : eqT p q) : eqT (aCt k p) (aCt k q) := by
  unfold aCt
  split
  · exact eqT_L (eqT_B (eqT_B h _) _)
  split
  · exact eqT_L (eqT_B (eqT_B h _) _)
  split
  · exact eqT_L (eqT_L (eqT_B (eqT_B h _) _))
  · exact eqT_L (eqT_B h _)
theorem K11 {n d : Nat} {p : Tr} (h : p.2 ≤ 30) {N A x : Int32} {k m : Nat} (hk : k < 6) (he : m ≤ 14) : rX3 n (d + 4) (stK p (nI k) N A 0) 11 x (nI m) = some (aCp k N A x, stK (aLt k (aB p 11)) (nI k) N A 0) := by
  rw [K_run h (e20 (by omega)) (fun rn r => (FX3_own n rn r 0 x (nI m + 1)).bind fun r => some (r.1 - r.2.2.2.2.2.1 * 3, r.2)) (fun rn u => rfl)]
  show (FX3_own n (rX3 n (d + 3)) _ 0 x (nI m + 1)).bind _ = _
  rw [e1, K_lift (aB_le h) hk (by omega)]
  rfl
theorem K20 {n d : Nat} {p : Tr} (h : p.2 ≤ 30) {N A x : Int32} {k m : Nat} (hk : k < 6) (he : m ≤ 13) : rX3 n (d + 5) (stK p (nI k) N A 0) 20 x (nI m) = some (aCp k N A x + 7, stK (aLt k (aB (aB p 20) 11)) (nI k) N A 0) := by
  rw [K_run h (e20 (by omega)) (fun rn r => (rn r 11 x (nI m + 1)).bind fun r => some (r.1 + 7, r.2)) (fun rn u => rfl)]
  show (rX3 n (d + 4) _ 11 x (nI m + 1)).bind _ = _
  rw [e1, K11 (aB_le h) hk (by omega)]
  rfl
theorem K41 {n d : Nat} {p : Tr} (h : p.2 ≤ 30) {N A x : Int32} {k m : Nat} (hk : k < 6) (he : m ≤ 13) : rX3 n (d + 5) (stK p (nI k) N A 0) 41 x (nI m) = some (aCp k N A x + aLv k N A A, stK (aLt k (aLt k (aB (aB p 41) 11))) (nI k) N A 0) := by
  rw [K_run h (e20 (by omega)) (fun rn r => (rn r 11 x (nI m + 1)).bind fun r => (FX3_own n rn r.2 0 r.2.2.2.2.2.1 (nI m + 1)).bind fun q => some (r.1 + q.1, q.2)) (fun rn u => rfl)]
  show (rX3 n (d + 4) _ 11 x (nI m + 1)).bind _ = _
  rw [e1, K11 (aB_le h) hk (by omega)]
  show (FX3_own n (rX3 n (d + 1 + 3)) (stK _ (nI k) N A 0) 0 A (nI (m + 1))).bind _ = _
  rw [K_lift (aLt_le (aB_le (aB_le h))) hk (by omega)]
  rfl
theorem K_cut {n d : Nat} {p : Tr} (h : p.2 ≤ 30) {N A x : Int32} {k m : Nat} (hk : k < 6) (he : m ≤ 13) : FX3_own n (rX3 n (d + 5)) (stK p (nI k) N A 0) 1 x (nI m) = some (aCv k N A x, stK (aCt k p) (nI k) N A 0) := by
  rw [show (1 : Int32) = nI 1 from rfl, K_own hk (by decide) rfl]
  rcases (show k = 0 ∨ k = 1 ∨ k = 2 ∨ k = 3 ∨ k = 4 ∨ k = 5 by omega) with rfl | rfl | rfl | rfl | rfl | rfl
  · show rX3 n (d + 1 + 4) (stK p (nI 0) N A 0) 11 x (nI m) = _
    rw [K11 h hk (by omega)]; simp only [aCv, aCt, Nat.reduceEqDiff, reduceIte]
  · show rX3 n (d + 5) (stK p (nI 1) N A 0) 20 x (nI m) = _
    rw [K20 h hk (by omega)]; simp only [aCv, aCt, Nat.reduceEqDiff, reduceIte]
  · show rX3 n (d + 1 + 4) (stK p (nI 2) N A 0) 11 x (nI m) = _
    rw [K11 h hk (by omega)]; simp only [aCv, aCt, Nat.reduceEqDiff, reduceIte]
  · show rX3 n (d + 5) (stK p (nI 3) N A 0) 20 x (nI m) = _
    rw [K20 h hk (by omega)]; simp only [aCv, aCt, Nat.reduceEqDiff, reduceIte]
  · show rX3 n (d + 5) (stK p (nI 4) N A 0) 41 x (nI m) = _
    rw [K41 h hk (by omega)]; simp only [aCv, aCt, Nat.reduceEqDiff, reduceIte]
  · show rX3 n (d + 1 + 4) (stK p (nI 5) N A 0) 11 x (nI m) = _
    rw [K11 h hk (by omega)]; simp only [aCv, aCt, Nat.reduceEqDiff, reduceIte]
theorem M11 {n : Nat} {uM : MO} {p : Tr} (h : p.2 ≤ 30) {N A b x : Int32} {k : Nat} (hk : k < 6) : fX7_cutsPlain n (stM uM p (nI k) N A b) p.1 x = some (aCp k N A x, stM uM (aLt k (aB p 11)) (nI k) N A b, (aLt k (aB p 11)).1) := by
  unfold fX7_cutsPlain
  rw [m_runs h]
  show (fX7_lifts n (stM uM (aB p 11) (nI k) N A b) (aB p 11).1 x).bind _ = _
  rw [M_lift (aB_le h) hk]
  rfl
theorem M20 {n : Nat} {uM : MO} {p : Tr} (h : p.2 ≤ 30) {N A b x : Int32} {k : Nat} (hk : k < 6) : fX7_cuts_b16 n x (stM uM p (nI k) N A b) p.1 = some (aCp k N A x + 7, stM uM (aLt k (aB (aB p 20) 11)) (nI k) N A b, (aLt k (aB (aB p 20) 11)).1) := by
  unfold fX7_cuts_b16
  rw [m_runs h]
  show (fX7_cutsPlain n (stM uM (aB p 20) (nI k) N A b) (aB p 20).1 x).bind _ = _
  rw [M11 (aB_le h) hk]
  rfl
theorem M_cut {n : Nat} {uM : MO} {p : Tr} (h : p.2 ≤ 30) {N A b x : Int32} {k : Nat} (hk : k < 6) : fX7_cuts n (stM uM p (nI k) N A b) p.1 x = some (aCv k N A x, stM uM (aCt k p) (nI k) N A b, (aCt k p).1) := by
  have plain : ∀ k, k < 6 → (fX7_cutsPlain n (stM uM p (nI k) N A b) p.1 x).bind (fun r64 => some (r64.1, r64.2.1, r64.2.2)) = some (aCp k N A x, stM uM (aLt k (aB p 11)) (nI k) N A b, (aLt k (aB p 11)).1) := by
    intro k hk
    rw [M11 h hk]
    rfl
  unfold fX7_cuts
  show (if nI k = (1 : Int32) then _ else if nI k = (3 : Int32) then _ else if nI k = (4 : Int32) then _ else _) = _
  rcases (show k = 0 ∨ k = 1 ∨ k = 2 ∨ k = 3 ∨ k = 4 ∨ k = 5 by omega) with rfl | rfl | rfl | rfl | rfl | rfl
  · rw [if_neg (by decide), if_neg (by decide), if_neg (by decide), plain 0 hk]
    simp only [aCv, aCt, Nat.reduceEqDiff, reduceIte]
  · rw [if_pos (show nI 1 = (1 : Int32) from rfl), M20 h hk]
    simp only [aCv, aCt, Nat.reduceEqDiff, reduceIte]
  · rw [if_neg (by decide), if_neg (by decide), if_neg (by decide), plain 2 hk]
    simp only [aCv, aCt, Nat.reduceEqDiff, reduceIte]
  · rw [if_neg (by decide), if_pos (show nI 3 = (3 : Int32) from rfl), M20 h hk]
    simp only [aCv, aCt, Nat.reduceEqDiff, reduceIte]
  · rw [if_neg (by decide), if_neg (by decide), if_pos (show nI 4 = (4 : Int32) from rfl), m_runs h]
    show (fX7_cutsPlain n (stM uM (aB p 41) (nI 4) N A b) (aB p 41).1 x).bind _ = _
    rw [M11 (aB_le h) hk]
    show (fX7_lifts n (stM uM (aLt 4 (aB (aB p 41) 11)) (nI 4) N A b) (aLt 4 (aB (aB p 41) 11)).1 A).bind _ = _
    rw [M_lift (aLt_le (aB_le (aB_le h))) hk]
    simp only [aCv, aCt, Nat.reduceEqDiff, reduceIte, Option.bind_some]
  · rw [if_neg (by decide), if_neg (by decide), if_neg (by decide), plain 5 hk]
    simp only [aCv, aCt, Nat.reduceEqDiff, reduceIte]
-- parts
def aPv (k : Nat) (N A x : Int32) : Int32 := if k = 3 then (x * 2 / (A - N)) ^^^ 3 else if k = 5 then x / (A - N) + aLv k N A N else x / (A - N)
/-- bodies of a parting: by 0, or not -/
def aPt (z : Bool) (k : Nat) (p : Tr) : Tr := if k = 3 then aB (aB p 50) 12 else if k = 5 then (if z then aB (aB p 61) 12 else aLt k (aB (aB p 61) 12)) else aB p 12
theorem eqT_P {z : Bool} {k : Nat} {p q : Tr} (h : eqT p q) : eqT (aPt z k p) (aPt z k q) := by
  unfold aPt
  split
  · exact eqT_B (eqT_B h _) _
  split
  · split
    · exact eqT_B (eqT_B h _) _
    · exact eqT_L (eqT_B (eqT_B h _) _)
  · exact eqT_B h _
theorem subz {A N : Int32} (h : ¬ A = N) : ¬ A - N = 0 := fun z => h (by
  have := congrArg (fun v => v + N) z
  simpa using this)
theorem K12z {n d : Nat} {p : Tr} (h : p.2 ≤ 30) {k N x e : Int32} (he : e ≤ 20) : rX3 n (d + 1) (stK p k N N 0) 12 x e = some (0, stK (aB p 12) k N N 1) := by
  rw [K_run h he (fun rn r => (fX3_parted n r x).bind fun r => some (r.1, r.2)) (fun rn u => rfl)]
  unfold fX3_parted
  rw [if_pos rfl]
  rfl
theorem K12 {n d : Nat} {p : Tr} (h : p.2 ≤ 30) {k N A x e : Int32} (he : e ≤ 20) (hA : ¬ A = N) : rX3 n (d + 1) (stK p k N A 0) 12 x e = some (x / (A - N), stK (aB p 12) k N A 0) := by
  rw [K_run h he (fun rn r => (fX3_parted n r x).bind fun r => some (r.1, r.2)) (fun rn u => rfl)]
  unfold fX3_parted
  rw [if_neg hA, if_neg (subz hA)]
  rfl
theorem K_part {n d : Nat} {p : Tr} (h : p.2 ≤ 30) {N A x : Int32} {k m : Nat} (hk : k < 6) (he : m ≤ 13) (hA : ¬ A = N) : FX3_own n (rX3 n (d + 5)) (stK p (nI k) N A 0) 2 x (nI m) = some (aPv k N A x, stK (aPt false k p) (nI k) N A 0) := by
  rw [show (2 : Int32) = nI 2 from rfl, K_own hk (by decide) rfl]
  unfold aPv aPt
  rcases (show k = 0 ∨ k = 1 ∨ k = 2 ∨ k = 3 ∨ k = 4 ∨ k = 5 by omega) with rfl | rfl | rfl | rfl | rfl | rfl
  · exact K12 h (e20 (by omega)) hA
  · exact K12 h (e20 (by omega)) hA
  · exact K12 h (e20 (by omega)) hA
  · show rX3 n (d + 5) (stK p (nI 3) N A 0) 50 x (nI m) = _
    rw [K_run h (e20 (by omega)) (fun rn r => (rn r 12 (x * 2) (nI m + 1)).bind fun r => some (r.1 ^^^ 3, r.2)) (fun rn u => rfl)]
    show (rX3 n (d + 4) _ 12 (x * 2) (nI m + 1)).bind _ = _
    rw [e1, K12 (aB_le h) (e20 (by omega)) hA]
    rfl
  · exact K12 h (e20 (by omega)) hA
  · show rX3 n (d + 5) (stK p (nI 5) N A 0) 61 x (nI m) = _
    rw [K_run h (e20 (by omega)) (fun rn r => (rn r 12 x (nI m + 1)).bind fun r => (FX3_own n rn r.2 0 r.2.2.2.2.1 (nI m + 1)).bind fun q => some (r.1 + q.1, q.2)) (fun rn u => rfl)]
    show (rX3 n (d + 4) _ 12 x (nI m + 1)).bind _ = _
    rw [e1, K12 (aB_le h) (e20 (by omega)) hA]
    show (FX3_own n (rX3 n (d + 1 + 3)) (stK _ (nI 5) N A 0) 0 N (nI (m + 1))).bind _ = _
    rw [K_lift (aB_le (aB_le h)) hk (by omega)]
    rfl
theorem K_partz {n d : Nat} {p : Tr} (h : p.2 ≤ 30) {N x : Int32} {k m : Nat} (hk : k < 6) (he : m ≤ 13) : ∃ v, FX3_own n (rX3 n (d + 5)) (stK p (nI k) N N 0) 2 x (nI m) = some (v, stK (aPt true k p) (nI k) N N 1) := by
  rw [show (2 : Int32) = nI 2 from rfl, K_own hk (by decide) rfl]
  unfold aPt
  rcases (show k = 0 ∨ k = 1 ∨ k = 2 ∨ k = 3 ∨ k = 4 ∨ k = 5 by omega) with rfl | rfl | rfl | rfl | rfl | rfl
  · exact ⟨_, K12z h (e20 (by omega))⟩
  · exact ⟨_, K12z h (e20 (by omega))⟩
  · exact ⟨_, K12z h (e20 (by omega))⟩
  · refine ⟨0 ^^^ 3, ?_⟩
    show rX3 n (d + 5) (stK p (nI 3) N N 0) 50 x (nI m) = _
    rw [K_run h (e20 (by omega)) (fun rn r => (rn r 12 (x * 2) (nI m + 1)).bind fun r => some (r.1 ^^^ 3, r.2)) (fun rn u => rfl)]
    show (rX3 n (d + 4) _ 12 (x * 2) (nI m + 1)).bind _ = _
    rw [e1, K12z (aB_le h) (e20 (by omega))]
    rfl
  · exact ⟨_, K12z h (e20 (by omega))⟩
  · refine ⟨0 + 0, ?_⟩
    show rX3 n (d + 5) (stK p (nI 5) N N 0) 61 x (nI m) = _
    rw [K_run h (e20 (by omega)) (fun rn r => (rn r 12 x (nI m + 1)).bind fun r => (FX3_own n rn r.2 0 r.2.2.2.2.1 (nI m + 1)).bind fun q => some (r.1 + q.1, q.2)) (fun rn u => rfl)]
    show (rX3 n (d + 4) _ 12 x (nI m + 1)).bind _ = _
    rw [e1, K12z (aB_le h) (e20 (by omega))]
    show (FX3_own n (rX3 n (d + 3 + 1)) (stK _ (nI 5) N N 1) (nI 0) N (nI (m + 1))).bind _ = _
    rw [K_own (u := stK _ (nI 5) N N 1) hk (by decide) rfl, K_out rfl]
    rfl
theorem M12 {n : Nat} {uM : MO} {p : Tr} (h : p.2 ≤ 30) {k N A x : Int32} (hA : ¬ A = N) : fX7_partsPlain n (stM uM p k N A 0) p.1 x = some (x / (A - N), stM uM (aB p 12) k N A 0, (aB p 12).1) := by
  unfold fX7_partsPlain
  rw [m_runs h]
  show (if (0 : Int32) = 0 then (if N = A then fX7_partsPlain_b25 n x (stM uM (aB p 12) k N A 0) (aB p 12).1 else fX7_partsPlain_b30 n x (stM uM (aB p 12) k N A 0) (aB p 12).1 0) else fX7_partsPlain_b25 n x (stM uM (aB p 12) k N A 0) (aB p 12).1) = _
  rw [if_pos rfl, if_neg (fun z => hA z.symm)]
  unfold fX7_partsPlain_b30
  rw [if_neg (fun z => z (Or.inl rfl)), if_pos rfl, if_neg (subz hA)]
theorem M12z {n : Nat} {uM : MO} {p : Tr} (h : p.2 ≤ 30) {k N x : Int32} : fX7_partsPlain n (stM uM p k N N 0) p.1 x = some (0, stM uM (aB p 12) k N N 1, (aB p 12).1) := by
  unfold fX7_partsPlain
  rw [m_runs h]
  show (if (0 : Int32) = 0 then (if N = N then fX7_partsPlain_b25 n x (stM uM (aB p 12) k N N 0) (aB p 12).1 else fX7_partsPlain_b30 n x (stM uM (aB p 12) k N N 0) (aB p 12).1 0) else fX7_partsPlain_b25 n x (stM uM (aB p 12) k N N 0) (aB p 12).1) = _
  rw [if_pos rfl, if_pos rfl]
  unfold fX7_partsPlain_b25 fX7_partsPlain_b30
  rw [if_neg (fun z => z (Or.inr rfl)), if_neg i10]
theorem M_part {n : Nat} {uM : MO} {p : Tr} (h : p.2 ≤ 30) {N A x : Int32} {k : Nat} (hk : k < 6) (hA : ¬ A = N) : fX7_parts n (stM uM p (nI k) N A 0) p.1 x = some (aPv k N A x, stM uM (aPt false k p) (nI k) N A 0, (aPt false k p).1) := by
  have plain : ∀ k : Int32, (fX7_partsPlain n (stM uM p k N A 0) p.1 x).bind (fun r64 => some (r64.1, r64.2.1, r64.2.2)) = some (x / (A - N), stM uM (aB p 12) k N A 0, (aB p 12).1) := by
    intro k
    rw [M12 h hA]
    rfl
  unfold fX7_parts aPv aPt
  rcases (show k = 0 ∨ k = 1 ∨ k = 2 ∨ k = 3 ∨ k = 4 ∨ k = 5 by omega) with rfl | rfl | rfl | rfl | rfl | rfl
  · exact plain _
  · exact plain _
  · exact plain _
  · show (fX7_runs n (stM uM p (nI 3) N A 0) p.1 50).bind _ = _
    rw [m_runs h]
    show (fX7_partsPlain n (stM uM (aB p 50) (nI 3) N A 0) (aB p 50).1 (x * 2)).bind _ = _
    rw [M12 (aB_le h) hA]
    rfl
  · exact plain _
  · show (fX7_runs n (stM uM p (nI 5) N A 0) p.1 61).bind _ = _
    rw [m_runs h]
    show (fX7_partsPlain n (stM uM (aB p 61) (nI 5) N A 0) (aB p 61).1 x).bind _ = _
    rw [M12 (aB_le h) hA]
    show (fX7_lifts n (stM uM (aB (aB p 61) 12) (nI 5) N A 0) (aB (aB p 61) 12).1 N).bind _ = _
    rw [M_lift (aB_le (aB_le h)) hk]
    rfl
theorem M_partz {n : Nat} {uM : MO} {p : Tr} (h : p.2 ≤ 30) {N x : Int32} {k : Nat} (hk : k < 6) : ∃ v, fX7_parts n (stM uM p (nI k) N N 0) p.1 x = some (v, stM uM (aPt true k p) (nI k) N N 1, (aPt true k p).1) := by
  have plain : ∀ k : Int32, (fX7_partsPlain n (stM uM p k N N 0) p.1 x).bind (fun r64 => some (r64.1, r64.2.1, r64.2.2)) = some (0, stM uM (aB p 12) k N N 1, (aB p 12).1) := by
    intro k
    rw [M12z h]
    rfl
  unfold fX7_parts aPt
  rcases (show k = 0 ∨ k = 1 ∨ k = 2 ∨ k = 3 ∨ k = 4 ∨ k = 5 by omega) with rfl | rfl | rfl | rfl | rfl | rfl
  · exact ⟨_, plain _⟩
  · exact ⟨_, plain _⟩
  · exact ⟨_, plain _⟩
  · refine ⟨0 ^^^ 3, ?_⟩
    show (fX7_runs n (stM uM p (nI 3) N N 0) p.1 50).bind _ = _
    rw [m_runs h]
    show (fX7_partsPlain n (stM uM (aB p 50) (nI 3) N N 0) (aB p 50).1 (x * 2)).bind _ = _
    rw [M12z (aB_le h)]
    rfl
  · exact ⟨_, plain _⟩
  · refine ⟨0, ?_⟩
    show (fX7_runs n (stM uM p (nI 5) N N 0) p.1 61).bind _ = _
    rw [m_runs h]
    show (fX7_partsPlain n (stM uM (aB p 61) (nI 5) N N 0) (aB p 61).1 x).bind _ = _
    rw [M12z (aB_le h)]
    rfl
-- tells
theorem K13 {n d : Nat} {p : Tr} (h : p.2 ≤ 30) {N A x : Int32} {k m : Nat} (hk : k < 6) (he : m ≤ 12) : rX3 n (d + 6) (stK p (nI k) N A 0) 13 x (nI m) = some (aCv k N A x ^^^ 210, stK (aCt k (aB p 13)) (nI k) N A 0) := by
  rw [K_run h (e20 (by omega)) (fun rn r => (FX3_own n rn r 1 x (nI m + 1)).bind fun r => some (r.1 ^^^ 210, r.2)) (fun rn u => rfl)]
  show (FX3_own n (rX3 n (d + 5)) _ 1 x (nI m + 1)).bind _ = _
  rw [e1, K_cut (aB_le h) hk (by omega)]
  rfl
theorem M13 {n : Nat} {uM : MO} {p : Tr} (h : p.2 ≤ 30) {N A b x : Int32} {k : Nat} (hk : k < 6) : fX7_tellsPlain n (stM uM p (nI k) N A b) p.1 x = some (aCv k N A x ^^^ 210, stM uM (aCt k (aB p 13)) (nI k) N A b, (aCt k (aB p 13)).1) := by
  unfold fX7_tellsPlain
  rw [m_runs h]
  show (fX7_cuts n (stM uM (aB p 13) (nI k) N A b) (aB p 13).1 x).bind _ = _
  rw [M_cut (aB_le h) hk]
  rfl
/-- both sides did the same: the same bodies, parted by 0 or the same value -/
def Same (rK : Option (Int32 × SG)) (rM : Option (Int32 × MO × (Nat → Int32))) (uM : MO) (k N A : Int32) : Prop := ∃ (v v' b : Int32) (p q : Tr), rK = some (v, stK p k N A b) ∧ rM = some (v', stM uM q k N A b, q.1) ∧ eqT p q ∧ (b = 1 ∨ (b = 0 ∧ v = v'))
theorem S_31 {n d : Nat} {uM : MO} {p q : Tr} (h : eqT p q) {N A x : Int32} {k : Nat} (hk : k < 6) : Same (rX3 n (d + 7) (stK p (nI k) N A 0) 31 x 0) (fX7_tells_b16 n x (stM uM q (nI k) N A 0) q.1) uM (nI k) N A := by
  have hp := h.2.1
  have hq : q.2 ≤ 30 := h.1 ▸ h.2.1
  have eK : rX3 n (d + 7) (stK p (nI k) N A 0) 31 x (nI 0) = (FX3_own n (rX3 n (d + 6)) (stK (aCt k (aB (aB p 31) 13)) (nI k) N A 0) 2 N (nI 1)).bind fun r => some ((aCv k N A x ^^^ 210) - r.1, r.2) := by
    rw [K_run hp (e20 (by omega)) (fun rn r => (rn r 13 x (nI 0 + 1)).bind fun r => (FX3_own n rn r.2 2 r.2.2.2.2.1 (nI 0 + 1)).bind fun q => some (r.1 - q.1, q.2)) (fun rn u => rfl)]
    show (rX3 n (d + 6) _ 13 x (nI 0 + 1)).bind _ = _
    rw [e1, K13 (aB_le hp) hk (by omega)]
    rfl
  have eM : fX7_tells_b16 n x (stM uM q (nI k) N A 0) q.1 = (fX7_parts n (stM uM (aCt k (aB (aB q 31) 13)) (nI k) N A 0) (aCt k (aB (aB q 31) 13)).1 N).bind fun r => some ((aCv k N A x ^^^ 210) - r.1, r.2.1, r.2.2) := by
    unfold fX7_tells_b16
    rw [m_runs hq]
    show (fX7_tellsPlain n (stM uM (aB q 31) (nI k) N A 0) (aB q 31).1 x).bind _ = _
    rw [M13 (aB_le hq) hk]
    rfl
  rw [show rX3 n (d + 7) (stK p (nI k) N A 0) 31 x 0 = _ from eK, eM]
  have hT : eqT (aCt k (aB (aB p 31) 13)) (aCt k (aB (aB q 31) 13)) := eqT_C (eqT_B (eqT_B h _) _)
  by_cases hA : A = N
  · subst hA
    obtain ⟨v, e⟩ := K_partz (n := n) (d := d + 1) (aCt_le (k := k) (aB_le (x := 13) (aB_le (x := 31) hp))) (N := A) (x := A) hk (show 1 ≤ 13 by decide)
    obtain ⟨v', e'⟩ := M_partz (n := n) (uM := uM) (aCt_le (k := k) (aB_le (x := 13) (aB_le (x := 31) hq))) (N := A) (x := A) hk
    rw [e, e']
    exact ⟨_, _, _, _, _, rfl, rfl, eqT_P hT, Or.inl rfl⟩
  · rw [K_part (d := d + 1) (aCt_le (aB_le (aB_le hp))) hk (by decide) hA, M_part (aCt_le (aB_le (aB_le hq))) hk hA]
    exact ⟨_, _, _, _, _, rfl, rfl, eqT_P hT, Or.inr ⟨rfl, rfl⟩⟩
theorem S_tell {n : Nat} {uM : MO} {p q : Tr} (h : eqT p q) {N A x : Int32} {k : Nat} (hk : k < 6) : Same (fX3_own n (stK p (nI k) N A 0) 3 x 0) (fX7_tells n (stM uM q (nI k) N A 0) q.1 x) uM (nI k) N A := by
  have hp := h.2.1
  have hq : q.2 ≤ 30 := h.1 ▸ h.2.1
  have plain : ∀ k, k < 6 → Same (rX3 n 24 (stK p (nI k) N A 0) 13 x (nI 0)) ((fX7_tellsPlain n (stM uM q (nI k) N A 0) q.1 x).bind fun r => some (r.1, r.2.1, r.2.2)) uM (nI k) N A := by
    intro k hk
    rw [K13 (d := 18) hp hk (by decide), M13 hq hk]
    exact ⟨_, _, _, _, _, rfl, rfl, eqT_C (eqT_B h _), Or.inr ⟨rfl, rfl⟩⟩
  unfold fX3_own
  rw [show FX3_own n (rX3 n 24) (stK p (nI k) N A 0) 3 x 0 = rX3 n 24 (stK p (nI k) N A 0) (gsF 3 (4 * k + 3)) x 0 from K_own (w := 3) hk (by decide) rfl x 0]
  unfold fX7_tells
  rcases (show k = 0 ∨ k = 1 ∨ k = 2 ∨ k = 3 ∨ k = 4 ∨ k = 5 by omega) with rfl | rfl | rfl | rfl | rfl | rfl
  · exact plain 0 hk
  · exact plain 1 hk
  · exact S_31 (d := 17) h hk
  · exact plain 3 hk
  · exact S_31 (d := 17) h hk
  · show Same (rX3 n 24 (stK p (nI 5) N A 0) 60 x (nI 0)) ((fX7_runs n (stM uM q (nI 5) N A 0) q.1 60).bind fun r50 => (fX7_tellsPlain n r50.1 r50.2 x).bind fun r55 => some (r55.1 * 4, r55.2.1, r55.2.2)) uM (nI 5) N A
    rw [K_run (d := 23) hp (e20 (by omega)) (fun rn r => (rn r 13 x (nI 0 + 1)).bind fun r => some (r.1 * 4, r.2)) (fun rn u => rfl), m_runs hq]
    show Same ((rX3 n (17 + 6) _ 13 x (nI 0 + 1)).bind _) ((fX7_tellsPlain n (stM uM (aB q 60) (nI 5) N A 0) (aB q 60).1 x).bind _) uM (nI 5) N A
    rw [e1, K13 (aB_le hp) hk (by omega), M13 (aB_le hq) hk]
    exact ⟨_, _, _, _, _, rfl, rfl, eqT_C (eqT_B (eqT_B h _) _), Or.inr ⟨rfl, rfl⟩⟩
def RelG (uG : SG) (ran : Int32) (bo : Nat → Int32) : Prop := ∃ c, uG.2.1 = nI c ∧ ran = nI c ∧ eqT (uG.1, c) (bo, c)
theorem m_act123 {n : Nat} {s hw hi : Nat → Int32} {x1 x2 x3 : Int32} {uM : MO} {bo : Nat → Int32} {w : Int32} : fX7_act_b123 n s hw hi x1 x2 x3 uM bo w = if uM.2.2.2.2.2.2.2.2.2.2.2.2 = 0 then some (w, uM, bo) else some (-15, uM, bo) := rfl
theorem S_end {n : Nat} {s hw hi : Nat → Int32} {x1 x2 x3 : Int32} {rK : Option (Int32 × SG)} {rM : Option (Int32 × MO × (Nat → Int32))} {uM : MO} {k N A : Int32} (h : Same rK rM uM k N A) : ∃ (V : Int32) (G' : SG) (q : Tr) (b : Int32), ((rK.bind fun r31 => if r31.2.2.2.2.2.2 = 0 then some (r31.1, r31.2) else some (-15, r31.2)).bind fun r80 => some (r80.1, r80.2)) = some (V, G') ∧ (rM.bind fun r => fX7_act_b123 n s hw hi x1 x2 x3 r.2.1 r.2.2 r.1) = some (V, stM uM q k N A b, q.1) ∧ RelG G' (nI q.2) q.1 := by
  obtain ⟨v, v', b, p, q, rfl, rfl, hT, hb⟩ := h
  have hG : RelG (stK p k N A b) (nI q.2) q.1 := ⟨p.2, rfl, by rw [hT.1], rfl, hT.2.1, hT.2.2⟩
  rcases hb with rfl | ⟨rfl, rfl⟩
  · exact ⟨-15, _, q, 1, rfl, rfl, hG⟩
  · exact ⟨v, _, q, 0, rfl, rfl, hG⟩
theorem p_act {n : Nat} {uK : Int32} {uN : TB} {uF : SF} {uG : SG} {uM : MO} {s hw hi hm bo : Nat → Int32} (h : RelT uN s) (hF : RelF uF hw hi hm) (x1 x2 x3 : Int32) : ∃ (V : Int32) (G' : SG) (q : Tr) (k N A b : Int32), fX6_act n uK uN uF uG x1 x2 x3 = some (V, G') ∧ fX7_act n uM s hw hi bo x1 x2 x3 = some (V, stM uM q k N A b, q.1) ∧ RelG G' (nI q.2) q.1 := by
  obtain ⟨t, hK, hM, hO⟩ := h
  have hE : RelG (uG.1, 0, uG.2.2.1, uG.2.2.2.1, uG.2.2.2.2.1, uG.2.2.2.2.2) (nI 0) bo := ⟨0, rfl, rfl, rfl, Nat.zero_le _, fun i hi => absurd hi (Nat.not_lt_zero i)⟩
  unfold fX6_act fX7_act
  rcases out_or x1 (lo := 0) (hi := 3) (by decide) (by decide) with h1 | ⟨j, -, hj, rfl⟩
  · rw [show fX6_within n x1 0 3 = some 0 from k_in0 (lo := 0) (hi := 3) h1, m_shelf0 h1]
    exact ⟨_, _, (bo, 0), _, _, _, _, rfl, rfl, hE⟩
  have j4 : ¬ (nI j < 0 ∨ 4 ≤ j) := nI_ok2 (show j < 4 by omega) (by decide)
  have cj : (nI j).toNatClampNeg = j := nI_clamp (by omega)
  rw [show fX6_within n (nI j) 0 3 = some 1 from k_in1 (lo := 0) (hi := 3) (by omega) hj (by decide), m_shelf1 hj, show fX7_isIn n x2.toInt64 0 3 = fX6_within n x2 0 3 from isIn_eq x2 0 3]
  rcases out_or x2 (lo := 0) (hi := 3) (by decide) (by decide) with h2 | ⟨w, -, hw2, rfl⟩
  · rw [show fX6_within n x2 0 3 = some 0 from k_in0 (lo := 0) (hi := 3) h2]
    exact ⟨_, _, (bo, 0), _, _, _, _, rfl, rfl, hE⟩
  rw [show fX6_within n (nI w) 0 3 = some 1 from k_in1 (lo := 0) (hi := 3) (by omega) hw2 (by decide)]
  simp only [Option.bind_some, if_neg i10, cj, if_neg j4]
  rcases heldNow (n := n) (uK := uK) (uM := (uM.1, uM.2.1, uM.2.2.1, uM.2.2.2.1, uM.2.2.2.2.1, uM.2.2.2.2.2.1, uM.2.2.2.2.2.2.1, uM.2.2.2.2.2.2.2.1, (0 : Int32), uM.2.2.2.2.2.2.2.2.2.1, uM.2.2.2.2.2.2.2.2.2.2.1, uM.2.2.2.2.2.2.2.2.2.2.2.1, uM.2.2.2.2.2.2.2.2.2.2.2.2)) hK hM hO hF (show j < 4 by omega) with ⟨g, hg, a, b, c, d⟩ | ⟨a, b, ⟨q, hq, e⟩, c, d⟩ | ⟨c, d⟩
  · have h8 : g < 8 := Nat.lt_of_lt_of_le hg hO.1
    have hk5 := (hO.2.2.1 g hg).1
    simp only [c, d, Option.bind_some, if_true, if_neg i10, a, b, nI_cl8 h8, if_neg (nI_ok2 h8 (by decide)), (hK.2.1 g hg).1, (hK.2.1 g hg).2.1, m_its0 hM hO hg, m_its1 hM hO hg]
    unfold fX3_perform
    have hT : eqT (uG.1, 0) (bo, 0) := ⟨rfl, Nat.zero_le _, fun i hi => absurd hi (Nat.not_lt_zero i)⟩
    have l0 : (uG.1, 0).2 ≤ 30 := Nat.zero_le _
    have l1 : (bo, 0).2 ≤ 30 := Nat.zero_le _
    rcases (show w = 0 ∨ w = 1 ∨ w = 2 ∨ w = 3 by omega) with rfl | rfl | rfl | rfl
    · have hs : Same (fX3_own n (stK (uG.1, 0) (nI (tK t g)) (nI g) (nI (tH t g)) 0) 0 x3 0) (fX7_lifts n (stM uM (bo, 0) (nI (tK t g)) (nI g) (nI (tH t g)) 0) bo x3) uM (nI (tK t g)) (nI g) (nI (tH t g)) := by
        unfold fX3_own
        rw [show FX3_own n (rX3 n 24) (stK (uG.1, 0) (nI (tK t g)) (nI g) (nI (tH t g)) 0) 0 x3 0 = _ from K_lift (d := 21) (m := 0) (p := (uG.1, 0)) l0 (show tK t g < 6 by omega) (by decide), M_lift (p := (bo, 0)) l1 (show tK t g < 6 by omega)]
        exact ⟨_, _, _, _, _, rfl, rfl, eqT_L hT, Or.inr ⟨rfl, rfl⟩⟩
      obtain ⟨V, G', q, b', e1, e2, e3⟩ := S_end (n := n) (s := s) (hw := hw) (hi := hi) (x1 := nI j) (x2 := nI 0) (x3 := x3) hs
      exact ⟨V, G', q, _, _, _, b', e1, e2, e3⟩
    · have hs : Same (fX3_own n (stK (uG.1, 0) (nI (tK t g)) (nI g) (nI (tH t g)) 0) 1 x3 0) (fX7_cuts n (stM uM (bo, 0) (nI (tK t g)) (nI g) (nI (tH t g)) 0) bo x3) uM (nI (tK t g)) (nI g) (nI (tH t g)) := by
        unfold fX3_own
        rw [show FX3_own n (rX3 n 24) (stK (uG.1, 0) (nI (tK t g)) (nI g) (nI (tH t g)) 0) 1 x3 0 = _ from K_cut (d := 19) (m := 0) (p := (uG.1, 0)) l0 (show tK t g < 6 by omega) (by decide), M_cut (p := (bo, 0)) l1 (show tK t g < 6 by omega)]
        exact ⟨_, _, _, _, _, rfl, rfl, eqT_C hT, Or.inr ⟨rfl, rfl⟩⟩
      obtain ⟨V, G', q, b', e1, e2, e3⟩ := S_end (n := n) (s := s) (hw := hw) (hi := hi) (x1 := nI j) (x2 := nI 1) (x3 := x3) hs
      exact ⟨V, G', q, _, _, _, b', e1, e2, e3⟩
    · have hs : Same (fX3_own n (stK (uG.1, 0) (nI (tK t g)) (nI g) (nI (tH t g)) 0) 2 x3 0) (fX7_parts n (stM uM (bo, 0) (nI (tK t g)) (nI g) (nI (tH t g)) 0) bo x3) uM (nI (tK t g)) (nI g) (nI (tH t g)) := by
        unfold fX3_own
        by_cases hA : nI (tH t g) = nI g
        · rw [hA]
          obtain ⟨v, e⟩ := K_partz (n := n) (d := 19) (m := 0) (p := (uG.1, 0)) l0 (N := nI g) (x := x3) (show tK t g < 6 by omega) (by decide)
          obtain ⟨v', e'⟩ := M_partz (n := n) (uM := uM) (p := (bo, 0)) l1 (N := nI g) (x := x3) (show tK t g < 6 by omega)
          rw [show FX3_own n (rX3 n 24) (stK (uG.1, 0) (nI (tK t g)) (nI g) (nI g) 0) 2 x3 0 = _ from e, e']
          exact ⟨_, _, _, _, _, rfl, rfl, eqT_P hT, Or.inl rfl⟩
        · rw [show FX3_own n (rX3 n 24) (stK (uG.1, 0) (nI (tK t g)) (nI g) (nI (tH t g)) 0) 2 x3 0 = _ from K_part (d := 19) (m := 0) (p := (uG.1, 0)) l0 (show tK t g < 6 by omega) (by decide) hA, M_part (p := (bo, 0)) l1 (show tK t g < 6 by omega) hA]
          exact ⟨_, _, _, _, _, rfl, rfl, eqT_P hT, Or.inr ⟨rfl, rfl⟩⟩
      obtain ⟨V, G', q, b', e1, e2, e3⟩ := S_end (n := n) (s := s) (hw := hw) (hi := hi) (x1 := nI j) (x2 := nI 2) (x3 := x3) hs
      exact ⟨V, G', q, _, _, _, b', e1, e2, e3⟩
    · have hs := S_tell (n := n) (uM := uM) hT (N := nI g) (A := nI (tH t g)) (x := x3) (show tK t g < 6 by omega)
      obtain ⟨V, G', q, b', e1, e2, e3⟩ := S_end (n := n) (s := s) (hw := hw) (hi := hi) (x1 := nI j) (x2 := nI 3) (x3 := x3) hs
      exact ⟨V, G', q, _, _, _, b', e1, e2, e3⟩
  · simp only [c, d, Option.bind_some, if_neg i10, if_neg (show ¬ (2 : Int32) = 1 by decide)]
    exact ⟨_, _, (bo, 0), _, _, _, _, rfl, rfl, hE⟩
  · simp only [c, d, Option.bind_some, if_neg (show ¬ (2 : Int32) = 0 by decide), if_neg (show ¬ (0 : Int32) = 1 by decide)]
    exact ⟨_, _, (bo, 0), _, _, _, _, rfl, rfl, hE⟩
theorem p_trace {n : Nat} {uK : Int32} {uG : SG} {uM : MO} {bo : Nat → Int32} (hG : RelG uG uM.2.2.2.2.2.2.2.2.1 bo) (x1 : Int32) : ∃ A : Int32, fX6_trace n uK uG x1 = some A ∧ fX7_trace n uM bo x1 = some A := by
  obtain ⟨c, h1, h2, -, h3, h4⟩ := hG
  have h3' : c ≤ 30 := h3
  unfold fX6_trace fX7_trace
  rw [h1, h2, show fX7_isIn n x1.toInt64 (0 : Int64) (nI c - 1).toInt64 = fX6_within n x1 0 (nI c - 1) from isIn_eq x1 0 (nI c - 1)]
  rcases lt_or x1 (c := c) (by omega) with h | ⟨k, hk, rfl⟩
  · rw [w_one0 (by omega) h]
    exact ⟨_, rfl, rfl⟩
  · rw [w_one1 (by omega) hk]
    simp only [Option.bind_some, if_neg i10, nI_clamp (show k < 2 ^ 31 by omega), if_neg (nI_ok2 (show k < 30 by omega) (by decide)), show uG.1 k = bo k from h4 k hk]
    exact ⟨_, rfl, rfl⟩
