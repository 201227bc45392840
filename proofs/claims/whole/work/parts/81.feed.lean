/-! PURE, 22: the tape is fed -/
/-- a byte, as the class holds it -/
def sb (v : Nat) : Int32 := (nI v).toInt8.toInt32
theorem sb_nar : ∀ v, v < 256 → vp_nar .byte (sb v) = sb v := by decide +kernel
theorem low8 (X : BitVec 64) (k : Nat) (hk : k ≤ 56) : ((X >>> k).signExtend 32).signExtend 8 = ((X.sshiftRight k &&& 255#64).signExtend 32).signExtend 8 := by
  apply BitVec.eq_of_getLsbD_eq
  intro i hi
  have e255 : (255#64).getLsbD i = true := by
    rcases (show i = 0 ∨ i = 1 ∨ i = 2 ∨ i = 3 ∨ i = 4 ∨ i = 5 ∨ i = 6 ∨ i = 7 by omega) with rfl | rfl | rfl | rfl | rfl | rfl | rfl | rfl <;> rfl
  simp only [BitVec.getLsbD_signExtend, BitVec.getLsbD_and, BitVec.getLsbD_ushiftRight, BitVec.getLsbD_sshiftRight, e255]
  have h1 : i < 32 := by omega
  have h2 : i < 64 := by omega
  have h3 : k + i < 64 := by omega
  simp [hi, h1, h2, h3]
theorem eight (x : Int64) : ∀ i, i < 8 → (x.toUInt64 >>> (((8 : Int32) * nI i).toInt64.toUInt64 &&& Int64.toUInt64 63)).toInt64.toInt32.toInt8 = ((x >>> (((8 : Int32) * nI i).toInt64 &&& 63)) &&& (255 : Int64)).toInt32.toInt8 := by
  intro i hi
  apply Int8.toBitVec_inj.mp
  rcases (show i = 0 ∨ i = 1 ∨ i = 2 ∨ i = 3 ∨ i = 4 ∨ i = 5 ∨ i = 6 ∨ i = 7 by omega) with rfl | rfl | rfl | rfl | rfl | rfl | rfl | rfl
  · exact low8 x.toBitVec 0 (by decide)
  · exact low8 x.toBitVec 8 (by decide)
  · exact low8 x.toBitVec 16 (by decide)
  · exact low8 x.toBitVec 24 (by decide)
  · exact low8 x.toBitVec 32 (by decide)
  · exact low8 x.toBitVec 40 (by decide)
  · exact low8 x.toBitVec 48 (by decide)
  · exact low8 x.toBitVec 56 (by decide)
theorem and255 (y : Int64) : ∃ v, v < 256 ∧ (y &&& (255 : Int64)).toInt32 = nI v := by
  refine ⟨y.toBitVec.toNat % 256, Nat.mod_lt _ (by decide), ?_⟩
  apply Int32.toBitVec_inj.mp
  show (y.toBitVec &&& 255#64).signExtend 32 = BitVec.ofNat 32 (y.toBitVec.toNat % 256)
  apply BitVec.eq_of_getLsbD_eq
  intro i hi
  have e255 : (255#64).getLsbD i = decide (i < 8) := by
    show (2 ^ 8 - 1).testBit i = _
    rw [Nat.testBit_two_pow_sub_one]
  have h2 : i < 64 := by omega
  rw [BitVec.getLsbD_signExtend, BitVec.getLsbD_and, e255, BitVec.getLsbD_ofNat, show 256 = 2 ^ 8 from rfl, Nat.testBit_mod_two_pow]
  simp [hi, h2, BitVec.testBit_toNat, Bool.and_comm]
/-- the tapes are one -/
def HB (by' tp : Nat → Int32) (b : Nat → Nat) (L : Nat) : Prop := L ≤ 200 ∧ ∀ i, i < L → b i < 256 ∧ by' i = sb (b i) ∧ tp i = nI (b i)
def RelA (uA : TP) (taped : Int32) (tp : Nat → Int32) : Prop := ∃ (b : Nat → Nat) (L : Nat), uA.2.1 = nI L ∧ taped = nI L ∧ HB uA.1 tp b L
def moTape (uM : MO) (v : Int32) : MO := (uM.1, v, uM.2.2)
theorem feedL {n : Nat} {uK : Int32} {x1 : Int64} {N : Nat} (hN : N ≤ 8) : ∀ (k i m : Nat) (uA : TP) (uM : MO) (tp : Nat → Int32) (b : Nat → Nat) (L : Nat), i + k = N → k < m → L + k ≤ 200 → uA.2.1 = nI L → uM.2.1 = nI L → HB uA.1 tp b L → ∃ (A : Int32) (A' : TP) (tp' : Nat → Int32), lpF (fX6_feed_F33 n uK x1 (nI N)) m (uA, nI i) = some (A, A') ∧ lpF (fX7_feed_F32 n x1 (nI N)) m (uM, tp, nI i) = some (A, moTape uM A, tp') ∧ RelA A' A tp' := by
  intro k
  induction k with
  | zero =>
    intro i m uA uM tp b L hi hm hL h1 h2 hB
    obtain ⟨m, rfl⟩ : ∃ x, m = x + 1 := ⟨m - 1, by omega⟩
    rw [lpS, lpS]
    unfold fX6_feed_F33 fX7_feed_F32
    rw [if_pos (nI_le (by omega) (by omega)), if_pos (nI_le (by omega) (by omega))]
    refine ⟨_, _, _, rfl, ?_, b, L, h1, h1, hB⟩
    show some (uM.2.1, uM, tp) = some (uA.2.1, (uM.1, uA.2.1, uM.2.2), tp)
    rw [h1, ← h2]
  | succ k ih =>
    intro i m uA uM tp b L hi hm hL h1 h2 hB
    obtain ⟨m, rfl⟩ : ∃ x, m = x + 1 := ⟨m - 1, by omega⟩
    obtain ⟨v, hv, ev⟩ := and255 (x1 >>> (((8 : Int32) * nI i).toInt64 &&& 63))
    have e8 := eight x1 i (by omega)
    rw [ev] at e8
    have kv : vp_nar .byte (x1.toUInt64 >>> (((8 : Int32) * nI i).toInt64.toUInt64 &&& Int64.toUInt64 63)).toInt64.toInt32.toInt8.toInt32 = sb v := by
      rw [e8]; exact sb_nar v hv
    rw [lpS, lpS]
    generalize hk1 : lpF (fX6_feed_F33 n uK x1 (nI N)) m = kk
    generalize hk2 : lpF (fX7_feed_F32 n x1 (nI N)) m = km
    unfold fX6_feed_F33 fX7_feed_F32
    simp only [h1, h2, nI_clamp (show L < 2 ^ 31 by omega), show nI i + (1 : Int32) = nI (i + 1) from nI_1 i, show nI L + (1 : Int32) = nI (L + 1) from nI_1 L, kv, ev]
    rw [if_neg (show ¬ nI N ≤ nI i from nI_ge (by omega) (by omega)), if_neg (show ¬ nI N ≤ nI i from nI_ge (by omega) (by omega)), if_neg (nI_ok2 (show L < 200 by omega) (by decide)), if_neg (nI_ok2 (show L < 200 by omega) (by decide)), ← hk1, ← hk2]
    exact ih (i + 1) m _ (moTape uM (nI (L + 1))) _ (fun j => if j = L then v else b j) (L + 1) (by omega) (by omega) (by omega) rfl rfl ⟨by omega, fun j hj => by
      by_cases e : j = L
      · subst e
        show (if j = j then v else b j) < 256 ∧ upd uA.1 j (sb v) j = sb (if j = j then v else b j) ∧ upd tp j (nI v) j = nI (if j = j then v else b j)
        rw [if_pos rfl, pk_us, pk_us]
        exact ⟨hv, rfl, rfl⟩
      · show (if j = L then v else b j) < 256 ∧ upd uA.1 L (sb v) j = sb (if j = L then v else b j) ∧ upd tp L (nI v) j = nI (if j = L then v else b j)
        rw [if_neg e, pk_un e, pk_un e]
        exact hB.2 j (by omega)⟩
theorem p_feed {n : Nat} (hn : 300 ≤ n) {uK : Int32} {uA : TP} {uM : MO} {tp : Nat → Int32} (h : RelA uA uM.2.1 tp) (x1 : Int64) (x3 : Int32) : ∃ (A : Int32) (A' : TP) (v : Int32) (tp' : Nat → Int32), fX6_feed n uK uA x1 x3 = some (A, A') ∧ fX7_feed n uM tp x1 x3 = some (A, moTape uM v, tp') ∧ RelA A' v tp' := by
  obtain ⟨b, L, h1, h2, hB⟩ := h
  have hL := hB.1
  have hR : RelA uA uM.2.1 tp := ⟨b, L, h1, h2, hB⟩
  unfold fX6_feed fX7_feed
  rw [show fX7_isIn n x3.toInt64 1 8 = fX6_within n x3 1 8 from isIn_eq x3 1 8]
  rcases out_or x3 (lo := 1) (hi := 8) (by decide) (by decide) with h3 | ⟨N, hN1, hN, rfl⟩
  · rw [show fX6_within n x3 1 8 = some 0 from k_in0 (lo := 1) (hi := 8) h3]
    exact ⟨_, _, _, _, rfl, rfl, hR⟩
  rw [show fX6_within n (nI N) 1 8 = some 1 from k_in1 (lo := 1) (hi := 8) hN1 hN (by decide)]
  simp only [Option.bind_some, if_neg i10, h1, h2, nI_add]
  by_cases q : L + N ≤ 200
  · rw [if_pos (show nI (L + N) ≤ (200 : Int32) from nI_le (b := 200) q (by decide)), if_pos (show nI (L + N) ≤ (200 : Int32) from nI_le (b := 200) q (by decide))]
    obtain ⟨A, A', tp', e1, e2, e3⟩ := feedL (n := n) (uK := uK) (x1 := x1) hN N 0 n uA uM tp b L (by omega) (by omega) q h1 h2 hB
    exact ⟨A, A', A, tp', e1, e2, e3⟩
  · rw [if_neg (show ¬ nI (L + N) ≤ (200 : Int32) from nI_ge (a := 200) (by omega) (by omega)), if_neg (show ¬ nI (L + N) ≤ (200 : Int32) from nI_ge (a := 200) (by omega) (by omega))]
    exact ⟨_, _, _, _, rfl, rfl, hR⟩
