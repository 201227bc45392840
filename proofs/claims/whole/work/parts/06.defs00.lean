abbrev TB : Type := (Nat → Int32) × (Nat → Int32) × (Nat → Int32) × (Nat → Int32) × (Nat → Int32) × Int32 × Int32 × Int32 × Int32 × Int32
abbrev TP : Type := (Nat → Int32) × Int32 × Int32 × Int32 × Int32 × Int32
abbrev RW : Type := (Nat → Int32) × Int32
abbrev SH : Type := (Nat → Nat → Int64) × (Nat → Int32) × (Nat → Int32)
abbrev SF : Type := (Nat → Int32) × (Nat → Int32) × (Nat → Int32) × (Nat → Int32)
abbrev SG : Type := (Nat → Int32) × Int32 × Int32 × Int32 × Int32 × Int32
abbrev SHT : Type := (Nat → Int64) × Int32 × Int32
abbrev SFT : Type := Int32 × Int32 × Int32 × Int32
abbrev MO : Type := Int32 × Int32 × Int32 × Int32 × Int32 × Int32 × Int32 × Int32 × Int32 × Int32 × Int32 × Int32 × Int32
def fX3_begin (n : Nat) (uG : SG) (x1 : Int32) : Option (SG) :=
  if (30 : Int32) ≤ uG.2.1 then
  (some uG)
  else
  (if uG.2.1 < 0 ∨ 30 ≤ uG.2.1.toNatClampNeg then none else
  some ((upd uG.1 uG.2.1.toNatClampNeg x1), (uG.2.1 + (1 : Int32)), uG.2.2.1, uG.2.2.2.1, uG.2.2.2.2.1, uG.2.2.2.2.2))
def fX3_parted (n : Nat) (uG : SG) (x1 : Int32) : Option (Int32 × SG) :=
  if uG.2.2.2.2.1 = uG.2.2.2.1 then
  (some ((0 : Int32), (uG.1, uG.2.1, uG.2.2.1, uG.2.2.2.1, uG.2.2.2.2.1, (1 : Int32))))
  else
  (if (uG.2.2.2.2.1 - uG.2.2.2.1) = 0 then none else
  some ((x1 / (uG.2.2.2.2.1 - uG.2.2.2.1)), uG))
def fX6_within (n : Nat) (x0 : Int32) (x1 : Int32) (x2 : Int32) : Option (Int32) :=
  if x0 < x1 then
  (some (0 : Int32))
  else
  (if x2 < x0 then
  (some (0 : Int32))
  else
  (some (1 : Int32)))
def fX0_has (n : Nat) (uW : RW) (x1 : Int32) (x2 : Int32) : Option (Int32) :=
  (fX6_within n x1 (0 : Int32) (uW.2 - (1 : Int32))).bind fun r8 =>
  if r8 = 0 then
  (some (0 : Int32))
  else
  ((fX6_within n x2 (0 : Int32) (2 : Int32)).bind fun r17 =>
  if r17 = 0 then
  (some (0 : Int32))
  else
  (some (1 : Int32)))
def fJ7_fill_d0a16_F6 (n : Nat) (x1 : Int64)  (k6 : ((Nat → Int64) × Int32 × Int32) → Option ((Nat → Int64))) (v6 : (Nat → Int64) × Int32 × Int32) : Option ((Nat → Int64)) :=
  if v6.2.2 ≤ v6.2.1 then
  (some v6.1)
  else
  (if v6.2.1 < 0 ∨ 40 ≤ v6.2.1.toNatClampNeg then none else
  k6 ((vp_updL v6.1 v6.2.1.toNatClampNeg x1), (v6.2.1 + (1 : Int32)), v6.2.2))
def fJ7_fill_d0a16 (n : Nat) (uj : Nat → Int64) (x1 : Int64) : Option ((Nat → Int64)) :=
  lpF (fJ7_fill_d0a16_F6 n x1 ) n (uj, (0 : Int32), (40 : Int32))
def fX1_become (n : Nat) (uH : SHT) (x1 : Int32) (x2 : Int32) : Option (SHT) :=
  (fJ7_fill_d0a16 n uH.1 (0 : Int64)).bind fun r15 =>
  some (r15, x1, x2)
def fX2_holdGuest (n : Nat) (uV : SFT) (x1 : Int32) : Option (SFT) :=
  some ((0 : Int32), x1, uV.2.2.1, uV.2.2.2)
def fX2_holdRow_b14 (n : Nat) (uH : SHT)  (uV : SFT) (w1 : Int32) : Option (SFT) :=
  some (w1, uV.2.1, uH.2.1, uH.2.2)
def fX2_holdRow (n : Nat) (uV : SFT) (uH : SHT) : Option (SFT) :=
  if uH.2.1 = (-1 : Int32) then
  (fX2_holdRow_b14 n uH  uV (2 : Int32))
  else
  (fX2_holdRow_b14 n uH  uV (1 : Int32))
def FX3_own (n : Nat) (rn : SG → Int32 → Int32 → Int32 → Option (Int32 × SG)) (uG : SG) (x1 : Int32) (x2 : Int32) (x3 : Int32) : Option (Int32 × SG) :=
  if ((uG.2.2.1 * (4 : Int32)) + x1) < 0 ∨ 24 ≤ ((uG.2.2.1 * (4 : Int32)) + x1).toNatClampNeg then none else
  (rn uG (gsF 3 ((uG.2.2.1 * (4 : Int32)) + x1).toNatClampNeg) x2 x3).bind fun r15 =>
  some (r15.1, r15.2)
def FX3_run (n : Nat) (rn : SG → Int32 → Int32 → Int32 → Option (Int32 × SG)) (uG : SG) (x1 : Int32) (x2 : Int32) (x3 : Int32) : Option (Int32 × SG) :=
  if uG.2.2.2.2.2 = 0 then
  (if x3 ≤ (20 : Int32) then
  ((fX3_begin n uG x1).bind fun r17 =>
  if x1 = (10 : Int32) then
  (some (((x2 * (2 : Int32)) + r17.2.2.2.1), r17))
  else if x1 = (11 : Int32) then
  ((FX3_own n rn r17 (0 : Int32) x2 (x3 + (1 : Int32))).bind fun r262 =>
  some ((r262.1 - (r262.2.2.2.2.2.1 * (3 : Int32))), r262.2))
  else if x1 = (12 : Int32) then
  ((fX3_parted n r17 x2).bind fun r275 =>
  some (r275.1, r275.2))
  else if x1 = (13 : Int32) then
  ((FX3_own n rn r17 (1 : Int32) x2 (x3 + (1 : Int32))).bind fun r284 =>
  some ((r284.1 ^^^ (210 : Int32)), r284.2))
  else if x1 = (14 : Int32) then
  (some ((0 : Int32), r17))
  else if x1 = (15 : Int32) then
  (some ((0 : Int32), r17))
  else if x1 = (16 : Int32) then
  (some ((0 : Int32), r17))
  else if x1 = (17 : Int32) then
  (some ((0 : Int32), r17))
  else if x1 = (18 : Int32) then
  (some ((0 : Int32), r17))
  else if x1 = (19 : Int32) then
  (some ((0 : Int32), r17))
  else if x1 = (20 : Int32) then
  ((rn r17 (11 : Int32) x2 (x3 + (1 : Int32))).bind fun r298 =>
  some ((r298.1 + (7 : Int32)), r298.2))
  else if x1 = (21 : Int32) then
  (some ((0 : Int32), r17))
  else if x1 = (22 : Int32) then
  (some ((0 : Int32), r17))
  else if x1 = (23 : Int32) then
  (some ((0 : Int32), r17))
  else if x1 = (24 : Int32) then
  (some ((0 : Int32), r17))
  else if x1 = (25 : Int32) then
  (some ((0 : Int32), r17))
  else if x1 = (26 : Int32) then
  (some ((0 : Int32), r17))
  else if x1 = (27 : Int32) then
  (some ((0 : Int32), r17))
  else if x1 = (28 : Int32) then
  (some ((0 : Int32), r17))
  else if x1 = (29 : Int32) then
  (some ((0 : Int32), r17))
  else if x1 = (30 : Int32) then
  ((rn r17 (10 : Int32) x2 (x3 + (1 : Int32))).bind fun r311 =>
  some ((r311.1 * (3 : Int32)), r311.2))
  else if x1 = (31 : Int32) then
  ((rn r17 (13 : Int32) x2 (x3 + (1 : Int32))).bind fun r323 =>
  (FX3_own n rn r323.2 (2 : Int32) r323.2.2.2.2.1 (x3 + (1 : Int32))).bind fun r334 =>
  some ((r323.1 - r334.1), r334.2))
  else if x1 = (32 : Int32) then
  (some ((0 : Int32), r17))
  else if x1 = (33 : Int32) then
  (some ((0 : Int32), r17))
  else if x1 = (34 : Int32) then
  (some ((0 : Int32), r17))
  else if x1 = (35 : Int32) then
  (some ((0 : Int32), r17))
  else if x1 = (36 : Int32) then
  (some ((0 : Int32), r17))
  else if x1 = (37 : Int32) then
  (some ((0 : Int32), r17))
  else if x1 = (38 : Int32) then
  (some ((0 : Int32), r17))
  else if x1 = (39 : Int32) then
  (some ((0 : Int32), r17))
  else if x1 = (40 : Int32) then
  ((rn r17 (30 : Int32) x2 (x3 + (1 : Int32))).bind fun r346 =>
  some (((0 : Int32) - r346.1), r346.2))
  else if x1 = (41 : Int32) then
  ((rn r17 (11 : Int32) x2 (x3 + (1 : Int32))).bind fun r357 =>
  (FX3_own n rn r357.2 (0 : Int32) r357.2.2.2.2.2.1 (x3 + (1 : Int32))).bind fun r368 =>
  some ((r357.1 + r368.1), r368.2))
  else if x1 = (42 : Int32) then
  (some ((0 : Int32), r17))
  else if x1 = (43 : Int32) then
  (some ((0 : Int32), r17))
  else if x1 = (44 : Int32) then
  (some ((0 : Int32), r17))
  else if x1 = (45 : Int32) then
  (some ((0 : Int32), r17))
  else if x1 = (46 : Int32) then
  (some ((0 : Int32), r17))
  else if x1 = (47 : Int32) then
  (some ((0 : Int32), r17))
  else if x1 = (48 : Int32) then
  (some ((0 : Int32), r17))
  else if x1 = (49 : Int32) then
  (some ((0 : Int32), r17))
  else if x1 = (50 : Int32) then
  ((rn r17 (12 : Int32) (x2 * (2 : Int32)) (x3 + (1 : Int32))).bind fun r381 =>
  some ((r381.1 ^^^ (3 : Int32)), r381.2))
  else if x1 = (51 : Int32) then
  ((rn r17 (10 : Int32) x2 (x3 + (1 : Int32))).bind fun r393 =>
  some ((r393.1 - r393.2.2.2.2.2.1), r393.2))
  else if x1 = (52 : Int32) then
  (some ((0 : Int32), r17))
  else if x1 = (53 : Int32) then
  (some ((0 : Int32), r17))
  else if x1 = (54 : Int32) then
  (some ((0 : Int32), r17))
  else if x1 = (55 : Int32) then
  (some ((0 : Int32), r17))
  else if x1 = (56 : Int32) then
  (some ((0 : Int32), r17))
  else if x1 = (57 : Int32) then
  (some ((0 : Int32), r17))
  else if x1 = (58 : Int32) then
  (some ((0 : Int32), r17))
  else if x1 = (59 : Int32) then
  (some ((0 : Int32), r17))
  else if x1 = (60 : Int32) then
  ((rn r17 (13 : Int32) x2 (x3 + (1 : Int32))).bind fun r408 =>
  some ((r408.1 * (4 : Int32)), r408.2))
  else if x1 = (61 : Int32) then
  ((rn r17 (12 : Int32) x2 (x3 + (1 : Int32))).bind fun r420 =>
  (FX3_own n rn r420.2 (0 : Int32) r420.2.2.2.2.1 (x3 + (1 : Int32))).bind fun r431 =>
  some ((r420.1 + r431.1), r431.2))
  else 
  (some ((0 : Int32), r17)))
  else
  (some ((0 : Int32), uG)))
  else
  (some ((0 : Int32), uG))
def rX3 (n : Nat) : Nat → SG → Int32 → Int32 → Int32 → Option (Int32 × SG)
  | 0, _, _, _, _ => none
  | d + 1, u, a, b, c => FX3_run n (rX3 n d) u a b c
def fX3_own (n : Nat) (uG : SG) (x1 x2 x3 : Int32) : Option (Int32 × SG) := FX3_own n (rX3 n 24) uG x1 x2 x3
def fX3_perform (n : Nat) (uG : SG) (x1 : Int32) (x2 : Int32) (x3 : Int32) (x4 : Int32) (x5 : Int32) : Option (Int32 × SG) :=
  (fX3_own n (uG.1, (0 : Int32), x1, x2, x3, (0 : Int32)) x4 x5 (0 : Int32)).bind fun r31 =>
  if r31.2.2.2.2.2.2 = 0 then
  (some (r31.1, r31.2))
  else
  (some ((-15 : Int32), r31.2))
def fX4_clear (n : Nat) (uT : TB) : Option (TB) :=
  some ((va_cpy (gsF 0) uT.1 (0 : Int32).toNatClampNeg (0 : Int32).toNatClampNeg (4 : Int32).toNatClampNeg), uT.2.1, uT.2.2.1, uT.2.2.2.1, uT.2.2.2.2.1, (0 : Int32), (0 : Int32), (0 : Int32), (0 : Int32), uT.2.2.2.2.2.2.2.2.2)
def fX4_copyFrom (n : Nat) (uT : TB) (uO : TB) : Option (TB) :=
  some ((va_cpy uO.1 uT.1 (0 : Int32).toNatClampNeg (0 : Int32).toNatClampNeg (4 : Int32).toNatClampNeg), (va_cpy uO.2.1 uT.2.1 (0 : Int32).toNatClampNeg (0 : Int32).toNatClampNeg (8 : Int32).toNatClampNeg), (va_cpy uO.2.2.1 uT.2.2.1 (0 : Int32).toNatClampNeg (0 : Int32).toNatClampNeg (8 : Int32).toNatClampNeg), (va_cpy uO.2.2.2.1 uT.2.2.2.1 (0 : Int32).toNatClampNeg (0 : Int32).toNatClampNeg (8 : Int32).toNatClampNeg), (va_cpy uO.2.2.2.2.1 uT.2.2.2.2.1 (0 : Int32).toNatClampNeg (0 : Int32).toNatClampNeg (8 : Int32).toNatClampNeg), uO.2.2.2.2.2.1, uO.2.2.2.2.2.2.1, uO.2.2.2.2.2.2.2.1, uO.2.2.2.2.2.2.2.2.1, uO.2.2.2.2.2.2.2.2.2)
def fX4_has (n : Nat) (uT : TB) (x1 : Int32) : Option (Int32) :=
  (fX6_within n x1 (0 : Int32) (uT.2.2.2.2.2.2.1 - (1 : Int32))).bind fun r8 =>
  if ¬ (r8 = 0 ∨ r8 = 1) then none else
  some r8
def fX4_everyone (n : Nat) (uT : TB) : Option (Int32) :=
  some (((1 : Int32) <<< (uT.2.2.2.2.2.2.1 &&& 31)) - (1 : Int32))
def fX4_isDrowned (n : Nat) (uT : TB) (x1 : Int32) : Option (Int32) :=
  if ((uT.2.2.2.2.2.1 >>> (x1 &&& 31)) &&& (1 : Int32)) = (1 : Int32) then
  (some (1 : Int32))
  else
  (some (0 : Int32))
def fX4_drown (n : Nat) (uT : TB) (x1 : Int32) (x2 : Int32) : Option (TB) :=
  if x2 = 0 then
  (some (uT.1, uT.2.1, uT.2.2.1, uT.2.2.2.1, uT.2.2.2.2.1, (uT.2.2.2.2.2.1 &&& (((1 : Int32) <<< (x1 &&& 31)) ^^^ (-1 : Int32))), uT.2.2.2.2.2.2.1, uT.2.2.2.2.2.2.2.1, uT.2.2.2.2.2.2.2.2.1, uT.2.2.2.2.2.2.2.2.2))
  else
  (some (uT.1, uT.2.1, uT.2.2.1, uT.2.2.2.1, uT.2.2.2.2.1, (uT.2.2.2.2.2.1 ||| ((1 : Int32) <<< (x1 &&& 31))), uT.2.2.2.2.2.2.1, uT.2.2.2.2.2.2.2.1, uT.2.2.2.2.2.2.2.2.1, uT.2.2.2.2.2.2.2.2.2))
def fX4_seat (n : Nat) (uT : TB) (x1 : Int32) (x2 : Int32) : Option (Int32 × TB) :=
  if uT.2.2.2.2.2.2.1 < 0 ∨ 8 ≤ uT.2.2.2.2.2.2.1.toNatClampNeg then none else
  if uT.2.2.2.2.2.2.1 < 0 ∨ 8 ≤ uT.2.2.2.2.2.2.1.toNatClampNeg then none else
  if uT.2.2.2.2.2.2.1 < 0 ∨ 8 ≤ uT.2.2.2.2.2.2.1.toNatClampNeg then none else
  if uT.2.2.2.2.2.2.1 < 0 ∨ 8 ≤ uT.2.2.2.2.2.2.1.toNatClampNeg then none else
  (fX4_drown n (uT.1, (upd uT.2.1 uT.2.2.2.2.2.2.1.toNatClampNeg x1), (upd uT.2.2.1 uT.2.2.2.2.2.2.1.toNatClampNeg x2), (upd uT.2.2.2.1 uT.2.2.2.2.2.2.1.toNatClampNeg (0 : Int32)), (upd uT.2.2.2.2.1 uT.2.2.2.2.2.2.1.toNatClampNeg (0 : Int32)), uT.2.2.2.2.2.1, uT.2.2.2.2.2.2.1, uT.2.2.2.2.2.2.2.1, uT.2.2.2.2.2.2.2.2.1, uT.2.2.2.2.2.2.2.2.2) uT.2.2.2.2.2.2.1 (0 : Int32)).bind fun r36 =>
  some (uT.2.2.2.2.2.2.1, (r36.1, r36.2.1, r36.2.2.1, r36.2.2.2.1, r36.2.2.2.2.1, r36.2.2.2.2.2.1, (r36.2.2.2.2.2.2.1 + (1 : Int32)), r36.2.2.2.2.2.2.2.1, r36.2.2.2.2.2.2.2.2.1, r36.2.2.2.2.2.2.2.2.2))
def fX4_next (n : Nat) (uT : TB) : Option (Int32) :=
  some (uT.2.2.2.2.2.2.2.2.1 - uT.2.2.2.2.2.2.2.2.1 / (8 : Int32) * (8 : Int32))
def fX4_takes (n : Nat) (uT : TB) (x1 : Int32) : Option (Int32) :=
  if x1 < 0 ∨ 8 ≤ x1.toNatClampNeg then none else
  if (uT.2.1 x1.toNatClampNeg) = (1 : Int32) then
  (some ((4 : Int32) + (uT.1 (1 : Int32).toNatClampNeg)))
  else if (uT.2.1 x1.toNatClampNeg) = (2 : Int32) then
  (some (2 : Int32))
  else if (uT.2.1 x1.toNatClampNeg) = (3 : Int32) then
  (some (((4 : Int32) + (uT.1 (1 : Int32).toNatClampNeg)) * (2 : Int32)))
  else if (uT.2.1 x1.toNatClampNeg) = (4 : Int32) then
  (some ((2 : Int32) - (uT.1 (1 : Int32).toNatClampNeg)))
  else if (uT.2.1 x1.toNatClampNeg) = (5 : Int32) then
  (if x1 < 0 ∨ 8 ≤ x1.toNatClampNeg then none else
  (fX4_next n uT).bind fun r78 =>
  if (uT.2.2.1 x1.toNatClampNeg) = r78 then
  (some (9 : Int32))
  else
  (some (4 : Int32)))
  else 
  (some (4 : Int32))
def fX4_needs (n : Nat) (uT : TB) (x1 : Int32) : Option (Int32) :=
  if x1 < 0 ∨ 8 ≤ x1.toNatClampNeg then none else
  if (uT.2.1 x1.toNatClampNeg) = (1 : Int32) then
  (some (15 : Int32))
  else if (uT.2.1 x1.toNatClampNeg) = (2 : Int32) then
  (some (30 : Int32))
  else if (uT.2.1 x1.toNatClampNeg) = (3 : Int32) then
  (some ((15 : Int32) - (uT.1 (1 : Int32).toNatClampNeg)))
  else if (uT.2.1 x1.toNatClampNeg) = (4 : Int32) then
  (if x1 < 0 ∨ 8 ≤ x1.toNatClampNeg then none else
  some ((30 : Int32) - ((uT.2.2.2.1 x1.toNatClampNeg) / (10 : Int32))))
  else if (uT.2.1 x1.toNatClampNeg) = (5 : Int32) then
  (some (10 : Int32))
  else 
  (some (20 : Int32))
def fX4_costs (n : Nat) (uT : TB) (x1 : Int32) : Option (Int32) :=
  if x1 < 0 ∨ 8 ≤ x1.toNatClampNeg then none else
  if (uT.2.1 x1.toNatClampNeg) = (2 : Int32) then
  (some (15 : Int32))
  else if (uT.2.1 x1.toNatClampNeg) = (3 : Int32) then
  (some (5 : Int32))
  else if (uT.2.1 x1.toNatClampNeg) = (4 : Int32) then
  (some ((15 : Int32) - (uT.1 (1 : Int32).toNatClampNeg)))
  else if (uT.2.1 x1.toNatClampNeg) = (5 : Int32) then
  (some (0 : Int32))
  else 
  (some (10 : Int32))
def fX6_held (n : Nat) (x0 : Int32) : Option (Int32) :=
  some (if (0 : Int32) < (if x0 < (99 : Int32) then x0 else (99 : Int32)) then (if x0 < (99 : Int32) then x0 else (99 : Int32)) else (0 : Int32))
def fX4_teller_b49 (n : Nat) (uT : TB) (k7 : (Int32 × Int32) → Option (Int32)) (y1 : Int32) (y2 : Int32) : Option (Int32) :=
  k7 (y1, (y2 + (1 : Int32)))
def fX4_teller_F7 (n : Nat) (uT : TB)  (k7 : (Int32 × Int32) → Option (Int32)) (v7 : Int32 × Int32) : Option (Int32) :=
  if uT.2.2.2.2.2.2.1 ≤ v7.2 then
  (some (-3 : Int32))
  else
  (if v7.2 < 0 ∨ 8 ≤ v7.2.toNatClampNeg then none else
  if (uT.2.2.1 v7.2.toNatClampNeg) = v7.1 then
  ((fX4_isDrowned n uT v7.2).bind fun r27 =>
  if r27 = 0 then
  (if v7.2 < 0 ∨ 8 ≤ v7.2.toNatClampNeg then none else
  (fX4_needs n uT v7.2).bind fun r41 =>
  if (uT.2.2.2.1 v7.2.toNatClampNeg) < r41 then
  (fX4_teller_b49 n uT k7 v7.1 v7.2)
  else
  (some v7.2))
  else
  (fX4_teller_b49 n uT k7 v7.1 v7.2))
  else
  (fX4_teller_b49 n uT k7 v7.1 v7.2))
def fX4_teller (n : Nat) (uT : TB) : Option (Int32) :=
  (fX4_next n uT).bind fun r1 =>
  lpF (fX4_teller_F7 n uT ) n (r1, (0 : Int32))
def fX4_tellNext (n : Nat) (uT : TB) (x1 : Int32) : Option (TB) :=
  (fX4_costs n uT x1).bind fun r2 =>
  if x1 < 0 ∨ 8 ≤ x1.toNatClampNeg then none else
  if x1 < 0 ∨ 8 ≤ x1.toNatClampNeg then none else
  if x1 < 0 ∨ 8 ≤ x1.toNatClampNeg then none else
  (fX6_held n ((uT.2.2.2.1 x1.toNatClampNeg) - r2)).bind fun r54 =>
  if x1 < 0 ∨ 8 ≤ x1.toNatClampNeg then none else
  some (uT.1, uT.2.1, uT.2.2.1, (upd uT.2.2.2.1 x1.toNatClampNeg r54), (upd uT.2.2.2.2.1 x1.toNatClampNeg (if ((uT.2.2.2.2.1 x1.toNatClampNeg) + (1 : Int32)) < (9999 : Int32) then ((uT.2.2.2.2.1 x1.toNatClampNeg) + (1 : Int32)) else (9999 : Int32))), uT.2.2.2.2.2.1, uT.2.2.2.2.2.2.1, uT.2.2.2.2.2.2.2.1, (if (uT.2.2.2.2.2.2.2.2.1 + (1 : Int32)) < (99999 : Int32) then (uT.2.2.2.2.2.2.2.2.1 + (1 : Int32)) else (99999 : Int32)), uT.2.2.2.2.2.2.2.2.2)
def fX4_serve_b113 (n : Nat) (k84 : (TB × Int32) → Option (TB)) (uT : TB) (y1 : Int32) : Option (TB) :=
  k84 (uT, (y1 + (1 : Int32)))
def fX4_serve_F84 (n : Nat)  (k84 : (TB × Int32) → Option (TB)) (v84 : TB × Int32) : Option (TB) :=
  if v84.1.2.2.2.2.2.2.1 ≤ v84.2 then
  (some (v84.1.1, v84.1.2.1, v84.1.2.2.1, v84.1.2.2.2.1, v84.1.2.2.2.2.1, v84.1.2.2.2.2.2.1, v84.1.2.2.2.2.2.2.1, (v84.1.2.2.2.2.2.2.2.1 + (1 : Int32)), v84.1.2.2.2.2.2.2.2.2.1, v84.1.2.2.2.2.2.2.2.2.2))
  else
  (if v84.2 < 0 ∨ 8 ≤ v84.2.toNatClampNeg then none else
  if (v84.1.2.2.2.1 v84.2.toNatClampNeg) ≤ (v84.1.1 (2 : Int32).toNatClampNeg) then
  (fX4_serve_b113 n k84 v84.1 v84.2)
  else
  ((fX4_drown n v84.1 v84.2 (1 : Int32)).bind fun r110 =>
  fX4_serve_b113 n k84 r110 v84.2))
def fX4_serve_b82 (n : Nat)  (uT : TB) : Option (TB) :=
  lpF (fX4_serve_F84 n ) n (uT, (0 : Int32))
def fX4_serve_F47 (n : Nat)  (k47 : (TB × Int32) → Option (TB)) (v47 : TB × Int32) : Option (TB) :=
  if (v47.1.1 (0 : Int32).toNatClampNeg) ≤ v47.2 then
  (fX4_serve_b82 n  v47.1)
  else
  ((fX4_teller n v47.1).bind fun r58 =>
  if r58 = (-3 : Int32) then
  (fX4_serve_b82 n  v47.1)
  else
  ((fX4_tellNext n v47.1 r58).bind fun r73 =>
  k47 (r73, (v47.2 + (1 : Int32)))))
def fX4_serve_b39 (n : Nat) (k2 : (TB × Int32) → Option (TB)) (uT : TB) (y1 : Int32) : Option (TB) :=
  k2 (uT, (y1 + (1 : Int32)))
def fX4_serve_F2 (n : Nat)  (k2 : (TB × Int32) → Option (TB)) (v2 : TB × Int32) : Option (TB) :=
  if v2.1.2.2.2.2.2.2.1 ≤ v2.2 then
  (lpF (fX4_serve_F47 n ) n (v2.1, (0 : Int32)))
  else
  ((fX4_isDrowned n v2.1 v2.2).bind fun r12 =>
  if r12 = 0 then
  (if v2.2 < 0 ∨ 8 ≤ v2.2.toNatClampNeg then none else
  (fX4_takes n v2.1 v2.2).bind fun r31 =>
  (fX6_held n ((v2.1.2.2.2.1 v2.2.toNatClampNeg) + r31)).bind fun r35 =>
  if v2.2 < 0 ∨ 8 ≤ v2.2.toNatClampNeg then none else
  fX4_serve_b39 n k2 (v2.1.1, v2.1.2.1, v2.1.2.2.1, (upd v2.1.2.2.2.1 v2.2.toNatClampNeg r35), v2.1.2.2.2.2.1, v2.1.2.2.2.2.2.1, v2.1.2.2.2.2.2.2.1, v2.1.2.2.2.2.2.2.2.1, v2.1.2.2.2.2.2.2.2.2.1, v2.1.2.2.2.2.2.2.2.2.2) v2.2)
  else
  (fX4_serve_b39 n k2 v2.1 v2.2))
def fX4_serve (n : Nat) (uT : TB) : Option (TB) :=
  lpF (fX4_serve_F2 n ) n (uT, (0 : Int32))
def fX4_drawn (n : Nat) (uT : TB) : Option (Int32 × TB) :=
  some ((((uT.2.2.2.2.2.2.2.2.2 * (1103515245 : Int32)) + (12345 : Int32)).toUInt32 >>> ((16 : Int32).toUInt32 &&& Int32.toUInt32 31)).toInt32, (uT.1, uT.2.1, uT.2.2.1, uT.2.2.2.1, uT.2.2.2.2.1, uT.2.2.2.2.2.1, uT.2.2.2.2.2.2.1, uT.2.2.2.2.2.2.2.1, uT.2.2.2.2.2.2.2.2.1, ((uT.2.2.2.2.2.2.2.2.2 * (1103515245 : Int32)) + (12345 : Int32))))
def fX4_serveByDraws_b46 (n : Nat)  (uT : TB) : Option (TB) :=
  (fX4_serve n uT).bind fun r47 =>
  some r47
def fX4_serveByDraws (n : Nat) (uT : TB) : Option (TB) :=
  if uT.2.2.2.2.2.2.1 ≤ 0 then
  (fX4_serveByDraws_b46 n  uT)
  else
  ((fX4_drawn n uT).bind fun r8 =>
  if r8.2.2.2.2.2.2.2.1 = 0 then none else
  (fX4_drawn n r8.2).bind fun r18 =>
  if (r18.2.1 (3 : Int32).toNatClampNeg) ≤ (r18.1 - r18.1 / (100 : Int32) * (100 : Int32)) then
  (fX4_serveByDraws_b46 n  r18.2)
  else
  ((fX4_drawn n r18.2).bind fun r39 =>
  if (r8.1 - r8.1 / r8.2.2.2.2.2.2.2.1 * r8.2.2.2.2.2.2.2.1) < 0 ∨ 8 ≤ (r8.1 - r8.1 / r8.2.2.2.2.2.2.2.1 * r8.2.2.2.2.2.2.2.1).toNatClampNeg then none else
  fX4_serveByDraws_b46 n  (r39.2.1, r39.2.2.1, (upd r39.2.2.2.1 (r8.1 - r8.1 / r8.2.2.2.2.2.2.2.1 * r8.2.2.2.2.2.2.2.1).toNatClampNeg (r39.1 - r39.1 / (8 : Int32) * (8 : Int32))), r39.2.2.2.2.1, r39.2.2.2.2.2.1, r39.2.2.2.2.2.2.1, r39.2.2.2.2.2.2.2.1, r39.2.2.2.2.2.2.2.2.1, r39.2.2.2.2.2.2.2.2.2.1, r39.2.2.2.2.2.2.2.2.2.2)))
def fX4_toldBehind_F2 (n : Nat) (x1 : Int32)  (k2 : (TB × Int32) → Option (Int32 × TB)) (v2 : TB × Int32) : Option (Int32 × TB) :=
  if x1 ≤ v2.2 then
  (some (v2.1.2.2.2.2.2.2.2.2.1, v2.1))
  else
  ((fX4_serve n v2.1).bind fun r8 =>
  k2 (r8, (v2.2 + (1 : Int32))))
def fX4_toldBehind (n : Nat) (uT : TB) (x1 : Int32) : Option (Int32 × TB) :=
  lpF (fX4_toldBehind_F2 n x1 ) n (uT, (0 : Int32))
def fX4_coursesUntilTelling_F10 (n : Nat) (x1 : Int32) (x2 : Int32)  (k10 : (TB × Int32 × Int32) → Option (Int32 × TB)) (v10 : TB × Int32 × Int32) : Option (Int32 × TB) :=
  if x2 < v10.2.2 then
  (some ((-3 : Int32), v10.1))
  else
  ((fX4_isDrowned n v10.1 x1).bind fun r18 =>
  if r18 = 0 then
  ((fX4_serve n v10.1).bind fun r25 =>
  if x1 < 0 ∨ 8 ≤ x1.toNatClampNeg then none else
  if (r25.2.2.2.2.1 x1.toNatClampNeg) ≤ v10.2.1 then
  (k10 (r25, v10.2.1, (v10.2.2 + (1 : Int32))))
  else
  (some (v10.2.2, r25)))
  else
  (some ((-3 : Int32), v10.1)))
def fX4_coursesUntilTelling (n : Nat) (uT : TB) (x1 : Int32) (x2 : Int32) : Option (Int32 × TB) :=
  if x1 < 0 ∨ 8 ≤ x1.toNatClampNeg then none else
  lpF (fX4_coursesUntilTelling_F10 n x1 x2 ) n (uT, (uT.2.2.2.2.1 x1.toNatClampNeg), (1 : Int32))
def fX4_coursesUntilDrowned_F2 (n : Nat) (x1 : Int32) (x2 : Int32)  (k2 : (TB × Int32) → Option (Int32 × TB)) (v2 : TB × Int32) : Option (Int32 × TB) :=
  if x2 < v2.2 then
  (some ((-3 : Int32), v2.1))
  else
  ((fX4_isDrowned n v2.1 x1).bind fun r9 =>
  if r9 = 0 then
  ((fX4_serve n v2.1).bind fun r18 =>
  k2 (r18, (v2.2 + (1 : Int32))))
  else
  (some (v2.2, v2.1)))
def fX4_coursesUntilDrowned (n : Nat) (uT : TB) (x1 : Int32) (x2 : Int32) : Option (Int32 × TB) :=
  lpF (fX4_coursesUntilDrowned_F2 n x1 x2 ) n (uT, (0 : Int32))
def fX4_coursesUntilWhole_F10 (n : Nat) (x1 : Int32)  (k10 : (TB × Int32 × Int32) → Option (Int32 × TB)) (v10 : TB × Int32 × Int32) : Option (Int32 × TB) :=
  if x1 < v10.2.2 then
  (some ((-3 : Int32), v10.1))
  else
  ((fX4_serve n v10.1).bind fun r16 =>
  if (r16.2.2.2.2.2.2.2.2.1 / (8 : Int32)) ≤ v10.2.1 then
  (k10 (r16, v10.2.1, (v10.2.2 + (1 : Int32))))
  else
  (some (v10.2.2, r16)))
def fX4_coursesUntilWhole (n : Nat) (uT : TB) (x1 : Int32) : Option (Int32 × TB) :=
  lpF (fX4_coursesUntilWhole_F10 n x1 ) n (uT, (uT.2.2.2.2.2.2.2.2.1 / (8 : Int32)), (1 : Int32))
def fX4_deepestAlive_b31 (n : Nat) (uT : TB) (k4 : (Int32 × Int32) → Option (Int32)) (y1 : Int32) (y2 : Int32) : Option (Int32) :=
  k4 (y1, (y2 + (1 : Int32)))
def fX4_deepestAlive_F4 (n : Nat) (uT : TB)  (k4 : (Int32 × Int32) → Option (Int32)) (v4 : Int32 × Int32) : Option (Int32) :=
  if uT.2.2.2.2.2.2.1 ≤ v4.2 then
  (some v4.1)
  else
  ((fX4_isDrowned n uT v4.2).bind fun r14 =>
  if r14 = 0 then
  (if v4.2 < 0 ∨ 8 ≤ v4.2.toNatClampNeg then none else
  fX4_deepestAlive_b31 n uT k4 (if v4.1 < (uT.2.2.2.1 v4.2.toNatClampNeg) then (uT.2.2.2.1 v4.2.toNatClampNeg) else v4.1) v4.2)
  else
  (fX4_deepestAlive_b31 n uT k4 v4.1 v4.2))
def fX4_deepestAlive (n : Nat) (uT : TB) : Option (Int32) :=
  lpF (fX4_deepestAlive_F4 n uT ) n ((0 : Int32), (0 : Int32))
def fX4_goneTogether_F4 (n : Nat) (uT : TB)  (k4 : (Int32 × Int32) → Option (Int32)) (v4 : Int32 × Int32) : Option (Int32) :=
  if uT.2.2.2.2.2.2.1 ≤ v4.2 then
  (some v4.1)
  else
  (if v4.2 < 0 ∨ 8 ≤ v4.2.toNatClampNeg then none else
  k4 ((v4.1 + (uT.2.2.2.1 v4.2.toNatClampNeg)), (v4.2 + (1 : Int32))))
def fX4_goneTogether (n : Nat) (uT : TB) : Option (Int32) :=
  lpF (fX4_goneTogether_F4 n uT ) n ((0 : Int32), (0 : Int32))
def fX4_tellers_b24 (n : Nat) (uT : TB) (k4 : (Int32 × Int32) → Option (Int32)) (y1 : Int32) (y2 : Int32) : Option (Int32) :=
  k4 (y1, (y2 + (1 : Int32)))
def fX4_tellers_F4 (n : Nat) (uT : TB)  (k4 : (Int32 × Int32) → Option (Int32)) (v4 : Int32 × Int32) : Option (Int32) :=
  if uT.2.2.2.2.2.2.1 ≤ v4.2 then
  (some v4.1)
  else
  (if v4.2 < 0 ∨ 8 ≤ v4.2.toNatClampNeg then none else
  if (uT.2.2.2.2.1 v4.2.toNatClampNeg) ≤ 0 then
  (fX4_tellers_b24 n uT k4 v4.1 v4.2)
  else
  (fX4_tellers_b24 n uT k4 (v4.1 + (1 : Int32)) v4.2))
def fX4_tellers (n : Nat) (uT : TB) : Option (Int32) :=
  lpF (fX4_tellers_F4 n uT ) n ((0 : Int32), (0 : Int32))
def fX4_piecesOf_b32 (n : Nat) (uT : TB) (x1 : Int32) (k4 : (Int32 × Int32) → Option (Int32)) (y2 : Int32) (y3 : Int32) : Option (Int32) :=
  k4 (y2, (y3 + (1 : Int32)))
def fX4_piecesOf_F4 (n : Nat) (uT : TB) (x1 : Int32)  (k4 : (Int32 × Int32) → Option (Int32)) (v4 : Int32 × Int32) : Option (Int32) :=
  if uT.2.2.2.2.2.2.1 ≤ v4.2 then
  (some v4.1)
  else
  (if ((x1 >>> (v4.2 &&& 31)) &&& (1 : Int32)) = (1 : Int32) then
  (if v4.2 < 0 ∨ 8 ≤ v4.2.toNatClampNeg then none else
  fX4_piecesOf_b32 n uT x1 k4 (v4.1 ||| ((1 : Int32) <<< ((uT.2.2.1 v4.2.toNatClampNeg) &&& 31))) v4.2)
  else
  (fX4_piecesOf_b32 n uT x1 k4 v4.1 v4.2))
def fX4_piecesOf (n : Nat) (uT : TB) (x1 : Int32) : Option (Int32) :=
  lpF (fX4_piecesOf_F4 n uT x1 ) n ((0 : Int32), (0 : Int32))
def fX4_piecesUntil_F4 (n : Nat) (uT : TB) (x1 : Int32)  (k4 : (Int32 × Int32) → Option (Int32)) (v4 : Int32 × Int32) : Option (Int32) :=
  if (8 : Int32) ≤ v4.2 then
  (some v4.1)
  else
  (if x1 ≤ (uT.2.2.2.2.2.2.2.2.1 + v4.2) then
  (some v4.1)
  else
  (k4 ((v4.1 ||| ((1 : Int32) <<< (((uT.2.2.2.2.2.2.2.2.1 + v4.2) - (uT.2.2.2.2.2.2.2.2.1 + v4.2) / (8 : Int32) * (8 : Int32)) &&& 31))), (v4.2 + (1 : Int32)))))
def fX4_piecesUntil (n : Nat) (uT : TB) (x1 : Int32) : Option (Int32) :=
  lpF (fX4_piecesUntil_F4 n uT x1 ) n ((0 : Int32), (0 : Int32))
def fX4_holdersOf_b40 (n : Nat) (uT : TB) (x1 : Int32) (k4 : (Int32 × Int32) → Option (Int32)) (y2 : Int32) (y3 : Int32) : Option (Int32) :=
  k4 (y2, (y3 + (1 : Int32)))
def fX4_holdersOf_F4 (n : Nat) (uT : TB) (x1 : Int32)  (k4 : (Int32 × Int32) → Option (Int32)) (v4 : Int32 × Int32) : Option (Int32) :=
  if uT.2.2.2.2.2.2.1 ≤ v4.2 then
  (some v4.1)
  else
  ((fX4_isDrowned n uT v4.2).bind fun r14 =>
  if r14 = 0 then
  (if v4.2 < 0 ∨ 8 ≤ v4.2.toNatClampNeg then none else
  if ((x1 >>> ((uT.2.2.1 v4.2.toNatClampNeg) &&& 31)) &&& (1 : Int32)) = (1 : Int32) then
  (fX4_holdersOf_b40 n uT x1 k4 (v4.1 ||| ((1 : Int32) <<< (v4.2 &&& 31))) v4.2)
  else
  (fX4_holdersOf_b40 n uT x1 k4 v4.1 v4.2))
  else
  (fX4_holdersOf_b40 n uT x1 k4 v4.1 v4.2))
def fX4_holdersOf (n : Nat) (uT : TB) (x1 : Int32) : Option (Int32) :=
  lpF (fX4_holdersOf_F4 n uT x1 ) n ((0 : Int32), (0 : Int32))
def fX4_gap_F13 (n : Nat) (uT : TB)  (k13 : (Int32 × Int32) → Option (Int32)) (v13 : Int32 × Int32) : Option (Int32) :=
  if (8 : Int32) ≤ v13.2 then
  (some (8 : Int32))
  else
  (if ((v13.1 >>> (((uT.2.2.2.2.2.2.2.2.1 + v13.2) - (uT.2.2.2.2.2.2.2.2.1 + v13.2) / (8 : Int32) * (8 : Int32)) &&& 31)) &&& (1 : Int32)) = 0 then
  (some ((uT.2.2.2.2.2.2.2.2.1 + v13.2) - (uT.2.2.2.2.2.2.2.2.1 + v13.2) / (8 : Int32) * (8 : Int32)))
  else
  (k13 (v13.1, (v13.2 + (1 : Int32)))))
def fX4_gap (n : Nat) (uT : TB) : Option (Int32) :=
  (fX4_piecesOf n uT (uT.2.2.2.2.2.1 ^^^ (-1 : Int32))).bind fun r7 =>
  lpF (fX4_gap_F13 n uT ) n (r7, (0 : Int32))
def fX5_sortAt_b34 (n : Nat) (uA : TP) (x1 : Int32)   : Option (Int32) :=
  if x1 < 0 ∨ 200 ≤ x1.toNatClampNeg then none else
  if (uA.1 x1.toNatClampNeg) < (48 : Int32) then
  (some (3 : Int32))
  else
  (if x1 < 0 ∨ 200 ≤ x1.toNatClampNeg then none else
  if (57 : Int32) < (uA.1 x1.toNatClampNeg) then
  (some (3 : Int32))
  else
  (some (2 : Int32)))
def fX5_sortAt (n : Nat) (uA : TP) (x1 : Int32) : Option (Int32) :=
  if x1 < uA.2.1 then
  (if x1 < 0 ∨ 200 ≤ x1.toNatClampNeg then none else
  if (uA.1 x1.toNatClampNeg) < (97 : Int32) then
  (fX5_sortAt_b34 n uA x1  )
  else
  (if x1 < 0 ∨ 200 ≤ x1.toNatClampNeg then none else
  if (122 : Int32) < (uA.1 x1.toNatClampNeg) then
  (fX5_sortAt_b34 n uA x1  )
  else
  (some (1 : Int32))))
  else
  (some (0 : Int32))
def fX5_step_F94 (n : Nat)  (k94 : TP → Option (TP)) (v94 : TP) : Option (TP) :=
  if v94.2.1 ≤ v94.2.2.2.1 then
  (some v94)
  else
  ((fX5_sortAt n v94 v94.2.2.2.1).bind fun r110 =>
  if r110 = v94.2.2.2.2.1 then
  (k94 (v94.1, v94.2.1, v94.2.2.1, (v94.2.2.2.1 + (1 : Int32)), v94.2.2.2.2.1, v94.2.2.2.2.2))
  else
  (some v94))
def fX5_step_b46 (n : Nat)  (uA : TP) : Option (TP) :=
  (fX5_sortAt n uA uA.2.2.1).bind fun r52 =>
  if r52 = (3 : Int32) then
  (some (uA.1, uA.2.1, uA.2.2.1, (uA.2.2.1 + (1 : Int32)), r52, uA.2.2.2.2.2))
  else
  (if r52 = 0 then
  (some (uA.1, uA.2.1, uA.2.2.1, uA.2.2.1, r52, uA.2.2.2.2.2))
  else
  (lpF (fX5_step_F94 n ) n (uA.1, uA.2.1, uA.2.2.1, uA.2.2.1, r52, uA.2.2.2.2.2)))
def fX5_step_F8 (n : Nat)  (k8 : TP → Option (TP)) (v8 : TP) : Option (TP) :=
  if v8.2.1 ≤ v8.2.2.1 then
  (fX5_step_b46 n  v8)
  else
  (if v8.2.2.1 < 0 ∨ 200 ≤ v8.2.2.1.toNatClampNeg then none else
  if (v8.1 v8.2.2.1.toNatClampNeg) = (32 : Int32) then
  (k8 (v8.1, v8.2.1, (v8.2.2.1 + (1 : Int32)), v8.2.2.2.1, v8.2.2.2.2.1, v8.2.2.2.2.2))
  else
  (fX5_step_b46 n  v8))
def fX5_step (n : Nat) (uA : TP) : Option (TP) :=
  lpF (fX5_step_F8 n ) n (uA.1, uA.2.1, uA.2.2.2.1, uA.2.2.2.1, uA.2.2.2.2.1, uA.2.2.2.2.2)
def fX5_isName_F28 (n : Nat) (uA : TP) (j1 : Nat)  (k28 : Int32 → Option (Int32)) (v28 : Int32) : Option (Int32) :=
  (fJ0_length_8abf5 n j1).bind fun r30 =>
  if r30 ≤ v28 then
  (some (1 : Int32))
  else
  (if (uA.2.2.1 + v28) < 0 ∨ 200 ≤ (uA.2.2.1 + v28).toNatClampNeg then none else
  (fJ0_charAt_5068e n j1 v28).bind fun r49 =>
  if (uA.1 (uA.2.2.1 + v28).toNatClampNeg) = r49 then
  (k28 (v28 + (1 : Int32)))
  else
  (some (0 : Int32)))
def fX5_isName (n : Nat) (uA : TP) (j1 : Nat) : Option (Int32) :=
  if uA.2.2.2.2.1 = (1 : Int32) then
  ((fJ0_length_8abf5 n j1).bind fun r18 =>
  if (uA.2.2.2.1 - uA.2.2.1) = r18 then
  (lpF (fX5_isName_F28 n uA j1 ) n (0 : Int32))
  else
  (some (0 : Int32)))
  else
  (some (0 : Int32))
def fX5_kindNamed (n : Nat) (uA : TP) : Option (Int32) :=
  (fX5_isName n uA 0).bind fun r3 =>
  if r3 = 0 then
  ((fX5_isName n uA 1).bind fun r14 =>
  if r14 = 0 then
  ((fX5_isName n uA 2).bind fun r25 =>
  if r25 = 0 then
  ((fX5_isName n uA 3).bind fun r36 =>
  if r36 = 0 then
  ((fX5_isName n uA 4).bind fun r47 =>
  if r47 = 0 then
  ((fX5_isName n uA 5).bind fun r58 =>
  if r58 = 0 then
  (some (-3 : Int32))
  else
  (some (5 : Int32)))
  else
  (some (4 : Int32)))
  else
  (some (3 : Int32)))
  else
  (some (2 : Int32)))
  else
  (some (1 : Int32)))
  else
  (some (0 : Int32))
def fX5_readNumber_F37 (n : Nat) (x1 : Int32)  (k37 : (TP × Int32) → Option (Int32 × TP)) (v37 : TP × Int32) : Option (Int32 × TP) :=
  if v37.1.2.2.2.1 ≤ v37.2 then
  (if x1 < v37.1.2.2.2.2.2 then
  (some ((0 : Int32), v37.1))
  else
  (some ((1 : Int32), v37.1)))
  else
  (if v37.2 < 0 ∨ 200 ≤ v37.2.toNatClampNeg then none else
  k37 ((v37.1.1, v37.1.2.1, v37.1.2.2.1, v37.1.2.2.2.1, v37.1.2.2.2.2.1, ((v37.1.2.2.2.2.2 * (10 : Int32)) + ((v37.1.1 v37.2.toNatClampNeg) - (48 : Int32)))), (v37.2 + (1 : Int32))))
def fX5_readNumber (n : Nat) (uA : TP) (x1 : Int32) : Option (Int32 × TP) :=
  (fX5_step n uA).bind fun r1 =>
  if r1.2.2.2.2.1 = (2 : Int32) then
  (if (r1.2.2.2.1 - r1.2.2.1) ≤ (3 : Int32) then
  (lpF (fX5_readNumber_F37 n x1 ) n ((r1.1, r1.2.1, r1.2.2.1, r1.2.2.2.1, r1.2.2.2.2.1, (0 : Int32)), r1.2.2.1))
  else
  (some ((0 : Int32), r1)))
  else
  (some ((0 : Int32), r1))
def fX5_isStop (n : Nat) (uA : TP) : Option (Int32) :=
  if uA.2.2.2.2.1 = (3 : Int32) then
  (if uA.2.2.1 < 0 ∨ 200 ≤ uA.2.2.1.toNatClampNeg then none else
  if (uA.1 uA.2.2.1.toNatClampNeg) = (59 : Int32) then
  (some (1 : Int32))
  else
  (some (0 : Int32)))
  else
  (some (0 : Int32))
def fX5_readGuest_b91 (n : Nat) (x2 : Int32)  (uT : TB) (uA : TP) : Option (Int32 × TB × TP) :=
  (fX5_isStop n uA).bind fun r92 =>
  if ¬ (r92 = 0 ∨ r92 = 1) then none else
  some (r92, uT, uA)
def fX5_readGuest_b72 (n : Nat) (x2 : Int32)  (uT : TB) (uA : TP) (y3 : Int32) : Option (Int32 × TB × TP) :=
  (fX5_isName n uA 8).bind fun r75 =>
  if r75 = 0 then
  (fX5_readGuest_b91 n x2  uT uA)
  else
  ((fX4_drown n uT y3 (1 : Int32)).bind fun r84 =>
  (fX5_step n uA).bind fun r88 =>
  fX5_readGuest_b91 n x2  r84 r88)
def fX5_readGuest (n : Nat) (uT : TB) (uA : TP) (x2 : Int32) : Option (Int32 × TB × TP) :=
  (fX5_step n uA).bind fun r1 =>
  (fX5_isName n r1 6).bind fun r7 =>
  if r7 = 0 then
  (some ((0 : Int32), uT, r1))
  else
  ((fX5_readNumber n r1 (7 : Int32)).bind fun r16 =>
  if r16.1 = 0 then
  (some ((0 : Int32), uT, r16.2))
  else
  ((fX4_seat n uT x2 r16.2.2.2.2.2.2).bind fun r30 =>
  (fX5_step n r16.2).bind fun r35 =>
  (fX5_isName n r35 7).bind fun r41 =>
  if r41 = 0 then
  (fX5_readGuest_b72 n x2  r30.2 r35 r30.1)
  else
  ((fX5_readNumber n r35 (99 : Int32)).bind fun r50 =>
  if r50.1 = 0 then
  (some ((0 : Int32), r30.2, r50.2))
  else
  (if r30.1 < 0 ∨ 8 ≤ r30.1.toNatClampNeg then none else
  (fX5_step n r50.2).bind fun r69 =>
  fX5_readGuest_b72 n x2  (r30.2.1, r30.2.2.1, r30.2.2.2.1, (upd r30.2.2.2.2.1 r30.1.toNatClampNeg r50.2.2.2.2.2.2), r30.2.2.2.2.2.1, r30.2.2.2.2.2.2.1, r30.2.2.2.2.2.2.2.1, r30.2.2.2.2.2.2.2.2.1, r30.2.2.2.2.2.2.2.2.2.1, r30.2.2.2.2.2.2.2.2.2.2) r69 r30.1))))
def fX5_readStop (n : Nat) (uA : TP) : Option (Int32 × TP) :=
  (fX5_step n uA).bind fun r1 =>
  (fX5_isStop n r1).bind fun r5 =>
  if ¬ (r5 = 0 ∨ r5 = 1) then none else
  some (r5, r1)
def fX5_lawNamed (n : Nat) (uA : TP) : Option (Int32) :=
  (fX5_isName n uA 10).bind fun r3 =>
  if r3 = 0 then
  ((fX5_isName n uA 11).bind fun r14 =>
  if r14 = 0 then
  ((fX5_isName n uA 12).bind fun r25 =>
  if r25 = 0 then
  ((fX5_isName n uA 13).bind fun r36 =>
  if r36 = 0 then
  (some (-3 : Int32))
  else
  (some (3 : Int32)))
  else
  (some (2 : Int32)))
  else
  (some (1 : Int32)))
  else
  (some (0 : Int32))
def fX5_readSentence (n : Nat) (uT : TB) (uA : TP) : Option (Int32 × TB × TP) :=
  (fX5_kindNamed n uA).bind fun r1 =>
  if r1 = (-3 : Int32) then
  ((fX5_isName n uA 9).bind fun r38 =>
  if r38 = 0 then
  ((fX5_lawNamed n uA).bind fun r70 =>
  if r70 = (-3 : Int32) then
  (some ((0 : Int32), uT, uA))
  else
  (if r70 < 0 ∨ 4 ≤ r70.toNatClampNeg then none else
  (fX5_readNumber n uA (gsF 1 r70.toNatClampNeg)).bind fun r86 =>
  if r86.1 = 0 then
  (some ((0 : Int32), uT, r86.2))
  else
  (if r70 < 0 ∨ 4 ≤ r70.toNatClampNeg then none else
  (fX5_readStop n r86.2).bind fun r105 =>
  if ¬ (r105.1 = 0 ∨ r105.1 = 1) then none else
  some (r105.1, ((upd uT.1 r70.toNatClampNeg r86.2.2.2.2.2.2), uT.2.1, uT.2.2.1, uT.2.2.2.1, uT.2.2.2.2.1, uT.2.2.2.2.2.1, uT.2.2.2.2.2.2.1, uT.2.2.2.2.2.2.2.1, uT.2.2.2.2.2.2.2.2.1, uT.2.2.2.2.2.2.2.2.2), r105.2))))
  else
  ((fX5_readNumber n uA (999 : Int32)).bind fun r48 =>
  if r48.1 = 0 then
  (some ((0 : Int32), uT, r48.2))
  else
  ((fX5_readStop n r48.2).bind fun r65 =>
  if ¬ (r65.1 = 0 ∨ r65.1 = 1) then none else
  some (r65.1, (uT.1, uT.2.1, uT.2.2.1, uT.2.2.2.1, uT.2.2.2.2.1, uT.2.2.2.2.2.1, uT.2.2.2.2.2.2.1, uT.2.2.2.2.2.2.2.1, r48.2.2.2.2.2.2, uT.2.2.2.2.2.2.2.2.2), r65.2))))
  else
  (if (8 : Int32) ≤ uT.2.2.2.2.2.2.1 then
  (some ((0 : Int32), uT, uA))
  else
  ((fX5_readGuest n uT uA r1).bind fun r23 =>
  if r23.1 = 0 then
  (some ((0 : Int32), r23.2.1, r23.2.2))
  else
  (some ((1 : Int32), r23.2.1, r23.2.2))))
def fX5_readInto_F7 (n : Nat)  (k7 : (TB × TP × Int32) → Option (Int32 × TB × TP)) (v7 : TB × TP × Int32) : Option (Int32 × TB × TP) :=
  if (200 : Int32) < v7.2.2 then
  (some ((0 : Int32), v7.1, v7.2.1))
  else
  ((fX5_step n v7.2.1).bind fun r15 =>
  if r15.2.2.2.2.1 = 0 then
  (some ((1 : Int32), v7.1, r15))
  else
  ((fX5_readSentence n v7.1 r15).bind fun r29 =>
  if r29.1 = 0 then
  (some ((0 : Int32), r29.2.1, r29.2.2))
  else
  (k7 (r29.2.1, r29.2.2, (v7.2.2 + (1 : Int32))))))
def fX5_readInto (n : Nat) (uT : TB) (uA : TP) : Option (Int32 × TB × TP) :=
  lpF (fX5_readInto_F7 n ) n (uT, (uA.1, uA.2.1, uA.2.2.1, (0 : Int32), uA.2.2.2.2.1, uA.2.2.2.2.2), (0 : Int32))
def fX6_feed_F33 (n : Nat) (uK : Int32) (x1 : Int64) (x3 : Int32)  (k33 : (TP × Int32) → Option (Int32 × TP)) (v33 : TP × Int32) : Option (Int32 × TP) :=
  if x3 ≤ v33.2 then
  (some (v33.1.2.1, v33.1))
  else
  (if v33.1.2.1 < 0 ∨ 200 ≤ v33.1.2.1.toNatClampNeg then none else
  k33 (((upd v33.1.1 v33.1.2.1.toNatClampNeg (vp_nar .byte (x1.toUInt64 >>> (((8 : Int32) * v33.2).toInt64.toUInt64 &&& Int64.toUInt64 63)).toInt64.toInt32.toInt8.toInt32)), (v33.1.2.1 + (1 : Int32)), v33.1.2.2.1, v33.1.2.2.2.1, v33.1.2.2.2.2.1, v33.1.2.2.2.2.2), (v33.2 + (1 : Int32))))
def fX6_feed (n : Nat) (uK : Int32) (uA : TP) (x1 : Int64) (x3 : Int32) : Option (Int32 × TP) :=
  (fX6_within n x3 (1 : Int32) (8 : Int32)).bind fun r4 =>
  if r4 = 0 then
  (some ((-1 : Int32), uA))
  else
  (if (uA.2.1 + x3) ≤ (200 : Int32) then
  (lpF (fX6_feed_F33 n uK x1 x3 ) n (uA, (0 : Int32)))
  else
  (some ((-2 : Int32), uA)))
def fX6_feast (n : Nat) (uK : Int32) (uN : TB) (uY : TB) (uA : TP) (uW : RW) : Option (Int32 × TB × TB × TP × RW) :=
  (fX4_clear n uY).bind fun r4 =>
  (fX5_readInto n (r4.1, r4.2.1, r4.2.2.1, r4.2.2.2.1, r4.2.2.2.2.1, r4.2.2.2.2.2.1, r4.2.2.2.2.2.2.1, r4.2.2.2.2.2.2.2.1, r4.2.2.2.2.2.2.2.2.1, uN.2.2.2.2.2.2.2.2.2) uA).bind fun r29 =>
  if r29.1 = 0 then
  (some (((-100 : Int32) - r29.2.2.2.2.1), uN, r29.2.1, (r29.2.2.1, (0 : Int32), r29.2.2.2.2.1, r29.2.2.2.2.2.1, r29.2.2.2.2.2.2.1, r29.2.2.2.2.2.2.2), uW))
  else
  ((fX4_copyFrom n uN r29.2.1).bind fun r66 =>
  some (r66.2.2.2.2.2.2.1, r66, r29.2.1, (r29.2.2.1, (0 : Int32), r29.2.2.2.2.1, r29.2.2.2.2.2.1, r29.2.2.2.2.2.2.1, r29.2.2.2.2.2.2.2), (uW.1, (0 : Int32))))
def fX6_set (n : Nat) (uK : Int32) (uN : TB) (x1 : Int32) (x2 : Int32) : Option (Int32 × TB) :=
  (fX6_within n x1 (0 : Int32) (3 : Int32)).bind fun r3 =>
  if r3 = 0 then
  (some ((-1 : Int32), uN))
  else
  (if x1 < 0 ∨ 4 ≤ x1.toNatClampNeg then none else
  (fX6_within n x2 (0 : Int32) (gsF 1 x1.toNatClampNeg)).bind fun r16 =>
  if r16 = 0 then
  (some ((-1 : Int32), uN))
  else
  (if x1 < 0 ∨ 4 ≤ x1.toNatClampNeg then none else
  if x1 < 0 ∨ 4 ≤ x1.toNatClampNeg then none else
  some ((uN.1 x1.toNatClampNeg), ((upd uN.1 x1.toNatClampNeg x2), uN.2.1, uN.2.2.1, uN.2.2.2.1, uN.2.2.2.2.1, uN.2.2.2.2.2.1, uN.2.2.2.2.2.2.1, uN.2.2.2.2.2.2.2.1, uN.2.2.2.2.2.2.2.2.1, uN.2.2.2.2.2.2.2.2.2))))
def fX6_lawOf (n : Nat) (uK : Int32) (uN : TB) (x1 : Int32) : Option (Int32) :=
  (fX6_within n x1 (0 : Int32) (3 : Int32)).bind fun r3 =>
  if r3 = 0 then
  (some (-1 : Int32))
  else
  (if x1 < 0 ∨ 4 ≤ x1.toNatClampNeg then none else
  some (uN.1 x1.toNatClampNeg))
def fX6_guest (n : Nat) (uK : Int32) (uN : TB) (x1 : Int32) (x2 : Int32) : Option (Int32 × TB) :=
  (fX6_within n x1 (0 : Int32) (5 : Int32)).bind fun r3 =>
  if r3 = 0 then
  (some ((-1 : Int32), uN))
  else
  ((fX6_within n x2 (0 : Int32) (7 : Int32)).bind fun r13 =>
  if r13 = 0 then
  (some ((-1 : Int32), uN))
  else
  (if (8 : Int32) ≤ uN.2.2.2.2.2.2.1 then
  (some ((-2 : Int32), uN))
  else
  ((fX4_seat n uN x1 x2).bind fun r39 =>
  some (r39.1, r39.2))))
def fX6_of (n : Nat) (uK : Int32) (uN : TB) (x1 : Int32) (x2 : Int32) : Option (Int32) :=
  (fX4_has n uN x1).bind fun r5 =>
  if r5 = 0 then
  (some (-1 : Int32))
  else
  (if x2 = (0 : Int32) then
  (if x1 < 0 ∨ 8 ≤ x1.toNatClampNeg then none else
  some (uN.2.1 x1.toNatClampNeg))
  else if x2 = (1 : Int32) then
  (if x1 < 0 ∨ 8 ≤ x1.toNatClampNeg then none else
  some (uN.2.2.1 x1.toNatClampNeg))
  else if x2 = (2 : Int32) then
  (if x1 < 0 ∨ 8 ≤ x1.toNatClampNeg then none else
  some (uN.2.2.2.1 x1.toNatClampNeg))
  else if x2 = (3 : Int32) then
  (if x1 < 0 ∨ 8 ≤ x1.toNatClampNeg then none else
  some (uN.2.2.2.2.1 x1.toNatClampNeg))
  else if x2 = (4 : Int32) then
  ((fX4_isDrowned n uN x1).bind fun r93 =>
  if r93 = 0 then
  (some (0 : Int32))
  else
  (some (1 : Int32)))
  else 
  (some (-1 : Int32)))
def fX6_does (n : Nat) (uK : Int32) (uN : TB) (x1 : Int32) (x2 : Int32) : Option (Int32) :=
  (fX4_has n uN x1).bind fun r5 =>
  if r5 = 0 then
  (some (-1 : Int32))
  else
  (if x2 = (0 : Int32) then
  ((fX4_takes n uN x1).bind fun r48 =>
  some ((1000 : Int32) + r48))
  else if x2 = (1 : Int32) then
  ((fX4_needs n uN x1).bind fun r61 =>
  some ((1000 : Int32) + r61))
  else if x2 = (2 : Int32) then
  ((fX4_costs n uN x1).bind fun r74 =>
  some ((1000 : Int32) + r74))
  else 
  (some (-1 : Int32)))
def fX6_mind (n : Nat) (uK : Int32) (uN : TB) (x1 : Int32) (x2 : Int32) : Option (Int32 × TB) :=
  (fX4_has n uN x1).bind fun r5 =>
  if r5 = 0 then
  (some ((-1 : Int32), uN))
  else
  ((fX6_within n x2 (0 : Int32) (5 : Int32)).bind fun r14 =>
  if r14 = 0 then
  (some ((-1 : Int32), uN))
  else
  (if x1 < 0 ∨ 8 ≤ x1.toNatClampNeg then none else
  if x1 < 0 ∨ 8 ≤ x1.toNatClampNeg then none else
  some ((uN.2.1 x1.toNatClampNeg), (uN.1, (upd uN.2.1 x1.toNatClampNeg x2), uN.2.2.1, uN.2.2.2.1, uN.2.2.2.2.1, uN.2.2.2.2.2.1, uN.2.2.2.2.2.2.1, uN.2.2.2.2.2.2.2.1, uN.2.2.2.2.2.2.2.2.1, uN.2.2.2.2.2.2.2.2.2))))
def fX6_give (n : Nat) (uK : Int32) (uN : TB) (x1 : Int32) (x2 : Int32) : Option (Int32 × TB) :=
  (fX4_has n uN x1).bind fun r5 =>
  if r5 = 0 then
  (some ((-1 : Int32), uN))
  else
  ((fX6_within n x2 (0 : Int32) (7 : Int32)).bind fun r15 =>
  if r15 = 0 then
  (some ((-1 : Int32), uN))
  else
  (if x1 < 0 ∨ 8 ≤ x1.toNatClampNeg then none else
  if x1 < 0 ∨ 8 ≤ x1.toNatClampNeg then none else
  some ((uN.2.2.1 x1.toNatClampNeg), (uN.1, uN.2.1, (upd uN.2.2.1 x1.toNatClampNeg x2), uN.2.2.2.1, uN.2.2.2.2.1, uN.2.2.2.2.2.1, uN.2.2.2.2.2.2.1, uN.2.2.2.2.2.2.2.1, uN.2.2.2.2.2.2.2.2.1, uN.2.2.2.2.2.2.2.2.2))))
def fX6_sink_b98 (n : Nat) (uK : Int32) (x1 : Int32) (x2 : Int32) (x3 : Int32)  (uN : TB) (y4 : Int32) (w1 : Int32) (w2 : Int32) : Option (Int32 × TB) :=
  (fX4_drown n uN w1 w2).bind fun r98 =>
  some (y4, r98)
def fX6_sink_b81 (n : Nat) (uK : Int32) (x1 : Int32) (x2 : Int32) (x3 : Int32)  (uN : TB) (w0 : Int32) : Option (Int32 × TB) :=
  if x3 = (1 : Int32) then
  (fX6_sink_b98 n uK x1 x2 x3  uN w0 x1 (1 : Int32))
  else
  (fX6_sink_b98 n uK x1 x2 x3  uN w0 x1 (0 : Int32))
def fX6_sink_b51 (n : Nat) (uK : Int32) (x1 : Int32) (x2 : Int32) (x3 : Int32)  (uN : TB) : Option (Int32 × TB) :=
  if x2 = (1 : Int32) then
  ((fX6_within n x3 (0 : Int32) (1 : Int32)).bind fun r59 =>
  if r59 = 0 then
  (some ((-1 : Int32), uN))
  else
  ((fX4_isDrowned n uN x1).bind fun r70 =>
  if r70 = 0 then
  (fX6_sink_b81 n uK x1 x2 x3  uN (0 : Int32))
  else
  (fX6_sink_b81 n uK x1 x2 x3  uN (1 : Int32))))
  else
  (some ((-1 : Int32), uN))
def fX6_sink (n : Nat) (uK : Int32) (uN : TB) (x1 : Int32) (x2 : Int32) (x3 : Int32) : Option (Int32 × TB) :=
  (fX4_has n uN x1).bind fun r5 =>
  if r5 = 0 then
  (some ((-1 : Int32), uN))
  else
  (if x2 = 0 then
  ((fX6_within n x3 (0 : Int32) (99 : Int32)).bind fun r21 =>
  if r21 = 0 then
  (fX6_sink_b51 n uK x1 x2 x3  uN)
  else
  (if x1 < 0 ∨ 8 ≤ x1.toNatClampNeg then none else
  if x1 < 0 ∨ 8 ≤ x1.toNatClampNeg then none else
  some ((uN.2.2.2.1 x1.toNatClampNeg), (uN.1, uN.2.1, uN.2.2.1, (upd uN.2.2.2.1 x1.toNatClampNeg x3), uN.2.2.2.2.1, uN.2.2.2.2.2.1, uN.2.2.2.2.2.2.1, uN.2.2.2.2.2.2.2.1, uN.2.2.2.2.2.2.2.2.1, uN.2.2.2.2.2.2.2.2.2))))
  else
  (fX6_sink_b51 n uK x1 x2 x3  uN))
def fX6_courses (n : Nat) (uK : Int32) (uN : TB) (x1 : Int32) : Option (Int32 × TB) :=
  (fX6_within n x1 (1 : Int32) (60 : Int32)).bind fun r4 =>
  if r4 = 0 then
  (some ((-1 : Int32), uN))
  else
  ((fX4_toldBehind n uN x1).bind fun r15 =>
  some (r15.1, r15.2))
def fX6_seed (n : Nat) (uK : Int32) (uN : TB) (x1 : Int32) : Option (Int32 × TB) :=
  some (uN.2.2.2.2.2.2.2.2.2, (uN.1, uN.2.1, uN.2.2.1, uN.2.2.2.1, uN.2.2.2.2.1, uN.2.2.2.2.2.1, uN.2.2.2.2.2.2.1, uN.2.2.2.2.2.2.2.1, uN.2.2.2.2.2.2.2.2.1, x1))
def fX6_course (n : Nat) (uK : Int32) (uN : TB) : Option (Int32 × TB) :=
  (fX4_serveByDraws n uN).bind fun r4 =>
  some (r4.2.2.2.2.2.2.2.2.1, r4)
def fX6_triedTale (n : Nat) (uK : Int32) (uN : TB) (uY : TB) (x1 : Int32) : Option (Int32 × TB) :=
  (fX4_copyFrom n uY uN).bind fun r8 =>
  (fX4_toldBehind n r8 x1).bind fun r16 =>
  some (r16.1, r16.2)
def fX6_luck_b88 (n : Nat) (uK : Int32) (uN : TB) (x1 : Int32) (k32 : (TB × Int32 × Int32 × Int32 × Int32) → Option (Int32 × TB)) (uY : TB) (y2 : Int32) (y3 : Int32) (y4 : Int32) (y5 : Int32) : Option (Int32 × TB) :=
  k32 (uY, y2, y3, y4, (y5 + (1 : Int32)))
def fX6_luck_F32 (n : Nat) (uK : Int32) (uN : TB) (x1 : Int32)  (k32 : (TB × Int32 × Int32 × Int32 × Int32) → Option (Int32 × TB)) (v32 : TB × Int32 × Int32 × Int32 × Int32) : Option (Int32 × TB) :=
  if x1 ≤ v32.2.2.2.2 then
  (some (v32.2.2.1, v32.1))
  else
  ((fX4_copyFrom n v32.1 uN).bind fun r46 =>
  (fX4_serveByDraws n (r46.1, r46.2.1, r46.2.2.1, r46.2.2.2.1, r46.2.2.2.2.1, r46.2.2.2.2.2.1, r46.2.2.2.2.2.2.1, r46.2.2.2.2.2.2.2.1, r46.2.2.2.2.2.2.2.2.1, v32.2.2.2.1)).bind fun r62 =>
  if r62.2.2.2.2.2.2.2.2.1 ≤ v32.2.1 then
  (fX6_luck_b88 n uK uN x1 k32 r62 v32.2.1 v32.2.2.1 r62.2.2.2.2.2.2.2.2.2 v32.2.2.2.2)
  else
  (fX6_luck_b88 n uK uN x1 k32 r62 v32.2.1 (v32.2.2.1 + (1 : Int32)) r62.2.2.2.2.2.2.2.2.2 v32.2.2.2.2))
def fX6_luck (n : Nat) (uK : Int32) (uN : TB) (uY : TB) (x1 : Int32) : Option (Int32 × TB) :=
  (fX6_within n x1 (1 : Int32) (30 : Int32)).bind fun r4 =>
  if r4 = 0 then
  (some ((-1 : Int32), uY))
  else
  ((fX6_triedTale n uK uN uY (1 : Int32)).bind fun r14 =>
  lpF (fX6_luck_F32 n uK uN x1 ) n (r14.2, r14.1, (0 : Int32), uN.2.2.2.2.2.2.2.2.2, (0 : Int32)))
def fX6_state (n : Nat) (uK : Int32) (uN : TB) (x1 : Int32) : Option (Int32) :=
  if x1 = (0 : Int32) then
  (some uN.2.2.2.2.2.2.2.1)
  else if x1 = (1 : Int32) then
  (some uN.2.2.2.2.2.2.2.2.1)
  else if x1 = (2 : Int32) then
  ((fX4_next n uN).bind fun r60 =>
  some r60)
  else if x1 = (3 : Int32) then
  (some uN.2.2.2.2.2.1)
  else if x1 = (4 : Int32) then
  ((fX4_goneTogether n uN).bind fun r76 =>
  some r76)
  else if x1 = (5 : Int32) then
  ((fX4_gap n uN).bind fun r84 =>
  some r84)
  else 
  (some (-1 : Int32))
def fX6_deep (n : Nat) (uK : Int32) (uN : TB) (uY : TB) (x1 : Int32) (x2 : Int32) : Option (Int32 × TB) :=
  (fX4_has n uN x1).bind fun r5 =>
  if r5 = 0 then
  (some ((-1 : Int32), uY))
  else
  ((fX6_within n x2 (0 : Int32) (60 : Int32)).bind fun r15 =>
  if r15 = 0 then
  (some ((-1 : Int32), uY))
  else
  ((fX6_triedTale n uK uN uY x2).bind fun r25 =>
  if x1 < 0 ∨ 8 ≤ x1.toNatClampNeg then none else
  some ((r25.2.2.2.2.1 x1.toNatClampNeg), r25.2)))
def fX6_speaks (n : Nat) (uK : Int32) (uN : TB) (uY : TB) (x1 : Int32) : Option (Int32 × TB) :=
  (fX4_has n uN x1).bind fun r5 =>
  if r5 = 0 then
  (some ((-1 : Int32), uY))
  else
  ((fX4_copyFrom n uY uN).bind fun r21 =>
  (fX4_coursesUntilTelling n r21 x1 (60 : Int32)).bind fun r31 =>
  some (r31.1, r31.2))
def fX6_sinks (n : Nat) (uK : Int32) (uN : TB) (uY : TB) (x1 : Int32) : Option (Int32 × TB) :=
  (fX4_has n uN x1).bind fun r5 =>
  if r5 = 0 then
  (some ((-1 : Int32), uY))
  else
  ((fX4_copyFrom n uY uN).bind fun r21 =>
  (fX4_coursesUntilDrowned n r21 x1 (60 : Int32)).bind fun r31 =>
  some (r31.1, r31.2))
def fX6_whole (n : Nat) (uK : Int32) (uN : TB) (uY : TB) : Option (Int32 × TB) :=
  (fX4_copyFrom n uY uN).bind fun r8 =>
  (fX4_coursesUntilWhole n r8 (60 : Int32)).bind fun r17 =>
  some (r17.1, r17.2)
def fX6_tale (n : Nat) (uK : Int32) (uN : TB) (uY : TB) (x1 : Int32) : Option (Int32 × TB) :=
  (fX6_within n x1 (0 : Int32) (60 : Int32)).bind fun r4 =>
  if r4 = 0 then
  (some ((-1 : Int32), uY))
  else
  ((fX6_triedTale n uK uN uY x1).bind fun r12 =>
  some (r12.1, r12.2))
def fX6_pieceFor_b84 (n : Nat) (uK : Int32) (uN : TB) (x1 : Int32) (x2 : Int32) (k31 : (TB × Int32 × Int32 × Int32) → Option (Int32 × TB)) (uY : TB) (y3 : Int32) (y4 : Int32) (y5 : Int32) : Option (Int32 × TB) :=
  k31 (uY, y3, y4, (y5 + (1 : Int32)))
def fX6_pieceFor_F31 (n : Nat) (uK : Int32) (uN : TB) (x1 : Int32) (x2 : Int32)  (k31 : (TB × Int32 × Int32 × Int32) → Option (Int32 × TB)) (v31 : TB × Int32 × Int32 × Int32) : Option (Int32 × TB) :=
  if (8 : Int32) ≤ v31.2.2.2 then
  (some (v31.2.1, v31.1))
  else
  ((fX4_copyFrom n v31.1 uN).bind fun r46 =>
  if x1 < 0 ∨ 8 ≤ x1.toNatClampNeg then none else
  (fX4_toldBehind n (r46.1, r46.2.1, (upd r46.2.2.1 x1.toNatClampNeg v31.2.2.2), r46.2.2.2.1, r46.2.2.2.2.1, r46.2.2.2.2.2.1, r46.2.2.2.2.2.2.1, r46.2.2.2.2.2.2.2.1, r46.2.2.2.2.2.2.2.2.1, r46.2.2.2.2.2.2.2.2.2) x2).bind fun r65 =>
  if r65.1 ≤ v31.2.2.1 then
  (fX6_pieceFor_b84 n uK uN x1 x2 k31 r65.2 v31.2.1 v31.2.2.1 v31.2.2.2)
  else
  (fX6_pieceFor_b84 n uK uN x1 x2 k31 r65.2 v31.2.2.2 r65.1 v31.2.2.2))
def fX6_pieceFor (n : Nat) (uK : Int32) (uN : TB) (uY : TB) (x1 : Int32) (x2 : Int32) : Option (Int32 × TB) :=
  (fX4_has n uN x1).bind fun r5 =>
  if r5 = 0 then
  (some ((-1 : Int32), uY))
  else
  ((fX6_within n x2 (1 : Int32) (40 : Int32)).bind fun r15 =>
  if r15 = 0 then
  (some ((-1 : Int32), uY))
  else
  (lpF (fX6_pieceFor_F31 n uK uN x1 x2 ) n (uY, (0 : Int32), (-1 : Int32), (0 : Int32))))
def fX6_kindFor_b84 (n : Nat) (uK : Int32) (uN : TB) (x1 : Int32) (x2 : Int32) (k31 : (TB × Int32 × Int32 × Int32) → Option (Int32 × TB)) (uY : TB) (y3 : Int32) (y4 : Int32) (y5 : Int32) : Option (Int32 × TB) :=
  k31 (uY, y3, y4, (y5 + (1 : Int32)))
def fX6_kindFor_F31 (n : Nat) (uK : Int32) (uN : TB) (x1 : Int32) (x2 : Int32)  (k31 : (TB × Int32 × Int32 × Int32) → Option (Int32 × TB)) (v31 : TB × Int32 × Int32 × Int32) : Option (Int32 × TB) :=
  if (6 : Int32) ≤ v31.2.2.2 then
  (some (v31.2.1, v31.1))
  else
  ((fX4_copyFrom n v31.1 uN).bind fun r46 =>
  if x1 < 0 ∨ 8 ≤ x1.toNatClampNeg then none else
  (fX4_toldBehind n (r46.1, (upd r46.2.1 x1.toNatClampNeg v31.2.2.2), r46.2.2.1, r46.2.2.2.1, r46.2.2.2.2.1, r46.2.2.2.2.2.1, r46.2.2.2.2.2.2.1, r46.2.2.2.2.2.2.2.1, r46.2.2.2.2.2.2.2.2.1, r46.2.2.2.2.2.2.2.2.2) x2).bind fun r65 =>
  if r65.1 ≤ v31.2.2.1 then
  (fX6_kindFor_b84 n uK uN x1 x2 k31 r65.2 v31.2.1 v31.2.2.1 v31.2.2.2)
  else
  (fX6_kindFor_b84 n uK uN x1 x2 k31 r65.2 v31.2.2.2 r65.1 v31.2.2.2))
def fX6_kindFor (n : Nat) (uK : Int32) (uN : TB) (uY : TB) (x1 : Int32) (x2 : Int32) : Option (Int32 × TB) :=
  (fX4_has n uN x1).bind fun r5 =>
  if r5 = 0 then
  (some ((-1 : Int32), uY))
  else
  ((fX6_within n x2 (1 : Int32) (40 : Int32)).bind fun r15 =>
  if r15 = 0 then
  (some ((-1 : Int32), uY))
  else
  (lpF (fX6_kindFor_F31 n uK uN x1 x2 ) n (uY, (0 : Int32), (-1 : Int32), (0 : Int32))))
def fX6_goneFor_F25 (n : Nat) (uK : Int32) (uN : TB) (x1 : Int32) (x2 : Int32)  (k25 : (TB × Int32) → Option (Int32 × TB)) (v25 : TB × Int32) : Option (Int32 × TB) :=
  if (99 : Int32) < v25.2 then
  (some ((-3 : Int32), v25.1))
  else
  ((fX4_copyFrom n v25.1 uN).bind fun r39 =>
  if x1 < 0 ∨ 8 ≤ x1.toNatClampNeg then none else
  (fX4_coursesUntilTelling n (r39.1, r39.2.1, r39.2.2.1, (upd r39.2.2.2.1 x1.toNatClampNeg v25.2), r39.2.2.2.2.1, r39.2.2.2.2.2.1, r39.2.2.2.2.2.2.1, r39.2.2.2.2.2.2.2.1, r39.2.2.2.2.2.2.2.2.1, r39.2.2.2.2.2.2.2.2.2) x1 x2).bind fun r58 =>
  if r58.1 = (-3 : Int32) then
  (k25 (r58.2, (v25.2 + (1 : Int32))))
  else
  (some (v25.2, r58.2)))
def fX6_goneFor (n : Nat) (uK : Int32) (uN : TB) (uY : TB) (x1 : Int32) (x2 : Int32) : Option (Int32 × TB) :=
  (fX4_has n uN x1).bind fun r5 =>
  if r5 = 0 then
  (some ((-1 : Int32), uY))
  else
  ((fX6_within n x2 (1 : Int32) (40 : Int32)).bind fun r15 =>
  if r15 = 0 then
  (some ((-1 : Int32), uY))
  else
  (lpF (fX6_goneFor_F25 n uK uN x1 x2 ) n (uY, (0 : Int32))))
def fX6_depthFor_F38 (n : Nat) (uK : Int32) (uN : TB) (x1 : Int32)  (k38 : (TB × Int32 × Int32) → Option (Int32 × TB)) (v38 : TB × Int32 × Int32) : Option (Int32 × TB) :=
  if x1 ≤ v38.2.2 then
  (some (v38.2.1, v38.1))
  else
  ((fX4_serve n v38.1).bind fun r47 =>
  (fX4_deepestAlive n r47).bind fun r55 =>
  k38 (r47, (if v38.2.1 < r55 then r55 else v38.2.1), (v38.2.2 + (1 : Int32))))
def fX6_depthFor (n : Nat) (uK : Int32) (uN : TB) (uY : TB) (x1 : Int32) : Option (Int32 × TB) :=
  (fX6_within n x1 (1 : Int32) (40 : Int32)).bind fun r4 =>
  if r4 = 0 then
  (some ((-1 : Int32), uY))
  else
  ((fX4_copyFrom n uY uN).bind fun r20 =>
  lpF (fX6_depthFor_F38 n uK uN x1 ) n (((upd r20.1 (2 : Int32).toNatClampNeg (99 : Int32)), r20.2.1, r20.2.2.1, r20.2.2.2.1, r20.2.2.2.2.1, r20.2.2.2.2.2.1, r20.2.2.2.2.2.2.1, r20.2.2.2.2.2.2.2.1, r20.2.2.2.2.2.2.2.2.1, r20.2.2.2.2.2.2.2.2.2), (0 : Int32), (0 : Int32)))
def fJ6_bitCount_0f7a4 (n : Nat) (x0 : Int32) : Option (Int32) :=
  some ((((((((x0 - ((x0.toUInt32 >>> ((1 : Int32).toUInt32 &&& Int32.toUInt32 31)).toInt32 &&& (1431655765 : Int32))) &&& (858993459 : Int32)) + (((x0 - ((x0.toUInt32 >>> ((1 : Int32).toUInt32 &&& Int32.toUInt32 31)).toInt32 &&& (1431655765 : Int32))).toUInt32 >>> ((2 : Int32).toUInt32 &&& Int32.toUInt32 31)).toInt32 &&& (858993459 : Int32))) + ((((x0 - ((x0.toUInt32 >>> ((1 : Int32).toUInt32 &&& Int32.toUInt32 31)).toInt32 &&& (1431655765 : Int32))) &&& (858993459 : Int32)) + (((x0 - ((x0.toUInt32 >>> ((1 : Int32).toUInt32 &&& Int32.toUInt32 31)).toInt32 &&& (1431655765 : Int32))).toUInt32 >>> ((2 : Int32).toUInt32 &&& Int32.toUInt32 31)).toInt32 &&& (858993459 : Int32))).toUInt32 >>> ((4 : Int32).toUInt32 &&& Int32.toUInt32 31)).toInt32) &&& (252645135 : Int32)) + ((((((x0 - ((x0.toUInt32 >>> ((1 : Int32).toUInt32 &&& Int32.toUInt32 31)).toInt32 &&& (1431655765 : Int32))) &&& (858993459 : Int32)) + (((x0 - ((x0.toUInt32 >>> ((1 : Int32).toUInt32 &&& Int32.toUInt32 31)).toInt32 &&& (1431655765 : Int32))).toUInt32 >>> ((2 : Int32).toUInt32 &&& Int32.toUInt32 31)).toInt32 &&& (858993459 : Int32))) + ((((x0 - ((x0.toUInt32 >>> ((1 : Int32).toUInt32 &&& Int32.toUInt32 31)).toInt32 &&& (1431655765 : Int32))) &&& (858993459 : Int32)) + (((x0 - ((x0.toUInt32 >>> ((1 : Int32).toUInt32 &&& Int32.toUInt32 31)).toInt32 &&& (1431655765 : Int32))).toUInt32 >>> ((2 : Int32).toUInt32 &&& Int32.toUInt32 31)).toInt32 &&& (858993459 : Int32))).toUInt32 >>> ((4 : Int32).toUInt32 &&& Int32.toUInt32 31)).toInt32) &&& (252645135 : Int32)).toUInt32 >>> ((8 : Int32).toUInt32 &&& Int32.toUInt32 31)).toInt32) + (((((((x0 - ((x0.toUInt32 >>> ((1 : Int32).toUInt32 &&& Int32.toUInt32 31)).toInt32 &&& (1431655765 : Int32))) &&& (858993459 : Int32)) + (((x0 - ((x0.toUInt32 >>> ((1 : Int32).toUInt32 &&& Int32.toUInt32 31)).toInt32 &&& (1431655765 : Int32))).toUInt32 >>> ((2 : Int32).toUInt32 &&& Int32.toUInt32 31)).toInt32 &&& (858993459 : Int32))) + ((((x0 - ((x0.toUInt32 >>> ((1 : Int32).toUInt32 &&& Int32.toUInt32 31)).toInt32 &&& (1431655765 : Int32))) &&& (858993459 : Int32)) + (((x0 - ((x0.toUInt32 >>> ((1 : Int32).toUInt32 &&& Int32.toUInt32 31)).toInt32 &&& (1431655765 : Int32))).toUInt32 >>> ((2 : Int32).toUInt32 &&& Int32.toUInt32 31)).toInt32 &&& (858993459 : Int32))).toUInt32 >>> ((4 : Int32).toUInt32 &&& Int32.toUInt32 31)).toInt32) &&& (252645135 : Int32)) + ((((((x0 - ((x0.toUInt32 >>> ((1 : Int32).toUInt32 &&& Int32.toUInt32 31)).toInt32 &&& (1431655765 : Int32))) &&& (858993459 : Int32)) + (((x0 - ((x0.toUInt32 >>> ((1 : Int32).toUInt32 &&& Int32.toUInt32 31)).toInt32 &&& (1431655765 : Int32))).toUInt32 >>> ((2 : Int32).toUInt32 &&& Int32.toUInt32 31)).toInt32 &&& (858993459 : Int32))) + ((((x0 - ((x0.toUInt32 >>> ((1 : Int32).toUInt32 &&& Int32.toUInt32 31)).toInt32 &&& (1431655765 : Int32))) &&& (858993459 : Int32)) + (((x0 - ((x0.toUInt32 >>> ((1 : Int32).toUInt32 &&& Int32.toUInt32 31)).toInt32 &&& (1431655765 : Int32))).toUInt32 >>> ((2 : Int32).toUInt32 &&& Int32.toUInt32 31)).toInt32 &&& (858993459 : Int32))).toUInt32 >>> ((4 : Int32).toUInt32 &&& Int32.toUInt32 31)).toInt32) &&& (252645135 : Int32)).toUInt32 >>> ((8 : Int32).toUInt32 &&& Int32.toUInt32 31)).toInt32).toUInt32 >>> ((16 : Int32).toUInt32 &&& Int32.toUInt32 31)).toInt32) &&& (63 : Int32))
def fX6_reaches (n : Nat) (uK : Int32) (uN : TB) (uY : TB) (x1 : Int32) (x2 : Int32) (x3 : Int32) : Option (Int32 × TB) :=
  (fX4_copyFrom n uY uN).bind fun r8 =>
  (fX4_everyone n r8).bind fun r23 =>
  (fX4_toldBehind n (r8.1, r8.2.1, r8.2.2.1, r8.2.2.2.1, r8.2.2.2.2.1, (r8.2.2.2.2.2.1 ||| (r23 &&& (x1 ^^^ (-1 : Int32)))), r8.2.2.2.2.2.2.1, r8.2.2.2.2.2.2.2.1, r8.2.2.2.2.2.2.2.2.1, r8.2.2.2.2.2.2.2.2.2) x2).bind fun r39 =>
  if r39.1 < x3 then
  (some ((0 : Int32), r39.2))
  else
  (some ((1 : Int32), r39.2))
def fX6_strangersFor_b157 (n : Nat) (uK : Int32) (uN : TB) (x1 : Int32) (x2 : Int32) (k83 : (TB × Int32 × Int32 × Int32) → Option (Int32 × TB)) (k98 : (TB × Int32 × Int32 × Int32 × Int32) → Option (Int32 × TB)) (uY : TB) (y3 : Int32) (y4 : Int32) (y5 : Int32) (y6 : Int32) : Option (Int32 × TB) :=
  k98 (uY, y3, y4, y5, (y6 + (1 : Int32)))
def fX6_strangersFor_F98 (n : Nat) (uK : Int32) (uN : TB) (x1 : Int32) (x2 : Int32) (k83 : (TB × Int32 × Int32 × Int32) → Option (Int32 × TB)) (k98 : (TB × Int32 × Int32 × Int32 × Int32) → Option (Int32 × TB)) (v98 : TB × Int32 × Int32 × Int32 × Int32) : Option (Int32 × TB) :=
  (fX4_everyone n uN).bind fun r104 =>
  if r104 < v98.2.2.2.2 then
  (k83 (v98.1, v98.2.1, v98.2.2.1, (v98.2.2.2.1 + (1 : Int32))))
  else
  ((fJ6_bitCount_0f7a4 n v98.2.2.2.2).bind fun r112 =>
  if r112 = v98.2.2.2.1 then
  (if (v98.2.2.2.2 &&& (v98.2.2.1 ^^^ (-1 : Int32))) = 0 then
  ((fX4_piecesOf n uN v98.2.2.2.2).bind fun r136 =>
  if r136 = v98.2.1 then
  ((fX6_reaches n uK uN v98.1 v98.2.2.2.2 x1 x2).bind fun r148 =>
  if r148.1 = 0 then
  (fX6_strangersFor_b157 n uK uN x1 x2 k83 k98 r148.2 v98.2.1 v98.2.2.1 v98.2.2.2.1 v98.2.2.2.2)
  else
  (some (v98.2.2.2.2, r148.2)))
  else
  (fX6_strangersFor_b157 n uK uN x1 x2 k83 k98 v98.1 v98.2.1 v98.2.2.1 v98.2.2.2.1 v98.2.2.2.2))
  else
  (fX6_strangersFor_b157 n uK uN x1 x2 k83 k98 v98.1 v98.2.1 v98.2.2.1 v98.2.2.2.1 v98.2.2.2.2))
  else
  (fX6_strangersFor_b157 n uK uN x1 x2 k83 k98 v98.1 v98.2.1 v98.2.2.1 v98.2.2.2.1 v98.2.2.2.2))
def fX6_strangersFor_F83 (n : Nat) (uK : Int32) (uN : TB) (x1 : Int32) (x2 : Int32)  (k83 : (TB × Int32 × Int32 × Int32) → Option (Int32 × TB)) (v83 : TB × Int32 × Int32 × Int32) : Option (Int32 × TB) :=
  if uN.2.2.2.2.2.2.1 < v83.2.2.2 then
  (some ((-3 : Int32), v83.1))
  else
  (lpF (fX6_strangersFor_F98 n uK uN x1 x2 k83) n (v83.1, v83.2.1, v83.2.2.1, v83.2.2.2, (1 : Int32)))
def fX6_strangersFor (n : Nat) (uK : Int32) (uN : TB) (uY : TB) (x1 : Int32) (x2 : Int32) : Option (Int32 × TB) :=
  (fX6_within n x1 (1 : Int32) (20 : Int32)).bind fun r4 =>
  if r4 = 0 then
  (some ((-1 : Int32), uY))
  else
  ((fX6_within n x2 (0 : Int32) (99999 : Int32)).bind fun r14 =>
  if r14 = 0 then
  (some ((-1 : Int32), uY))
  else
  (if uN.2.2.2.2.2.2.2.2.1 < x2 then
  (if (x2 - uN.2.2.2.2.2.2.2.2.1) ≤ (x1 * (uN.1 (0 : Int32).toNatClampNeg)) then
  ((fX4_piecesUntil n uN x2).bind fun r66 =>
  (fX4_holdersOf n uN r66).bind fun r75 =>
  lpF (fX6_strangersFor_F83 n uK uN x1 x2 ) n (uY, r66, r75, (1 : Int32)))
  else
  (some ((-3 : Int32), uY)))
  else
  (some ((0 : Int32), uY))))
def fX6_goesAs_b50 (n : Nat) (uK : Int32) (uS : SH) (j1 : Nat) (k2 : (TB × Int32) → Option (Int32 × TB)) (uY : TB) (y2 : Int32) : Option (Int32 × TB) :=
  k2 (uY, (y2 + (1 : Int32)))
def fX6_goesAs_F2 (n : Nat) (uK : Int32) (uS : SH) (j1 : Nat)  (k2 : (TB × Int32) → Option (Int32 × TB)) (v2 : TB × Int32) : Option (Int32 × TB) :=
  if (uS.2.2 j1) ≤ v2.2 then
  (some ((1 : Int32), v2.1))
  else
  ((fX4_serve n v2.1).bind fun r14 =>
  if v2.2 < 0 ∨ 40 ≤ v2.2.toNatClampNeg then none else
  if (lg_cmp ((uS.1 j1) v2.2.toNatClampNeg) (-1 : Int64)) = 0 then
  (fX6_goesAs_b50 n uK uS j1 k2 r14 v2.2)
  else
  (if v2.2 < 0 ∨ 40 ≤ v2.2.toNatClampNeg then none else
  if (lg_cmp ((uS.1 j1) v2.2.toNatClampNeg) r14.2.2.2.2.2.2.2.2.1.toInt64) = 0 then
  (fX6_goesAs_b50 n uK uS j1 k2 r14 v2.2)
  else
  (some ((0 : Int32), r14))))
def fX6_goesAs (n : Nat) (uK : Int32) (uY : TB) (uS : SH) (j1 : Nat) : Option (Int32 × TB) :=
  lpF (fX6_goesAs_F2 n uK uS j1 ) n (uY, (0 : Int32))
def fX6_fits_b105 (n : Nat) (uK : Int32) (uN : TB) (uS : SH) (x1 : Int32) (x2 : Int32) (x3 : Int32) (k62 : (TB × Nat × Int32 × Int32 × Int32) → Option (Int32 × TB)) (uY : TB) (y4 : Nat) (y5 : Int32) (y6 : Int32) (y7 : Int32) : Option (Int32 × TB) :=
  k62 (uY, y4, y5, y6, (y7 + (-1 : Int32)))
def fX6_fits_F62 (n : Nat) (uK : Int32) (uN : TB) (uS : SH) (x1 : Int32) (x2 : Int32) (x3 : Int32)  (k62 : (TB × Nat × Int32 × Int32 × Int32) → Option (Int32 × TB)) (v62 : TB × Nat × Int32 × Int32 × Int32) : Option (Int32 × TB) :=
  if v62.2.2.2.2 < 0 then
  (if x3 = 0 then
  (some (v62.2.2.1, v62.1))
  else
  (some (v62.2.2.2.1, v62.1)))
  else
  ((fX4_copyFrom n v62.1 uN).bind fun r75 =>
  if x2 < 0 ∨ 8 ≤ x2.toNatClampNeg then none else
  (fX6_goesAs n uK (r75.1, r75.2.1, (upd r75.2.2.1 x2.toNatClampNeg v62.2.2.2.2), r75.2.2.2.1, r75.2.2.2.2.1, r75.2.2.2.2.2.1, r75.2.2.2.2.2.2.1, r75.2.2.2.2.2.2.2.1, r75.2.2.2.2.2.2.2.2.1, r75.2.2.2.2.2.2.2.2.2) uS v62.2.1).bind fun r92 =>
  if r92.1 = 0 then
  (fX6_fits_b105 n uK uN uS x1 x2 x3 k62 r92.2 v62.2.1 v62.2.2.1 v62.2.2.2.1 v62.2.2.2.2)
  else
  (fX6_fits_b105 n uK uN uS x1 x2 x3 k62 r92.2 v62.2.1 (v62.2.2.1 + (1 : Int32)) v62.2.2.2.2 v62.2.2.2.2))
def fX6_fits (n : Nat) (uK : Int32) (uN : TB) (uY : TB) (uS : SH) (x1 : Int32) (x2 : Int32) (x3 : Int32) : Option (Int32 × TB) :=
  (fX6_within n x1 (0 : Int32) (3 : Int32)).bind fun r3 =>
  if r3 = 0 then
  (some ((-1 : Int32), uY))
  else
  ((fX4_has n uN x2).bind fun r14 =>
  if r14 = 0 then
  (some ((-1 : Int32), uY))
  else
  ((fX6_within n x3 (0 : Int32) (1 : Int32)).bind fun r23 =>
  if r23 = 0 then
  (some ((-1 : Int32), uY))
  else
  (if x1 < 0 ∨ 4 ≤ x1.toNatClampNeg then none else
  if (uS.2.1 x1.toNatClampNeg) = (-1 : Int32) then
  (some ((-11 : Int32), uY))
  else
  (lpF (fX6_fits_F62 n uK uN uS x1 x2 x3 ) n (uY, x1.toNatClampNeg, (0 : Int32), (-3 : Int32), (7 : Int32))))))
def fX6_waysToChoose_F5 (n : Nat) (x0 : Int32) (x1 : Int32)  (k5 : (Int64 × Int32) → Option (Int64)) (v5 : Int64 × Int32) : Option (Int64) :=
  if x1 ≤ v5.2 then
  (some v5.1)
  else
  (if (v5.2 + (1 : Int32)).toInt64 = 0 then none else
  k5 (((v5.1 * (x0 - v5.2).toInt64) / (v5.2 + (1 : Int32)).toInt64), (v5.2 + (1 : Int32))))
def fX6_waysToChoose (n : Nat) (x0 : Int32) (x1 : Int32) : Option (Int64) :=
  lpF (fX6_waysToChoose_F5 n x0 x1 ) n ((1 : Int64), (0 : Int32))
def fX6_commonDivisor_F9 (n : Nat) (x0 : Int64) (x2 : Int64)  (k9 : (Int64 × Int64 × Int32) → Option (Int64)) (v9 : Int64 × Int64 × Int32) : Option (Int64) :=
  if (100 : Int32) ≤ v9.2.2 then
  (some v9.1)
  else
  (if (lg_cmp v9.2.1 (0 : Int64)) = 0 then
  (some v9.1)
  else
  (if v9.2.1 = 0 then none else
  k9 (v9.2.1, (v9.1 - v9.1 / v9.2.1 * v9.2.1), (v9.2.2 + (1 : Int32)))))
def fX6_commonDivisor (n : Nat) (x0 : Int64) (x2 : Int64) : Option (Int64) :=
  lpF (fX6_commonDivisor_F9 n x0 x2 ) n (x0, x2, (0 : Int32))
def fX6_partOf (n : Nat) (x0 : Int64) (x2 : Int64) (x4 : Int32) : Option (Int64) :=
  (fX6_commonDivisor n x0 x2).bind fun r2 =>
  if (lg_cmp r2 (0 : Int64)) = 0 then
  (some (0 : Int64))
  else
  (if x4 = 0 then
  (if r2 = 0 then none else
  some (x0 / r2))
  else
  (if r2 = 0 then none else
  some (x2 / r2)))
def fX6_odds_b81 (n : Nat) (uK : Int32) (uN : TB) (x1 : Int32) (x2 : Int32) (x3 : Int32) (k41 : (Int64 × Int64 × Int32) → Option (Int64)) (y6 : Int64) (y8 : Int32) (w0 : Int64) (w1 : Int64) : Option (Int64) :=
  k41 ((w0 * w1), (y6 * (100 : Int64)), (y8 + (1 : Int32)))
def fX6_odds_F41 (n : Nat) (uK : Int32) (uN : TB) (x1 : Int32) (x2 : Int32) (x3 : Int32)  (k41 : (Int64 × Int64 × Int32) → Option (Int64)) (v41 : Int64 × Int64 × Int32) : Option (Int64) :=
  if x1 ≤ v41.2.2 then
  ((fX6_waysToChoose n x1 x2).bind fun r102 =>
  (fX6_partOf n (v41.1 * r102) v41.2.1 x3).bind fun r109 =>
  some r109)
  else
  (if x2 ≤ v41.2.2 then
  (fX6_odds_b81 n uK uN x1 x2 x3 k41 v41.2.1 v41.2.2 v41.1 (((100 : Int32) - (uN.1 (3 : Int32).toNatClampNeg)).toInt64))
  else
  (fX6_odds_b81 n uK uN x1 x2 x3 k41 v41.2.1 v41.2.2 v41.1 ((uN.1 (3 : Int32).toNatClampNeg).toInt64)))
def fX6_odds (n : Nat) (uK : Int32) (uN : TB) (x1 : Int32) (x2 : Int32) (x3 : Int32) : Option (Int64) :=
  (fX6_within n x1 (0 : Int32) (8 : Int32)).bind fun r4 =>
  if r4 = 0 then
  (some (-1 : Int64))
  else
  ((fX6_within n x2 (0 : Int32) x1).bind fun r13 =>
  if r13 = 0 then
  (some (-1 : Int64))
  else
  ((fX6_within n x3 (0 : Int32) (1 : Int32)).bind fun r22 =>
  if r22 = 0 then
  (some (-1 : Int64))
  else
  (lpF (fX6_odds_F41 n uK uN x1 x2 x3 ) n ((1 : Int64), (1 : Int64), (0 : Int32)))))
def fX6_hope (n : Nat) (uK : Int32) (uN : TB) (x1 : Int32) (x2 : Int32) : Option (Int64) :=
  (fX6_within n x1 (0 : Int32) (99 : Int32)).bind fun r4 =>
  if r4 = 0 then
  (some (-1 : Int64))
  else
  ((fX6_within n x2 (0 : Int32) (1 : Int32)).bind fun r13 =>
  if r13 = 0 then
  (some (-1 : Int64))
  else
  ((fX6_partOf n (x1.toInt64 * (uN.1 (3 : Int32).toNatClampNeg).toInt64) (100 : Int64) x2).bind fun r40 =>
  some r40))
def fX6_triedCell (n : Nat) (uK : Int32) (uY : TB) (x1 : Int32) (x2 : Int32) : Option (Int32) :=
  if x2 = (0 : Int32) then
  (if x1 < 0 ∨ 8 ≤ x1.toNatClampNeg then none else
  some (uY.2.2.2.1 x1.toNatClampNeg))
  else if x2 = (1 : Int32) then
  (if x1 < 0 ∨ 8 ≤ x1.toNatClampNeg then none else
  some (uY.2.2.2.2.1 x1.toNatClampNeg))
  else 
  (some uY.2.2.2.2.2.2.2.2.1)
def fX6_prove_F51 (n : Nat) (uK : Int32) (uN : TB) (x1 : Int32) (x2 : Int32) (k36 : (TB × RW × Int32) → Option (Int32 × TB × RW)) (k51 : (TB × RW × Int32 × Int32) → Option (Int32 × TB × RW)) (v51 : TB × RW × Int32 × Int32) : Option (Int32 × TB × RW) :=
  if (3 : Int32) ≤ v51.2.2.2 then
  (k36 (v51.1, v51.2.1, (v51.2.2.1 + (1 : Int32))))
  else
  ((fX6_triedCell n uK v51.1 x1 v51.2.2.2).bind fun r74 =>
  if ((v51.2.2.1 * (3 : Int32)) + v51.2.2.2) < 0 ∨ 30 ≤ ((v51.2.2.1 * (3 : Int32)) + v51.2.2.2).toNatClampNeg then none else
  k51 (v51.1, ((upd v51.2.1.1 ((v51.2.2.1 * (3 : Int32)) + v51.2.2.2).toNatClampNeg r74), v51.2.1.2), v51.2.2.1, (v51.2.2.2 + (1 : Int32))))
def fX6_prove_F36 (n : Nat) (uK : Int32) (uN : TB) (x1 : Int32) (x2 : Int32)  (k36 : (TB × RW × Int32) → Option (Int32 × TB × RW)) (v36 : TB × RW × Int32) : Option (Int32 × TB × RW) :=
  if x2 ≤ v36.2.2 then
  (some (x2, v36.1, (v36.2.1.1, x2)))
  else
  ((fX4_serve n v36.1).bind fun r45 =>
  lpF (fX6_prove_F51 n uK uN x1 x2 k36) n (r45, v36.2.1, v36.2.2, (0 : Int32)))
def fX6_prove (n : Nat) (uK : Int32) (uN : TB) (uY : TB) (uW : RW) (x1 : Int32) (x2 : Int32) : Option (Int32 × TB × RW) :=
  (fX4_has n uN x1).bind fun r5 =>
  if r5 = 0 then
  (some ((-1 : Int32), uY, uW))
  else
  ((fX6_within n x2 (1 : Int32) (10 : Int32)).bind fun r15 =>
  if r15 = 0 then
  (some ((-1 : Int32), uY, uW))
  else
  ((fX4_copyFrom n uY uN).bind fun r31 =>
  lpF (fX6_prove_F36 n uK uN x1 x2 ) n (r31, uW, (0 : Int32))))
def fX6_row (n : Nat) (uK : Int32) (uW : RW) (x1 : Int32) (x2 : Int32) : Option (Int32) :=
  (fX0_has n uW x1 x2).bind fun r6 =>
  if r6 = 0 then
  (some (-9 : Int32))
  else
  (if ((x1 * (3 : Int32)) + x2) < 0 ∨ 30 ≤ ((x1 * (3 : Int32)) + x2).toNatClampNeg then none else
  some (uW.1 ((x1 * (3 : Int32)) + x2).toNatClampNeg))
def fX6_alterRow (n : Nat) (uK : Int32) (uW : RW) (x1 : Int32) (x2 : Int32) (x3 : Int32) : Option (Int32 × RW) :=
  (fX0_has n uW x1 x2).bind fun r6 =>
  if r6 = 0 then
  (some ((-9 : Int32), uW))
  else
  (if ((x1 * (3 : Int32)) + x2) < 0 ∨ 30 ≤ ((x1 * (3 : Int32)) + x2).toNatClampNeg then none else
  if ((x1 * (3 : Int32)) + x2) < 0 ∨ 30 ≤ ((x1 * (3 : Int32)) + x2).toNatClampNeg then none else
  some ((uW.1 ((x1 * (3 : Int32)) + x2).toNatClampNeg), ((upd uW.1 ((x1 * (3 : Int32)) + x2).toNatClampNeg x3), uW.2)))
def fX6_judge_F46 (n : Nat) (uK : Int32) (uN : TB) (uW : RW) (x1 : Int32) (k26 : (TB × Int32) → Option (Int32 × TB)) (k46 : (TB × Int32 × Int32) → Option (Int32 × TB)) (v46 : TB × Int32 × Int32) : Option (Int32 × TB) :=
  if (3 : Int32) ≤ v46.2.2 then
  (k26 (v46.1, (v46.2.1 + (1 : Int32))))
  else
  (if ((v46.2.1 * (3 : Int32)) + v46.2.2) < 0 ∨ 30 ≤ ((v46.2.1 * (3 : Int32)) + v46.2.2).toNatClampNeg then none else
  (fX6_triedCell n uK v46.1 x1 v46.2.2).bind fun r67 =>
  if (uW.1 ((v46.2.1 * (3 : Int32)) + v46.2.2).toNatClampNeg) = r67 then
  (k46 (v46.1, v46.2.1, (v46.2.2 + (1 : Int32))))
  else
  (some ((v46.2.1 + (1 : Int32)), v46.1)))
def fX6_judge_F26 (n : Nat) (uK : Int32) (uN : TB) (uW : RW) (x1 : Int32)  (k26 : (TB × Int32) → Option (Int32 × TB)) (v26 : TB × Int32) : Option (Int32 × TB) :=
  if uW.2 ≤ v26.2 then
  (some ((0 : Int32), v26.1))
  else
  ((fX4_serve n v26.1).bind fun r41 =>
  lpF (fX6_judge_F46 n uK uN uW x1 k26) n (r41, v26.2, (0 : Int32)))
def fX6_judge (n : Nat) (uK : Int32) (uN : TB) (uY : TB) (uW : RW) (x1 : Int32) : Option (Int32 × TB) :=
  (fX4_has n uN x1).bind fun r5 =>
  if r5 = 0 then
  (some ((-1 : Int32), uY))
  else
  ((fX4_copyFrom n uY uN).bind fun r21 =>
  lpF (fX6_judge_F26 n uK uN uW x1 ) n (r21, (0 : Int32)))
def fX6_minds_F109 (n : Nat) (uK : Int32) (uS : SH) (x1 : Int32) (x2 : Int32) (x3 : Int32) (x4 : Int32)  (k109 : (TB × Nat × Int32) → Option (Int32 × TB)) (v109 : TB × Nat × Int32) : Option (Int32 × TB) :=
  if x4 ≤ v109.2.2 then
  (some (x4, v109.1))
  else
  (if (x2 + v109.2.2) < 0 ∨ 40 ≤ (x2 + v109.2.2).toNatClampNeg then none else
  (fX6_held n (((uS.1 v109.2.1) (x2 + v109.2.2).toNatClampNeg).toInt32)).bind fun r138 =>
  if (x3 + v109.2.2) < 0 ∨ 8 ≤ (x3 + v109.2.2).toNatClampNeg then none else
  k109 ((v109.1.1, v109.1.2.1, v109.1.2.2.1, (upd v109.1.2.2.2.1 (x3 + v109.2.2).toNatClampNeg r138), v109.1.2.2.2.2.1, v109.1.2.2.2.2.2.1, v109.1.2.2.2.2.2.2.1, v109.1.2.2.2.2.2.2.2.1, v109.1.2.2.2.2.2.2.2.2.1, v109.1.2.2.2.2.2.2.2.2.2), v109.2.1, (v109.2.2 + (1 : Int32))))
def fX6_minds (n : Nat) (uK : Int32) (uN : TB) (uS : SH) (x1 : Int32) (x2 : Int32) (x3 : Int32) (x4 : Int32) : Option (Int32 × TB) :=
  (fX6_within n x1 (0 : Int32) (3 : Int32)).bind fun r3 =>
  if r3 = 0 then
  (some ((-1 : Int32), uN))
  else
  ((fX4_has n uN x3).bind fun r14 =>
  if r14 = 0 then
  (some ((-1 : Int32), uN))
  else
  ((fX6_within n x4 (0 : Int32) (8 : Int32)).bind fun r25 =>
  if r25 = 0 then
  (some ((-1 : Int32), uN))
  else
  (if (x3 + x4) ≤ uN.2.2.2.2.2.2.1 then
  (if x1 < 0 ∨ 4 ≤ x1.toNatClampNeg then none else
  if (uS.2.1 x1.toNatClampNeg) = (-1 : Int32) then
  (some ((-11 : Int32), uN))
  else
  (if (uS.2.1 x1.toNatClampNeg) = 0 then
  ((fX6_within n x2 (0 : Int32) (uS.2.2 x1.toNatClampNeg)).bind fun r85 =>
  if r85 = 0 then
  (some ((-12 : Int32), uN))
  else
  (if (x2 + x4) ≤ (uS.2.2 x1.toNatClampNeg) then
  (lpF (fX6_minds_F109 n uK uS x1 x2 x3 x4 ) n (uN, x1.toNatClampNeg, (0 : Int32)))
  else
  (some ((-12 : Int32), uN))))
  else
  (some ((-13 : Int32), uN))))
  else
  (some ((-1 : Int32), uN)))))
def fX6_sheet (n : Nat) (uK : Int32) (uS : SH) (x1 : Int32) (x2 : Int32) (x3 : Int32) : Option (Int32 × SH) :=
  (fX6_within n x1 (0 : Int32) (3 : Int32)).bind fun r3 =>
  if r3 = 0 then
  (some ((-1 : Int32), uS))
  else
  ((fX6_within n x2 (-1 : Int32) (3 : Int32)).bind fun r12 =>
  if r12 = 0 then
  (some ((-1 : Int32), uS))
  else
  (if x2 = (-1 : Int32) then
  (if x1 < 0 ∨ 4 ≤ x1.toNatClampNeg then none else
  (fX1_become n ((uS.1 x1.toNatClampNeg), (uS.2.1 x1.toNatClampNeg), (uS.2.2 x1.toNatClampNeg)) (-1 : Int32) (0 : Int32)).bind fun r33 =>
  some ((1 : Int32), ((va_up uS.1 x1.toNatClampNeg r33.1), (upd uS.2.1 x1.toNatClampNeg r33.2.1), (upd uS.2.2 x1.toNatClampNeg r33.2.2))))
  else
  (if x3 ≤ (40 : Int32) then
  (if 0 ≤ x3 then
  (if x1 < 0 ∨ 4 ≤ x1.toNatClampNeg then none else
  (fX1_become n ((uS.1 x1.toNatClampNeg), (uS.2.1 x1.toNatClampNeg), (uS.2.2 x1.toNatClampNeg)) x2 x3).bind fun r61 =>
  some ((1 : Int32), ((va_up uS.1 x1.toNatClampNeg r61.1), (upd uS.2.1 x1.toNatClampNeg r61.2.1), (upd uS.2.2 x1.toNatClampNeg r61.2.2))))
  else
  (some ((-14 : Int32), uS)))
  else
  (some ((-1 : Int32), uS)))))
def fX6_narrowed (n : Nat) (x0 : Int32) (x1 : Int32) : Option (Int32) :=
  if x1 = (0 : Int32) then
  (some x0.toInt8.toInt32)
  else if x1 = (1 : Int32) then
  (some x0.toInt16.toInt32)
  else 
  (some x0)
def fX6_put (n : Nat) (uK : Int32) (uS : SH) (x1 : Int32) (x2 : Int32) (x3 : Int32) : Option (Int32 × SH) :=
  (fX6_within n x1 (0 : Int32) (3 : Int32)).bind fun r3 =>
  if r3 = 0 then
  (some ((-1 : Int32), uS))
  else
  (if x1 < 0 ∨ 4 ≤ x1.toNatClampNeg then none else
  if (uS.2.1 x1.toNatClampNeg) = (-1 : Int32) then
  (some ((-11 : Int32), uS))
  else
  ((fX6_within n x2 (0 : Int32) ((uS.2.2 x1.toNatClampNeg) - (1 : Int32))).bind fun r40 =>
  if r40 = 0 then
  (some ((-12 : Int32), uS))
  else
  ((fX6_narrowed n x3 (uS.2.1 x1.toNatClampNeg)).bind fun r61 =>
  if x2 < 0 ∨ 40 ≤ x2.toNatClampNeg then none else
  some ((1 : Int32), ((va_up uS.1 x1.toNatClampNeg (vp_updL (uS.1 x1.toNatClampNeg) x2.toNatClampNeg r61.toInt64)), uS.2.1, uS.2.2)))))
def fX6_item (n : Nat) (uK : Int32) (uS : SH) (x1 : Int32) (x2 : Int32) (x3 : Int32) : Option (Int32) :=
  (fX6_within n x1 (0 : Int32) (3 : Int32)).bind fun r3 =>
  if r3 = 0 then
  (some (-1 : Int32))
  else
  ((fX6_within n x2 (0 : Int32) (3 : Int32)).bind fun r12 =>
  if r12 = 0 then
  (some (-1 : Int32))
  else
  (if x1 < 0 ∨ 4 ≤ x1.toNatClampNeg then none else
  if (uS.2.1 x1.toNatClampNeg) = (-1 : Int32) then
  (some (-11 : Int32))
  else
  (if (uS.2.1 x1.toNatClampNeg) = x2 then
  ((fX6_within n x3 (0 : Int32) ((uS.2.2 x1.toNatClampNeg) - (1 : Int32))).bind fun r61 =>
  if r61 = 0 then
  (some (-12 : Int32))
  else
  (if x3 < 0 ∨ 40 ≤ x3.toNatClampNeg then none else
  some (((uS.1 x1.toNatClampNeg) x3.toNatClampNeg).toInt32)))
  else
  (some (-13 : Int32)))))
def fX6_shelf (n : Nat) (uK : Int32) (uN : TB) (uS : SH) (uF : SF) (x1 : Int32) (x2 : Int32) (x3 : Int32) : Option (Int32 × SF) :=
  (fX6_within n x1 (0 : Int32) (3 : Int32)).bind fun r3 =>
  if r3 = 0 then
  (some ((-1 : Int32), uF))
  else
  (if x1 < 0 ∨ 4 ≤ x1.toNatClampNeg then none else
  if x2 = (0 : Int32) then
  ((fX4_has n uN x3).bind fun r53 =>
  if r53 = 0 then
  (some ((-1 : Int32), uF))
  else
  ((fX2_holdGuest n ((uF.1 x1.toNatClampNeg), (uF.2.1 x1.toNatClampNeg), (uF.2.2.1 x1.toNatClampNeg), (uF.2.2.2 x1.toNatClampNeg)) x3).bind fun r64 =>
  some ((1 : Int32), ((upd uF.1 x1.toNatClampNeg r64.1), (upd uF.2.1 x1.toNatClampNeg r64.2.1), (upd uF.2.2.1 x1.toNatClampNeg r64.2.2.1), (upd uF.2.2.2 x1.toNatClampNeg r64.2.2.2)))))
  else if x2 = (1 : Int32) then
  ((fX6_within n x3 (0 : Int32) (3 : Int32)).bind fun r72 =>
  if r72 = 0 then
  (some ((-1 : Int32), uF))
  else
  (if x3 < 0 ∨ 4 ≤ x3.toNatClampNeg then none else
  (fX2_holdRow n ((uF.1 x1.toNatClampNeg), (uF.2.1 x1.toNatClampNeg), (uF.2.2.1 x1.toNatClampNeg), (uF.2.2.2 x1.toNatClampNeg)) ((uS.1 x3.toNatClampNeg), (uS.2.1 x3.toNatClampNeg), (uS.2.2 x3.toNatClampNeg))).bind fun r88 =>
  some ((1 : Int32), ((upd uF.1 x1.toNatClampNeg r88.1), (upd uF.2.1 x1.toNatClampNeg r88.2.1), (upd uF.2.2.1 x1.toNatClampNeg r88.2.2.1), (upd uF.2.2.2 x1.toNatClampNeg r88.2.2.2)))))
  else if x2 = (2 : Int32) then
  (some ((1 : Int32), ((upd uF.1 x1.toNatClampNeg (2 : Int32)), uF.2.1, uF.2.2.1, uF.2.2.2)))
  else 
  (some ((-1 : Int32), uF)))
def fX6_heldNow (n : Nat) (uK : Int32) (uN : TB) (uF : SF) (j1 : Nat) : Option (Int32) :=
  if (uF.1 j1) = 0 then
  ((fX4_has n uN (uF.2.1 j1)).bind fun r15 =>
  if r15 = 0 then
  (some (2 : Int32))
  else
  (some (uF.1 j1)))
  else
  (some (uF.1 j1))
def fX6_isUnder_F4 (n : Nat) (x0 : Int32) (x1 : Int32)  (k4 : (Int32 × Int32) → Option (Int32)) (v4 : Int32 × Int32) : Option (Int32) :=
  if (6 : Int32) ≤ v4.2 then
  (some (0 : Int32))
  else
  ((fX6_within n v4.1 (0 : Int32) (5 : Int32)).bind fun r13 =>
  if r13 = 0 then
  (some (0 : Int32))
  else
  (if v4.1 = x1 then
  (some (1 : Int32))
  else
  (if v4.1 < 0 ∨ 6 ≤ v4.1.toNatClampNeg then none else
  k4 ((gsF 2 v4.1.toNatClampNeg), (v4.2 + (1 : Int32))))))
def fX6_isUnder (n : Nat) (x0 : Int32) (x1 : Int32) : Option (Int32) :=
  lpF (fX6_isUnder_F4 n x0 x1 ) n (x0, (0 : Int32))
def fX6_taken_b31 (n : Nat) (uK : Int32) (uN : TB) (uF : SF) (x1 : Int32) (x2 : Int32)   : Option (Int32) :=
  if x1 < 0 ∨ 4 ≤ x1.toNatClampNeg then none else
  (fX6_heldNow n uK uN uF x1.toNatClampNeg).bind fun r40 =>
  if r40 = (0 : Int32) then
  (if (uF.2.1 x1.toNatClampNeg) < 0 ∨ 8 ≤ (uF.2.1 x1.toNatClampNeg).toNatClampNeg then none else
  (fX6_isUnder n (uN.2.1 (uF.2.1 x1.toNatClampNeg).toNatClampNeg) x2).bind fun r81 =>
  if r81 = 0 then
  (some (-13 : Int32))
  else
  (some (uF.2.1 x1.toNatClampNeg)))
  else if r40 = (1 : Int32) then
  (if (x2 - (10 : Int32)) = (uF.2.2.1 x1.toNatClampNeg) then
  (some (uF.2.2.2 x1.toNatClampNeg))
  else
  (some (-13 : Int32)))
  else 
  (some (-11 : Int32))
def fX6_taken (n : Nat) (uK : Int32) (uN : TB) (uF : SF) (x1 : Int32) (x2 : Int32) : Option (Int32) :=
  (fX6_within n x1 (0 : Int32) (3 : Int32)).bind fun r3 =>
  if r3 = 0 then
  (some (-1 : Int32))
  else
  ((fX6_within n x2 (0 : Int32) (5 : Int32)).bind fun r12 =>
  if r12 = 0 then
  ((fX6_within n x2 (10 : Int32) (13 : Int32)).bind fun r23 =>
  if r23 = 0 then
  (some (-1 : Int32))
  else
  (fX6_taken_b31 n uK uN uF x1 x2  ))
  else
  (fX6_taken_b31 n uK uN uF x1 x2  ))
def fX6_act (n : Nat) (uK : Int32) (uN : TB) (uF : SF) (uG : SG) (x1 : Int32) (x2 : Int32) (x3 : Int32) : Option (Int32 × SG) :=
  (fX6_within n x1 (0 : Int32) (3 : Int32)).bind fun r11 =>
  if r11 = 0 then
  (some ((0 : Int32), (uG.1, (0 : Int32), uG.2.2.1, uG.2.2.2.1, uG.2.2.2.2.1, uG.2.2.2.2.2)))
  else
  ((fX6_within n x2 (0 : Int32) (3 : Int32)).bind fun r20 =>
  if r20 = 0 then
  (some ((0 : Int32), (uG.1, (0 : Int32), uG.2.2.1, uG.2.2.2.1, uG.2.2.2.2.1, uG.2.2.2.2.2)))
  else
  (if x1 < 0 ∨ 4 ≤ x1.toNatClampNeg then none else
  (fX6_heldNow n uK uN uF x1.toNatClampNeg).bind fun r33 =>
  if r33 = 0 then
  (if (uF.2.1 x1.toNatClampNeg) < 0 ∨ 8 ≤ (uF.2.1 x1.toNatClampNeg).toNatClampNeg then none else
  if (uF.2.1 x1.toNatClampNeg) < 0 ∨ 8 ≤ (uF.2.1 x1.toNatClampNeg).toNatClampNeg then none else
  (fX3_perform n (uG.1, (0 : Int32), uG.2.2.1, uG.2.2.2.1, uG.2.2.2.2.1, uG.2.2.2.2.2) (uN.2.1 (uF.2.1 x1.toNatClampNeg).toNatClampNeg) (uF.2.1 x1.toNatClampNeg) (uN.2.2.1 (uF.2.1 x1.toNatClampNeg).toNatClampNeg) x2 x3).bind fun r80 =>
  some (r80.1, r80.2))
  else
  (some ((0 : Int32), (uG.1, (0 : Int32), uG.2.2.1, uG.2.2.2.1, uG.2.2.2.2.1, uG.2.2.2.2.2)))))
def fX6_trace (n : Nat) (uK : Int32) (uG : SG) (x1 : Int32) : Option (Int32) :=
  (fX6_within n x1 (0 : Int32) (uG.2.1 - (1 : Int32))).bind fun r11 =>
  if r11 = 0 then
  (some (-3 : Int32))
  else
  (if x1 < 0 ∨ 30 ≤ x1.toNatClampNeg then none else
  some (uG.1 x1.toNatClampNeg))
def fX6_many (n : Nat) (uK : Int32) (uN : TB) (uA : TP) (uW : RW) (uG : SG) (x1 : Int32) : Option (Int32) :=
  if x1 = (0 : Int32) then
  (some uN.2.2.2.2.2.2.1)
  else if x1 = (1 : Int32) then
  ((fJ6_bitCount_0f7a4 n uN.2.2.2.2.2.1).bind fun r59 =>
  some r59)
  else if x1 = (2 : Int32) then
  ((fX4_tellers n uN).bind fun r67 =>
  some r67)
  else if x1 = (3 : Int32) then
  ((fX4_piecesOf n uN (uN.2.2.2.2.2.1 ^^^ (-1 : Int32))).bind fun r84 =>
  (fJ6_bitCount_0f7a4 n r84).bind fun r87 =>
  some r87)
  else if x1 = (4 : Int32) then
  (some uW.2)
  else if x1 = (5 : Int32) then
  (some uA.2.1)
  else if x1 = (6 : Int32) then
  (some uG.2.1)
  else 
  (some (-1 : Int32))
def fX6_keep (n : Nat) (uK : Int32) (uN : TB) (uE : TB) : Option (Int32 × Int32 × TB) :=
  (fX4_copyFrom n uE uN).bind fun r8 =>
  some ((1 : Int32), (1 : Int32), r8)
def fX6_again (n : Nat) (uK : Int32) (uN : TB) (uE : TB) : Option (Int32 × TB) :=
  if uK = 0 then
  (some ((-3 : Int32), uN))
  else
  ((fX4_copyFrom n uN uE).bind fun r18 =>
  some (r18.2.2.2.2.2.2.1, r18))
def fX7_begins_F9 (n : Nat) (uM : MO)  (k9 : ((Nat → Int32) × Int32 × Int32) → Option ((Nat → Int32))) (v9 : (Nat → Int32) × Int32 × Int32) : Option ((Nat → Int32)) :=
  if (48 : Int32) ≤ v9.2.2 then
  (some (upd (upd (upd (upd (upd v9.1 (2 : Int32).toNatClampNeg v9.2.1) (4 : Int32).toNatClampNeg (3 : Int32)) (5 : Int32).toNatClampNeg (2 : Int32)) (6 : Int32).toNatClampNeg (90 : Int32)) (7 : Int32).toNatClampNeg (20 : Int32)))
  else
  (if v9.2.2 < 0 ∨ 48 ≤ v9.2.2.toNatClampNeg then none else
  k9 ((upd v9.1 v9.2.2.toNatClampNeg (0 : Int32)), v9.2.1, (v9.2.2 + (1 : Int32))))
def fX7_begins (n : Nat) (uM : MO) (u_s : Nat → Int32) : Option ((Nat → Int32)) :=
  lpF (fX7_begins_F9 n uM ) n (u_s, (u_s (2 : Int32).toNatClampNeg), (0 : Int32))
def fX7_isIn (n : Nat) (x0 : Int64) (x2 : Int64) (x4 : Int64) : Option (Int32) :=
  if (lg_cmp x0 x2) < 0 then
  (some (0 : Int32))
  else
  (if 0 < (lg_cmp x0 x4) then
  (some (0 : Int32))
  else
  (some (1 : Int32)))
def fX7_isOne (n : Nat) (uM : MO) (u_s : Nat → Int32) (x1 : Int32) : Option (Int32) :=
  if x1 < 0 then
  (some (0 : Int32))
  else
  (if (u_s (0 : Int32).toNatClampNeg) ≤ x1 then
  (some (0 : Int32))
  else
  (some (1 : Int32)))
def fX7_its (n : Nat) (uM : MO) (u_s : Nat → Int32) (x1 : Int32) (x2 : Int32) : Option (Int32) :=
  if (((8 : Int32) + ((5 : Int32) * x1)) + x2) < 0 ∨ 48 ≤ (((8 : Int32) + ((5 : Int32) * x1)) + x2).toNatClampNeg then none else
  some (u_s (((8 : Int32) + ((5 : Int32) * x1)) + x2).toNatClampNeg)
def fX7_becomes (n : Nat) (uM : MO) (u_s : Nat → Int32) (x1 : Int32) (x2 : Int32) : Option (Int32 × (Nat → Int32)) :=
  if x1 < 0 ∨ 48 ≤ x1.toNatClampNeg then none else
  if x1 < 0 ∨ 48 ≤ x1.toNatClampNeg then none else
  some ((u_s x1.toNatClampNeg), (upd u_s x1.toNatClampNeg x2))
def fX7_copyRow_F2 (n : Nat) (up : Nat → Int32)  (k2 : ((Nat → Int32) × Int32) → Option ((Nat → Int32))) (v2 : (Nat → Int32) × Int32) : Option ((Nat → Int32)) :=
  if (48 : Int32) ≤ v2.2 then
  (some v2.1)
  else
  (if v2.2 < 0 ∨ 48 ≤ v2.2.toNatClampNeg then none else
  if v2.2 < 0 ∨ 48 ≤ v2.2.toNatClampNeg then none else
  k2 ((upd v2.1 v2.2.toNatClampNeg (up v2.2.toNatClampNeg)), (v2.2 + (1 : Int32))))
def fX7_copyRow (n : Nat) (up : Nat → Int32) (uq : Nat → Int32) : Option ((Nat → Int32)) :=
  lpF (fX7_copyRow_F2 n up ) n (uq, (0 : Int32))
def fX7_least (n : Nat) (x0 : Int32) (x1 : Int32) : Option (Int32) :=
  if x1 ≤ x0 then
  (some x1)
  else
  (some x0)
def fX7_greatest (n : Nat) (x0 : Int32) (x1 : Int32) : Option (Int32) :=
  if x0 ≤ x1 then
  (some x1)
  else
  (some x0)
def fX7_within (n : Nat) (x0 : Int32) : Option (Int32) :=
  if 0 ≤ x0 then
  (if x0 ≤ (99 : Int32) then
  (some x0)
  else
  (some (99 : Int32)))
  else
  (some (0 : Int32))
def fX7_size_F4 (n : Nat) (x0 : Int32)  (k4 : (Int32 × Int32) → Option (Int32)) (v4 : Int32 × Int32) : Option (Int32) :=
  if v4.2 = 0 then
  (some v4.1)
  else
  (k4 ((v4.1 + (1 : Int32)), (v4.2 &&& (v4.2 - (1 : Int32)))))
def fX7_size (n : Nat) (x0 : Int32) : Option (Int32) :=
  lpF (fX7_size_F4 n x0 ) n ((0 : Int32), x0)
def fX7_isUnder_b19 (n : Nat) (x0 : Int32) (x1 : Int32)   : Option (Int32) :=
  if x1 = (2 : Int32) then
  (if x0 = (4 : Int32) then
  (some (1 : Int32))
  else
  (some (0 : Int32)))
  else
  (some (0 : Int32))
def fX7_isUnder (n : Nat) (x0 : Int32) (x1 : Int32) : Option (Int32) :=
  if x1 = 0 then
  (some (1 : Int32))
  else
  (if x0 = x1 then
  (some (1 : Int32))
  else
  (if x1 = (1 : Int32) then
  (if x0 = (3 : Int32) then
  (some (1 : Int32))
  else
  (fX7_isUnder_b19 n x0 x1  ))
  else
  (fX7_isUnder_b19 n x0 x1  )))
def fX7_feed_F32 (n : Nat) (x1 : Int64) (x3 : Int32)  (k32 : (MO × (Nat → Int32) × Int32) → Option (Int32 × MO × (Nat → Int32))) (v32 : MO × (Nat → Int32) × Int32) : Option (Int32 × MO × (Nat → Int32)) :=
  if x3 ≤ v32.2.2 then
  (some (v32.1.2.1, v32.1, v32.2.1))
  else
  (if v32.1.2.1 < 0 ∨ 200 ≤ v32.1.2.1.toNatClampNeg then none else
  k32 ((v32.1.1, (v32.1.2.1 + (1 : Int32)), v32.1.2.2.1, v32.1.2.2.2.1, v32.1.2.2.2.2.1, v32.1.2.2.2.2.2.1, v32.1.2.2.2.2.2.2.1, v32.1.2.2.2.2.2.2.2.1, v32.1.2.2.2.2.2.2.2.2.1, v32.1.2.2.2.2.2.2.2.2.2.1, v32.1.2.2.2.2.2.2.2.2.2.2.1, v32.1.2.2.2.2.2.2.2.2.2.2.2.1, v32.1.2.2.2.2.2.2.2.2.2.2.2.2), (upd v32.2.1 v32.1.2.1.toNatClampNeg ((x1 >>> (((8 : Int32) * v32.2.2).toInt64 &&& 63)) &&& (255 : Int64)).toInt32), (v32.2.2 + (1 : Int32))))
def fX7_feed (n : Nat) (uM : MO) (u_tape : Nat → Int32) (x1 : Int64) (x3 : Int32) : Option (Int32 × MO × (Nat → Int32)) :=
  (fX7_isIn n x3.toInt64 (1 : Int64) (8 : Int64)).bind fun r6 =>
  if r6 = 0 then
  (some ((-1 : Int32), uM, u_tape))
  else
  (if (uM.2.1 + x3) ≤ (200 : Int32) then
  (lpF (fX7_feed_F32 n x1 x3 ) n (uM, u_tape, (0 : Int32)))
  else
  (some ((-2 : Int32), uM, u_tape)))
def fX7_isAlpha (n : Nat) (x0 : Int32) : Option (Int32) :=
  if x0 < (97 : Int32) then
  (some (0 : Int32))
  else
  (if (122 : Int32) < x0 then
  (some (0 : Int32))
  else
  (some (1 : Int32)))
def fX7_isDigit (n : Nat) (x0 : Int32) : Option (Int32) :=
  if x0 < (48 : Int32) then
  (some (0 : Int32))
  else
  (if (57 : Int32) < x0 then
  (some (0 : Int32))
  else
  (some (1 : Int32)))
def fX7_byteAt (n : Nat) (uM : MO) (u_tape : Nat → Int32) (x1 : Int32) : Option (Int32) :=
  if uM.2.1 ≤ x1 then
  (some (-1 : Int32))
  else
  (if x1 < 0 ∨ 200 ≤ x1.toNatClampNeg then none else
  some (u_tape x1.toNatClampNeg))
def fX7_nextToken_b201 (n : Nat) (u_tape : Nat → Int32)  (uM : MO) : Option (MO) :=
  if uM.2.2.1 ≤ (2 : Int32) then
  (some (uM.1, uM.2.1, uM.2.2.1, uM.2.2.2.1, (uM.2.2.2.2.1 + (0 : Int32)), uM.2.2.2.2.2.1, uM.2.2.2.2.2.2.1, uM.2.2.2.2.2.2.2.1, uM.2.2.2.2.2.2.2.2.1, uM.2.2.2.2.2.2.2.2.2.1, uM.2.2.2.2.2.2.2.2.2.2.1, uM.2.2.2.2.2.2.2.2.2.2.2.1, uM.2.2.2.2.2.2.2.2.2.2.2.2))
  else
  (some (uM.1, uM.2.1, uM.2.2.1, uM.2.2.2.1, (uM.2.2.2.2.1 + (1 : Int32)), uM.2.2.2.2.2.1, uM.2.2.2.2.2.2.1, uM.2.2.2.2.2.2.2.1, uM.2.2.2.2.2.2.2.2.1, uM.2.2.2.2.2.2.2.2.2.1, uM.2.2.2.2.2.2.2.2.2.2.1, uM.2.2.2.2.2.2.2.2.2.2.2.1, uM.2.2.2.2.2.2.2.2.2.2.2.2))
def fX7_nextToken_b185 (n : Nat) (u_tape : Nat → Int32) (k126 : MO → Option (MO)) (uM : MO) (w1 : Int32) : Option (MO) :=
  k126 (uM.1, uM.2.1, uM.2.2.1, uM.2.2.2.1, (uM.2.2.2.2.1 + (1 : Int32)), w1, uM.2.2.2.2.2.2.1, uM.2.2.2.2.2.2.2.1, uM.2.2.2.2.2.2.2.2.1, uM.2.2.2.2.2.2.2.2.2.1, uM.2.2.2.2.2.2.2.2.2.2.1, uM.2.2.2.2.2.2.2.2.2.2.2.1, uM.2.2.2.2.2.2.2.2.2.2.2.2)
def fX7_nextToken_F126 (n : Nat) (u_tape : Nat → Int32)  (k126 : MO → Option (MO)) (v126 : MO) : Option (MO) :=
  if v126.2.2.1 = (2 : Int32) then
  ((fX7_byteAt n v126 u_tape v126.2.2.2.2.1).bind fun r139 =>
  (fX7_isDigit n r139).bind fun r142 =>
  if r142 = 0 then
  (fX7_nextToken_b201 n u_tape  v126)
  else
  (if v126.2.2.2.2.2.1 ≤ (999 : Int32) then
  ((fX7_byteAt n v126 u_tape v126.2.2.2.2.1).bind fun r178 =>
  fX7_nextToken_b185 n u_tape k126 v126 ((((10 : Int32) * v126.2.2.2.2.2.1) + r178) - (48 : Int32)))
  else
  (fX7_nextToken_b185 n u_tape k126 v126 v126.2.2.2.2.2.1)))
  else
  (fX7_nextToken_b201 n u_tape  v126)
def fX7_nextToken_F91 (n : Nat) (u_tape : Nat → Int32)  (k91 : MO → Option (MO)) (v91 : MO) : Option (MO) :=
  if v91.2.2.1 = (1 : Int32) then
  ((fX7_byteAt n v91 u_tape v91.2.2.2.2.1).bind fun r104 =>
  (fX7_isAlpha n r104).bind fun r107 =>
  if r107 = 0 then
  (lpF (fX7_nextToken_F126 n u_tape ) n v91)
  else
  (k91 (v91.1, v91.2.1, v91.2.2.1, v91.2.2.2.1, (v91.2.2.2.2.1 + (1 : Int32)), v91.2.2.2.2.2.1, v91.2.2.2.2.2.2.1, v91.2.2.2.2.2.2.2.1, v91.2.2.2.2.2.2.2.2.1, v91.2.2.2.2.2.2.2.2.2.1, v91.2.2.2.2.2.2.2.2.2.2.1, v91.2.2.2.2.2.2.2.2.2.2.2.1, v91.2.2.2.2.2.2.2.2.2.2.2.2)))
  else
  (lpF (fX7_nextToken_F126 n u_tape ) n v91)
def fX7_nextToken_b83 (n : Nat) (u_tape : Nat → Int32)  (uM : MO) (w1 : Int32) : Option (MO) :=
  lpF (fX7_nextToken_F91 n u_tape ) n (uM.1, uM.2.1, w1, uM.2.2.2.1, uM.2.2.2.2.1, (0 : Int32), uM.2.2.2.2.2.2.1, uM.2.2.2.2.2.2.2.1, uM.2.2.2.2.2.2.2.2.1, uM.2.2.2.2.2.2.2.2.2.1, uM.2.2.2.2.2.2.2.2.2.2.1, uM.2.2.2.2.2.2.2.2.2.2.2.1, uM.2.2.2.2.2.2.2.2.2.2.2.2)
def fX7_nextToken_F8 (n : Nat) (u_tape : Nat → Int32)  (k8 : MO → Option (MO)) (v8 : MO) : Option (MO) :=
  (fX7_byteAt n v8 u_tape v8.2.2.2.1).bind fun r13 =>
  if r13 = (32 : Int32) then
  (k8 (v8.1, v8.2.1, v8.2.2.1, (v8.2.2.2.1 + (1 : Int32)), v8.2.2.2.2.1, v8.2.2.2.2.2.1, v8.2.2.2.2.2.2.1, v8.2.2.2.2.2.2.2.1, v8.2.2.2.2.2.2.2.2.1, v8.2.2.2.2.2.2.2.2.2.1, v8.2.2.2.2.2.2.2.2.2.2.1, v8.2.2.2.2.2.2.2.2.2.2.2.1, v8.2.2.2.2.2.2.2.2.2.2.2.2))
  else
  ((fX7_byteAt n (v8.1, v8.2.1, v8.2.2.1, v8.2.2.2.1, v8.2.2.2.1, v8.2.2.2.2.2.1, v8.2.2.2.2.2.2.1, v8.2.2.2.2.2.2.2.1, v8.2.2.2.2.2.2.2.2.1, v8.2.2.2.2.2.2.2.2.2.1, v8.2.2.2.2.2.2.2.2.2.2.1, v8.2.2.2.2.2.2.2.2.2.2.2.1, v8.2.2.2.2.2.2.2.2.2.2.2.2) u_tape v8.2.2.2.1).bind fun r47 =>
  if 0 ≤ r47 then
  ((fX7_isAlpha n r47).bind fun r61 =>
  if r61 = 0 then
  ((fX7_isDigit n r47).bind fun r72 =>
  if r72 = 0 then
  (fX7_nextToken_b83 n u_tape  (v8.1, v8.2.1, v8.2.2.1, v8.2.2.2.1, v8.2.2.2.1, v8.2.2.2.2.2.1, v8.2.2.2.2.2.2.1, v8.2.2.2.2.2.2.2.1, v8.2.2.2.2.2.2.2.2.1, v8.2.2.2.2.2.2.2.2.2.1, v8.2.2.2.2.2.2.2.2.2.2.1, v8.2.2.2.2.2.2.2.2.2.2.2.1, v8.2.2.2.2.2.2.2.2.2.2.2.2) (3 : Int32))
  else
  (fX7_nextToken_b83 n u_tape  (v8.1, v8.2.1, v8.2.2.1, v8.2.2.2.1, v8.2.2.2.1, v8.2.2.2.2.2.1, v8.2.2.2.2.2.2.1, v8.2.2.2.2.2.2.2.1, v8.2.2.2.2.2.2.2.2.1, v8.2.2.2.2.2.2.2.2.2.1, v8.2.2.2.2.2.2.2.2.2.2.1, v8.2.2.2.2.2.2.2.2.2.2.2.1, v8.2.2.2.2.2.2.2.2.2.2.2.2) (2 : Int32)))
  else
  (fX7_nextToken_b83 n u_tape  (v8.1, v8.2.1, v8.2.2.1, v8.2.2.2.1, v8.2.2.2.1, v8.2.2.2.2.2.1, v8.2.2.2.2.2.2.1, v8.2.2.2.2.2.2.2.1, v8.2.2.2.2.2.2.2.2.1, v8.2.2.2.2.2.2.2.2.2.1, v8.2.2.2.2.2.2.2.2.2.2.1, v8.2.2.2.2.2.2.2.2.2.2.2.1, v8.2.2.2.2.2.2.2.2.2.2.2.2) (1 : Int32)))
  else
  (fX7_nextToken_b83 n u_tape  (v8.1, v8.2.1, v8.2.2.1, v8.2.2.2.1, v8.2.2.2.1, v8.2.2.2.2.2.1, v8.2.2.2.2.2.2.1, v8.2.2.2.2.2.2.2.1, v8.2.2.2.2.2.2.2.2.1, v8.2.2.2.2.2.2.2.2.2.1, v8.2.2.2.2.2.2.2.2.2.2.1, v8.2.2.2.2.2.2.2.2.2.2.2.1, v8.2.2.2.2.2.2.2.2.2.2.2.2) (0 : Int32)))
def fX7_nextToken (n : Nat) (uM : MO) (u_tape : Nat → Int32) : Option (MO) :=
  lpF (fX7_nextToken_F8 n u_tape ) n (uM.1, uM.2.1, uM.2.2.1, uM.2.2.2.2.1, uM.2.2.2.2.1, uM.2.2.2.2.2.1, uM.2.2.2.2.2.2.1, uM.2.2.2.2.2.2.2.1, uM.2.2.2.2.2.2.2.2.1, uM.2.2.2.2.2.2.2.2.2.1, uM.2.2.2.2.2.2.2.2.2.2.1, uM.2.2.2.2.2.2.2.2.2.2.2.1, uM.2.2.2.2.2.2.2.2.2.2.2.2)
def fX7_needs_b17 (n : Nat) (u_tape : Nat → Int32) (x1 : Int32)  (uM : MO) (w1 : Int32) : Option (MO) :=
  if ¬ (w1 = 0 ∨ w1 = 1) then none else
  if w1 = 0 then
  ((fX7_nextToken n (uM.1, uM.2.1, uM.2.2.1, uM.2.2.2.1, uM.2.2.2.2.1, uM.2.2.2.2.2.1, w1, uM.2.2.2.2.2.2.2.1, uM.2.2.2.2.2.2.2.2.1, uM.2.2.2.2.2.2.2.2.2.1, uM.2.2.2.2.2.2.2.2.2.2.1, uM.2.2.2.2.2.2.2.2.2.2.2.1, uM.2.2.2.2.2.2.2.2.2.2.2.2) u_tape).bind fun r28 =>
  some r28)
  else
  (some (uM.1, uM.2.1, uM.2.2.1, uM.2.2.2.1, uM.2.2.2.2.1, uM.2.2.2.2.2.1, w1, uM.2.2.2.2.2.2.2.1, uM.2.2.2.2.2.2.2.2.1, uM.2.2.2.2.2.2.2.2.2.1, uM.2.2.2.2.2.2.2.2.2.2.1, uM.2.2.2.2.2.2.2.2.2.2.2.1, uM.2.2.2.2.2.2.2.2.2.2.2.2))
def fX7_needs_b12 (n : Nat) (u_tape : Nat → Int32) (x1 : Int32)  (uM : MO) : Option (MO) :=
  fX7_needs_b17 n u_tape x1  uM (1 : Int32)
def fX7_needs (n : Nat) (uM : MO) (u_tape : Nat → Int32) (x1 : Int32) : Option (MO) :=
  if uM.2.2.2.2.2.2.1 = 0 then
  (if x1 = 0 then
  (fX7_needs_b12 n u_tape x1  uM)
  else
  (fX7_needs_b17 n u_tape x1  uM (0 : Int32)))
  else
  (fX7_needs_b12 n u_tape x1  uM)
def fX7_isName (n : Nat) (uM : MO) (u_tape : Nat → Int32) (x1 : Int32) (x2 : Int32) (x3 : Int32) (x4 : Int32) (x5 : Int32) : Option (Int32) :=
  if uM.2.2.1 = (1 : Int32) then
  (if (uM.2.2.2.2.1 - uM.2.2.2.1) = x1 then
  ((fX7_byteAt n uM u_tape uM.2.2.2.1).bind fun r26 =>
  if r26 = x2 then
  ((fX7_byteAt n uM u_tape (uM.2.2.2.1 + (1 : Int32))).bind fun r40 =>
  if r40 = x3 then
  ((fX7_byteAt n uM u_tape (uM.2.2.2.1 + (2 : Int32))).bind fun r54 =>
  if r54 = x4 then
  ((fX7_byteAt n uM u_tape (uM.2.2.2.2.1 - (1 : Int32))).bind fun r69 =>
  if r69 = x5 then
  (some (1 : Int32))
  else
  (some (0 : Int32)))
  else
  (some (0 : Int32)))
  else
  (some (0 : Int32)))
  else
  (some (0 : Int32)))
  else
  (some (0 : Int32)))
  else
  (some (0 : Int32))
def fX7_isSame (n : Nat) (uM : MO) (u_tape : Nat → Int32) (x1 : Int32) (x2 : Int32) (x3 : Int32) (x4 : Int32) : Option (Int32) :=
  (fX7_byteAt n uM u_tape (uM.2.2.2.1 + x1)).bind fun r7 =>
  if r7 = x2 then
  ((fX7_byteAt n uM u_tape ((uM.2.2.2.1 + x1) + (1 : Int32))).bind fun r23 =>
  if r23 = x3 then
  ((fX7_byteAt n uM u_tape ((uM.2.2.2.1 + x1) + (2 : Int32))).bind fun r39 =>
  if r39 = x4 then
  (some (1 : Int32))
  else
  (some (0 : Int32)))
  else
  (some (0 : Int32)))
  else
  (some (0 : Int32))
def fX7_isFour (n : Nat) (uM : MO) (u_tape : Nat → Int32) (x1 : Int32) (x2 : Int32) (x3 : Int32) (x4 : Int32) : Option (Int32) :=
  (fX7_isName n uM u_tape (4 : Int32) x1 x2 x3 x4).bind fun r7 =>
  if ¬ (r7 = 0 ∨ r7 = 1) then none else
  some r7
def fX7_isFive (n : Nat) (uM : MO) (u_tape : Nat → Int32) (x1 : Int32) (x2 : Int32) (x3 : Int32) (x4 : Int32) (x5 : Int32) : Option (Int32) :=
  (fX7_isName n uM u_tape (5 : Int32) x1 x2 x3 x5).bind fun r7 =>
  if r7 = 0 then
  (some (0 : Int32))
  else
  ((fX7_byteAt n uM u_tape (uM.2.2.2.1 + (3 : Int32))).bind fun r20 =>
  if r20 = x4 then
  (some (1 : Int32))
  else
  (some (0 : Int32)))
def fX7_kindHere_b71 (n : Nat) (uM : MO) (u_tape : Nat → Int32)   : Option (Int32) :=
  (fX7_isFour n uM u_tape (104 : Int32) (101 : Int32) (105 : Int32) (114 : Int32)).bind fun r80 =>
  if r80 = 0 then
  ((fX7_isFive n uM u_tape (99 : Int32) (108 : Int32) (101 : Int32) (114 : Int32) (107 : Int32)).bind fun r99 =>
  if r99 = 0 then
  ((fX7_isFour n uM u_tape (103 : Int32) (105 : Int32) (114 : Int32) (108 : Int32)).bind fun r116 =>
  if r116 = 0 then
  (some (-1 : Int32))
  else
  (some (5 : Int32)))
  else
  (some (4 : Int32)))
  else
  (some (3 : Int32))
def fX7_kindHere (n : Nat) (uM : MO) (u_tape : Nat → Int32) : Option (Int32) :=
  (fX7_isFive n uM u_tape (103 : Int32) (117 : Int32) (101 : Int32) (115 : Int32) (116 : Int32)).bind fun r11 =>
  if r11 = 0 then
  ((fX7_isFive n uM u_tape (110 : Int32) (105 : Int32) (101 : Int32) (99 : Int32) (101 : Int32)).bind fun r30 =>
  if r30 = 0 then
  ((fX7_isName n uM u_tape (7 : Int32) (97 : Int32) (99 : Int32) (116 : Int32) (121 : Int32)).bind fun r49 =>
  if r49 = 0 then
  (fX7_kindHere_b71 n uM u_tape  )
  else
  ((fX7_isSame n uM u_tape (3 : Int32) (117 : Int32) (97 : Int32) (114 : Int32)).bind fun r63 =>
  if r63 = 0 then
  (fX7_kindHere_b71 n uM u_tape  )
  else
  (some (2 : Int32))))
  else
  (some (1 : Int32)))
  else
  (some (0 : Int32))
def fX7_numberTo_b56 (n : Nat) (u_tape : Nat → Int32) (x1 : Int32) (x2 : Int32)  (uM : MO) (u_s : Nat → Int32) (y3 : Int32) : Option (MO × (Nat → Int32)) :=
  (fX7_needs n uM u_tape y3).bind fun r58 =>
  some (r58, u_s)
def fX7_numberTo_b34 (n : Nat) (u_tape : Nat → Int32) (x1 : Int32) (x2 : Int32)  (uM : MO) (u_s : Nat → Int32) (w0 : Int32) : Option (MO × (Nat → Int32)) :=
  if w0 = 0 then
  (fX7_numberTo_b56 n u_tape x1 x2  uM u_s w0)
  else
  (if uM.2.2.2.2.2.2.1 = 0 then
  (if x1 < 0 ∨ 48 ≤ x1.toNatClampNeg then none else
  fX7_numberTo_b56 n u_tape x1 x2  uM (upd u_s x1.toNatClampNeg uM.2.2.2.2.2.1) w0)
  else
  (fX7_numberTo_b56 n u_tape x1 x2  uM u_s w0))
def fX7_numberTo_b33 (n : Nat) (u_tape : Nat → Int32) (x1 : Int32) (x2 : Int32)  (uM : MO) (u_s : Nat → Int32) : Option (MO × (Nat → Int32)) :=
  fX7_numberTo_b34 n u_tape x1 x2  uM u_s (0 : Int32)
def fX7_numberTo (n : Nat) (uM : MO) (u_s : Nat → Int32) (u_tape : Nat → Int32) (x1 : Int32) (x2 : Int32) : Option (MO × (Nat → Int32)) :=
  if uM.2.2.1 = (2 : Int32) then
  (if (3 : Int32) < (uM.2.2.2.2.1 - uM.2.2.2.1) then
  (fX7_numberTo_b33 n u_tape x1 x2  uM u_s)
  else
  (if x2 < uM.2.2.2.2.2.1 then
  (fX7_numberTo_b33 n u_tape x1 x2  uM u_s)
  else
  (fX7_numberTo_b34 n u_tape x1 x2  uM u_s (1 : Int32))))
  else
  (fX7_numberTo_b33 n u_tape x1 x2  uM u_s)
def fX7_comes (n : Nat) (uM : MO) (u_s : Nat → Int32) (x1 : Int32) (x2 : Int32) : Option ((Nat → Int32)) :=
  if ((8 : Int32) + ((5 : Int32) * (u_s (0 : Int32).toNatClampNeg))) < 0 ∨ 48 ≤ ((8 : Int32) + ((5 : Int32) * (u_s (0 : Int32).toNatClampNeg))).toNatClampNeg then none else
  if (((8 : Int32) + ((5 : Int32) * (u_s (0 : Int32).toNatClampNeg))) + (1 : Int32)) < 0 ∨ 48 ≤ (((8 : Int32) + ((5 : Int32) * (u_s (0 : Int32).toNatClampNeg))) + (1 : Int32)).toNatClampNeg then none else
  if (((8 : Int32) + ((5 : Int32) * (u_s (0 : Int32).toNatClampNeg))) + (2 : Int32)) < 0 ∨ 48 ≤ (((8 : Int32) + ((5 : Int32) * (u_s (0 : Int32).toNatClampNeg))) + (2 : Int32)).toNatClampNeg then none else
  if (((8 : Int32) + ((5 : Int32) * (u_s (0 : Int32).toNatClampNeg))) + (3 : Int32)) < 0 ∨ 48 ≤ (((8 : Int32) + ((5 : Int32) * (u_s (0 : Int32).toNatClampNeg))) + (3 : Int32)).toNatClampNeg then none else
  if (((8 : Int32) + ((5 : Int32) * (u_s (0 : Int32).toNatClampNeg))) + (4 : Int32)) < 0 ∨ 48 ≤ (((8 : Int32) + ((5 : Int32) * (u_s (0 : Int32).toNatClampNeg))) + (4 : Int32)).toNatClampNeg then none else
  some (upd (upd (upd (upd (upd (upd u_s ((8 : Int32) + ((5 : Int32) * (u_s (0 : Int32).toNatClampNeg))).toNatClampNeg x1) (((8 : Int32) + ((5 : Int32) * (u_s (0 : Int32).toNatClampNeg))) + (1 : Int32)).toNatClampNeg x2) (((8 : Int32) + ((5 : Int32) * (u_s (0 : Int32).toNatClampNeg))) + (2 : Int32)).toNatClampNeg (0 : Int32)) (((8 : Int32) + ((5 : Int32) * (u_s (0 : Int32).toNatClampNeg))) + (3 : Int32)).toNatClampNeg (0 : Int32)) (((8 : Int32) + ((5 : Int32) * (u_s (0 : Int32).toNatClampNeg))) + (4 : Int32)).toNatClampNeg (0 : Int32)) (0 : Int32).toNatClampNeg (((upd (upd (upd (upd (upd u_s ((8 : Int32) + ((5 : Int32) * (u_s (0 : Int32).toNatClampNeg))).toNatClampNeg x1) (((8 : Int32) + ((5 : Int32) * (u_s (0 : Int32).toNatClampNeg))) + (1 : Int32)).toNatClampNeg x2) (((8 : Int32) + ((5 : Int32) * (u_s (0 : Int32).toNatClampNeg))) + (2 : Int32)).toNatClampNeg (0 : Int32)) (((8 : Int32) + ((5 : Int32) * (u_s (0 : Int32).toNatClampNeg))) + (3 : Int32)).toNatClampNeg (0 : Int32)) (((8 : Int32) + ((5 : Int32) * (u_s (0 : Int32).toNatClampNeg))) + (4 : Int32)).toNatClampNeg (0 : Int32)) (0 : Int32).toNatClampNeg) + (1 : Int32)))
def fX7_guestHere_b116 (n : Nat) (u_tape : Nat → Int32) (x1 : Int32)  (uM : MO) (u_s : Nat → Int32) (y2 : Int32) : Option (MO × (Nat → Int32)) :=
  if uM.2.2.2.2.2.2.1 = 0 then
  ((fX7_isName n uM u_tape (7 : Int32) (100 : Int32) (114 : Int32) (111 : Int32) (100 : Int32)).bind fun r134 =>
  if r134 = 0 then
  (some (uM, u_s))
  else
  ((fX7_isSame n uM u_tape (3 : Int32) (119 : Int32) (110 : Int32) (101 : Int32)).bind fun r148 =>
  if r148 = 0 then
  (some (uM, u_s))
  else
  ((fX7_nextToken n uM u_tape).bind fun r155 =>
  if (y2 + (4 : Int32)) < 0 ∨ 48 ≤ (y2 + (4 : Int32)).toNatClampNeg then none else
  some (r155, (upd u_s (y2 + (4 : Int32)).toNatClampNeg (1 : Int32))))))
  else
  (some (uM, u_s))
def fX7_guestHere_b76 (n : Nat) (u_tape : Nat → Int32) (x1 : Int32)  (uM : MO) (u_s : Nat → Int32) (y2 : Int32) (w1 : Int32) : Option (MO × (Nat → Int32)) :=
  (fX7_numberTo n uM u_s u_tape w1 (7 : Int32)).bind fun r78 =>
  if r78.1.2.2.2.2.2.2.1 = 0 then
  ((fX7_isFour n r78.1 u_tape (103 : Int32) (111 : Int32) (110 : Int32) (101 : Int32)).bind fun r97 =>
  if r97 = 0 then
  (fX7_guestHere_b116 n u_tape x1  r78.1 r78.2 y2)
  else
  ((fX7_nextToken n r78.1 u_tape).bind fun r104 =>
  (fX7_numberTo n r104 r78.2 u_tape (y2 + (2 : Int32)) (99 : Int32)).bind fun r113 =>
  fX7_guestHere_b116 n u_tape x1  r113.1 r113.2 y2))
  else
  (fX7_guestHere_b116 n u_tape x1  r78.1 r78.2 y2)
def fX7_guestHere_b61 (n : Nat) (u_tape : Nat → Int32) (x1 : Int32)  (uM : MO) (u_s : Nat → Int32) (y2 : Int32) : Option (MO × (Nat → Int32)) :=
  if uM.2.2.2.2.2.2.1 = 0 then
  (fX7_guestHere_b76 n u_tape x1  uM u_s y2 (y2 + (1 : Int32)))
  else
  (fX7_guestHere_b76 n u_tape x1  uM u_s y2 (0 : Int32))
def fX7_guestHere_b29 (n : Nat) (u_tape : Nat → Int32) (x1 : Int32)  (uM : MO) (u_s : Nat → Int32) (y2 : Int32) (w1 : Int32) : Option (MO × (Nat → Int32)) :=
  (fX7_needs n uM u_tape w1).bind fun r29 =>
  (fX7_isFour n r29 u_tape (119 : Int32) (105 : Int32) (116 : Int32) (104 : Int32)).bind fun r42 =>
  (fX7_needs n r29 u_tape r42).bind fun r45 =>
  if r45.2.2.2.2.2.2.1 = 0 then
  ((fX7_comes n r45 u_s x1 (0 : Int32)).bind fun r58 =>
  fX7_guestHere_b61 n u_tape x1  r45 r58 y2)
  else
  (fX7_guestHere_b61 n u_tape x1  r45 u_s y2)
def fX7_guestHere (n : Nat) (uM : MO) (u_s : Nat → Int32) (u_tape : Nat → Int32) (x1 : Int32) : Option (MO × (Nat → Int32)) :=
  if (8 : Int32) ≤ (u_s (0 : Int32).toNatClampNeg) then
  (fX7_guestHere_b29 n u_tape x1  uM u_s ((8 : Int32) + ((5 : Int32) * (u_s (0 : Int32).toNatClampNeg))) (0 : Int32))
  else
  (fX7_guestHere_b29 n u_tape x1  uM u_s ((8 : Int32) + ((5 : Int32) * (u_s (0 : Int32).toNatClampNeg))) (1 : Int32))
def fX7_lawHere_b33 (n : Nat) (uM : MO) (u_tape : Nat → Int32)   : Option (Int32) :=
  (fX7_isFour n uM u_tape (115 : Int32) (97 : Int32) (108 : Int32) (116 : Int32)).bind fun r42 =>
  if r42 = 0 then
  ((fX7_isFive n uM u_tape (100 : Int32) (101 : Int32) (112 : Int32) (116 : Int32) (104 : Int32)).bind fun r61 =>
  if r61 = 0 then
  ((fX7_isFour n uM u_tape (115 : Int32) (108 : Int32) (105 : Int32) (112 : Int32)).bind fun r79 =>
  if r79 = 0 then
  ((fX7_isFour n uM u_tape (116 : Int32) (111 : Int32) (108 : Int32) (100 : Int32)).bind fun r97 =>
  if r97 = 0 then
  (some (-1 : Int32))
  else
  (some (3 : Int32)))
  else
  (some (7 : Int32)))
  else
  (some (6 : Int32)))
  else
  (some (5 : Int32))
def fX7_lawHere (n : Nat) (uM : MO) (u_tape : Nat → Int32) : Option (Int32) :=
  (fX7_isName n uM u_tape (6 : Int32) (98 : Int32) (114 : Int32) (101 : Int32) (104 : Int32)).bind fun r11 =>
  if r11 = 0 then
  (fX7_lawHere_b33 n uM u_tape  )
  else
  ((fX7_isSame n uM u_tape (3 : Int32) (97 : Int32) (116 : Int32) (104 : Int32)).bind fun r25 =>
  if r25 = 0 then
  (fX7_lawHere_b33 n uM u_tape  )
  else
  (some (4 : Int32)))
def fX7_mostOf (n : Nat) (x0 : Int32) : Option (Int32) :=
  if (2 : Int32) ≤ x0 then
  (some (99 : Int32))
  else
  (some (9 : Int32))
def fX7_itemHere_b95 (n : Nat) (u_tape : Nat → Int32)  (uM : MO) (u_s : Nat → Int32) (w1 : Int32) : Option (MO × (Nat → Int32)) :=
  (fX7_needs n uM u_tape w1).bind fun r95 =>
  some (r95, u_s)
def fX7_itemHere_b94 (n : Nat) (u_tape : Nat → Int32)  (uM : MO) (u_s : Nat → Int32) : Option (MO × (Nat → Int32)) :=
  fX7_itemHere_b95 n u_tape  uM u_s (0 : Int32)
def fX7_itemHere_b68 (n : Nat) (u_tape : Nat → Int32)  (uM : MO) (u_s : Nat → Int32) : Option (MO × (Nat → Int32)) :=
  if uM.2.2.1 = (3 : Int32) then
  ((fX7_byteAt n uM u_tape uM.2.2.2.1).bind fun r82 =>
  if r82 = (59 : Int32) then
  (fX7_itemHere_b95 n u_tape  uM u_s (1 : Int32))
  else
  (fX7_itemHere_b94 n u_tape  uM u_s))
  else
  (fX7_itemHere_b94 n u_tape  uM u_s)
def fX7_itemHere_b65 (n : Nat) (u_tape : Nat → Int32)  (uM : MO) (u_s : Nat → Int32) (w1 : Int32) (w2 : Int32) : Option (MO × (Nat → Int32)) :=
  (fX7_numberTo n uM u_s u_tape w1 w2).bind fun r65 =>
  fX7_itemHere_b68 n u_tape  r65.1 r65.2
def fX7_itemHere_b48 (n : Nat) (u_tape : Nat → Int32)  (uM : MO) (u_s : Nat → Int32) (y2 : Int32) (w1 : Int32) : Option (MO × (Nat → Int32)) :=
  if y2 = (3 : Int32) then
  (fX7_itemHere_b65 n u_tape  uM u_s w1 (999 : Int32))
  else
  ((fX7_mostOf n (y2 - (4 : Int32))).bind fun r62 =>
  fX7_itemHere_b65 n u_tape  uM u_s w1 r62)
def fX7_itemHere_b32 (n : Nat) (u_tape : Nat → Int32)  (uM : MO) (u_s : Nat → Int32) (y2 : Int32) (w1 : Int32) : Option (MO × (Nat → Int32)) :=
  (fX7_needs n uM u_tape w1).bind fun r32 =>
  if r32.2.2.2.2.2.2.1 = 0 then
  (fX7_itemHere_b48 n u_tape  r32 u_s y2 y2)
  else
  (fX7_itemHere_b48 n u_tape  r32 u_s y2 (0 : Int32))
def fX7_itemHere (n : Nat) (uM : MO) (u_s : Nat → Int32) (u_tape : Nat → Int32) : Option (MO × (Nat → Int32)) :=
  (fX7_kindHere n uM u_tape).bind fun r1 =>
  (fX7_lawHere n uM u_tape).bind fun r6 =>
  if r1 < 0 then
  (if r6 < 0 then
  (fX7_itemHere_b32 n u_tape  uM u_s r6 (0 : Int32))
  else
  (fX7_itemHere_b32 n u_tape  uM u_s r6 (1 : Int32)))
  else
  ((fX7_guestHere n uM u_s u_tape r1).bind fun r16 =>
  fX7_itemHere_b68 n u_tape  r16.1 r16.2)
def fX7_feast_b50 (n : Nat) (u_tape : Nat → Int32)  (uM : MO) (u_s : Nat → Int32) (u_before : Nat → Int32) : Option (Int32 × MO × (Nat → Int32) × (Nat → Int32)) :=
  if uM.2.2.2.2.2.2.1 = 0 then
  (some ((u_s (0 : Int32).toNatClampNeg), (uM.1, (0 : Int32), uM.2.2.1, uM.2.2.2.1, uM.2.2.2.2.1, uM.2.2.2.2.2.1, uM.2.2.2.2.2.2.1, (0 : Int32), uM.2.2.2.2.2.2.2.2.1, uM.2.2.2.2.2.2.2.2.2.1, uM.2.2.2.2.2.2.2.2.2.2.1, uM.2.2.2.2.2.2.2.2.2.2.2.1, uM.2.2.2.2.2.2.2.2.2.2.2.2), u_s, u_before))
  else
  ((fX7_copyRow n u_before u_s).bind fun r70 =>
  some (((-100 : Int32) - uM.2.2.2.1), (uM.1, (0 : Int32), uM.2.2.1, uM.2.2.2.1, uM.2.2.2.2.1, uM.2.2.2.2.2.1, uM.2.2.2.2.2.2.1, uM.2.2.2.2.2.2.2.1, uM.2.2.2.2.2.2.2.2.1, uM.2.2.2.2.2.2.2.2.2.1, uM.2.2.2.2.2.2.2.2.2.2.1, uM.2.2.2.2.2.2.2.2.2.2.2.1, uM.2.2.2.2.2.2.2.2.2.2.2.2), r70, u_before))
def fX7_feast_F29 (n : Nat) (u_tape : Nat → Int32)  (k29 : (MO × (Nat → Int32) × (Nat → Int32)) → Option (Int32 × MO × (Nat → Int32) × (Nat → Int32))) (v29 : MO × (Nat → Int32) × (Nat → Int32)) : Option (Int32 × MO × (Nat → Int32) × (Nat → Int32)) :=
  if v29.1.2.2.2.2.2.2.1 = 0 then
  (if v29.1.2.2.1 = 0 then
  (fX7_feast_b50 n u_tape  v29.1 v29.2.1 v29.2.2)
  else
  ((fX7_itemHere n v29.1 v29.2.1 u_tape).bind fun r44 =>
  k29 (r44.1, r44.2, v29.2.2)))
  else
  (fX7_feast_b50 n u_tape  v29.1 v29.2.1 v29.2.2)
def fX7_feast (n : Nat) (uM : MO) (u_s : Nat → Int32) (u_before : Nat → Int32) (u_tape : Nat → Int32) : Option (Int32 × MO × (Nat → Int32) × (Nat → Int32)) :=
  (fX7_copyRow n u_s u_before).bind fun r8 =>
  (fX7_begins n uM u_s).bind fun r12 =>
  (fX7_nextToken n (uM.1, uM.2.1, uM.2.2.1, uM.2.2.2.1, (0 : Int32), uM.2.2.2.2.2.1, (0 : Int32), uM.2.2.2.2.2.2.2.1, uM.2.2.2.2.2.2.2.2.1, uM.2.2.2.2.2.2.2.2.2.1, uM.2.2.2.2.2.2.2.2.2.2.1, uM.2.2.2.2.2.2.2.2.2.2.2.1, uM.2.2.2.2.2.2.2.2.2.2.2.2) u_tape).bind fun r26 =>
  lpF (fX7_feast_F29 n u_tape ) n (r26, r12, r8)
def fX7_set (n : Nat) (uM : MO) (u_s : Nat → Int32) (x1 : Int32) (x2 : Int32) : Option (Int32 × (Nat → Int32)) :=
  (fX7_isIn n x1.toInt64 (0 : Int64) (3 : Int64)).bind fun r6 =>
  if r6 = 0 then
  (some ((-1 : Int32), u_s))
  else
  ((fX7_mostOf n x1).bind fun r16 =>
  (fX7_isIn n x2.toInt64 (0 : Int64) r16.toInt64).bind fun r20 =>
  if r20 = 0 then
  (some ((-1 : Int32), u_s))
  else
  ((fX7_becomes n uM u_s ((4 : Int32) + x1) x2).bind fun r31 =>
  some (r31.1, r31.2)))
def fX7_lawOf (n : Nat) (uM : MO) (u_s : Nat → Int32) (x1 : Int32) : Option (Int32) :=
  (fX7_isIn n x1.toInt64 (0 : Int64) (3 : Int64)).bind fun r6 =>
  if r6 = 0 then
  (some (-1 : Int32))
  else
  (if ((4 : Int32) + x1) < 0 ∨ 48 ≤ ((4 : Int32) + x1).toNatClampNeg then none else
  some (u_s ((4 : Int32) + x1).toNatClampNeg))
def fX7_isPiece (n : Nat) (x0 : Int32) : Option (Int32) :=
  (fX7_isIn n x0.toInt64 (0 : Int64) (7 : Int64)).bind fun r6 =>
  if ¬ (r6 = 0 ∨ r6 = 1) then none else
  some r6
def fX7_guest (n : Nat) (uM : MO) (u_s : Nat → Int32) (x1 : Int32) (x2 : Int32) : Option (Int32 × (Nat → Int32)) :=
  (fX7_isIn n x1.toInt64 (0 : Int64) (5 : Int64)).bind fun r6 =>
  if r6 = 0 then
  (some ((-1 : Int32), u_s))
  else
  ((fX7_isPiece n x2).bind fun r13 =>
  if r13 = 0 then
  (some ((-1 : Int32), u_s))
  else
  (if (u_s (0 : Int32).toNatClampNeg) = (8 : Int32) then
  (some ((-2 : Int32), u_s))
  else
  ((fX7_comes n uM u_s x1 x2).bind fun r38 =>
  some (((r38 (0 : Int32).toNatClampNeg) - (1 : Int32)), r38))))
def fX7_next (n : Nat) (uM : MO) (u_s : Nat → Int32) : Option (Int32) :=
  some ((u_s (3 : Int32).toNatClampNeg) - (u_s (3 : Int32).toNatClampNeg) / (8 : Int32) * (8 : Int32))
def fX7_takes (n : Nat) (uM : MO) (u_s : Nat → Int32) (x1 : Int32) : Option (Int32) :=
  (fX7_its n uM u_s x1 (0 : Int32)).bind fun r10 =>
  if r10 = (1 : Int32) then
  (some ((4 : Int32) + (u_s (5 : Int32).toNatClampNeg)))
  else if r10 = (2 : Int32) then
  (some (2 : Int32))
  else if r10 = (3 : Int32) then
  (some ((2 : Int32) * ((4 : Int32) + (u_s (5 : Int32).toNatClampNeg))))
  else if r10 = (4 : Int32) then
  (some ((2 : Int32) - (u_s (5 : Int32).toNatClampNeg)))
  else if r10 = (5 : Int32) then
  ((fX7_its n uM u_s x1 (1 : Int32)).bind fun r67 =>
  (fX7_next n uM u_s).bind fun r71 =>
  if r67 = r71 then
  (some (9 : Int32))
  else
  (some (4 : Int32)))
  else 
  (some (4 : Int32))
def fX7_needsOf (n : Nat) (uM : MO) (u_s : Nat → Int32) (x1 : Int32) : Option (Int32) :=
  (fX7_its n uM u_s x1 (0 : Int32)).bind fun r3 =>
  if r3 = (1 : Int32) then
  (some (15 : Int32))
  else if r3 = (2 : Int32) then
  (some (30 : Int32))
  else if r3 = (3 : Int32) then
  (some ((15 : Int32) - (u_s (5 : Int32).toNatClampNeg)))
  else if r3 = (4 : Int32) then
  ((fX7_its n uM u_s x1 (2 : Int32)).bind fun r61 =>
  some ((30 : Int32) - (r61 / (10 : Int32))))
  else if r3 = (5 : Int32) then
  (some (10 : Int32))
  else 
  (some (20 : Int32))
def fX7_costs (n : Nat) (uM : MO) (u_s : Nat → Int32) (x1 : Int32) : Option (Int32) :=
  (fX7_its n uM u_s x1 (0 : Int32)).bind fun r3 =>
  if r3 = (2 : Int32) then
  (some (15 : Int32))
  else if r3 = (3 : Int32) then
  (some (5 : Int32))
  else if r3 = (4 : Int32) then
  (some ((15 : Int32) - (u_s (5 : Int32).toNatClampNeg)))
  else if r3 = (5 : Int32) then
  (some (0 : Int32))
  else 
  (some (10 : Int32))
def fX7_of (n : Nat) (uM : MO) (u_s : Nat → Int32) (x1 : Int32) (x2 : Int32) : Option (Int32) :=
  (fX7_isOne n uM u_s x1).bind fun r2 =>
  if r2 = 0 then
  (some (-1 : Int32))
  else
  ((fX7_isIn n x2.toInt64 (0 : Int64) (4 : Int64)).bind fun r14 =>
  if r14 = 0 then
  (some (-1 : Int32))
  else
  ((fX7_its n uM u_s x1 x2).bind fun r23 =>
  some r23))
def fX7_does (n : Nat) (uM : MO) (u_s : Nat → Int32) (x1 : Int32) (x2 : Int32) : Option (Int32) :=
  (fX7_isOne n uM u_s x1).bind fun r2 =>
  if r2 = 0 then
  (some (-1 : Int32))
  else
  ((fX7_isIn n x2.toInt64 (0 : Int64) (2 : Int64)).bind fun r14 =>
  if r14 = 0 then
  (some (-1 : Int32))
  else
  (if x2 = 0 then
  ((fX7_takes n uM u_s x1).bind fun r31 =>
  some ((1000 : Int32) + r31))
  else
  (if x2 = (1 : Int32) then
  ((fX7_needsOf n uM u_s x1).bind fun r44 =>
  some ((1000 : Int32) + r44))
  else
  ((fX7_costs n uM u_s x1).bind fun r52 =>
  some ((1000 : Int32) + r52)))))
def fX7_mind (n : Nat) (uM : MO) (u_s : Nat → Int32) (x1 : Int32) (x2 : Int32) : Option (Int32 × (Nat → Int32)) :=
  (fX7_isOne n uM u_s x1).bind fun r2 =>
  if r2 = 0 then
  (some ((-1 : Int32), u_s))
  else
  ((fX7_isIn n x2.toInt64 (0 : Int64) (5 : Int64)).bind fun r14 =>
  if r14 = 0 then
  (some ((-1 : Int32), u_s))
  else
  ((fX7_becomes n uM u_s ((8 : Int32) + ((5 : Int32) * x1)) x2).bind fun r28 =>
  some (r28.1, r28.2)))
def fX7_give (n : Nat) (uM : MO) (u_s : Nat → Int32) (x1 : Int32) (x2 : Int32) : Option (Int32 × (Nat → Int32)) :=
  (fX7_isOne n uM u_s x1).bind fun r2 =>
  if r2 = 0 then
  (some ((-1 : Int32), u_s))
  else
  ((fX7_isPiece n x2).bind fun r9 =>
  if r9 = 0 then
  (some ((-1 : Int32), u_s))
  else
  ((fX7_becomes n uM u_s (((8 : Int32) + ((5 : Int32) * x1)) + (1 : Int32)) x2).bind fun r25 =>
  some (r25.1, r25.2)))
def fX7_sink_b56 (n : Nat) (uM : MO) (x1 : Int32) (x2 : Int32) (x3 : Int32)  (u_s : Nat → Int32) (w1 : Int32) (w2 : Int32) : Option (Int32 × (Nat → Int32)) :=
  (fX7_becomes n uM u_s (w1 + w2) x3).bind fun r58 =>
  some (r58.1, r58.2)
def fX7_sink_b32 (n : Nat) (uM : MO) (x1 : Int32) (x2 : Int32) (x3 : Int32)  (u_s : Nat → Int32) (w0 : Int64) (w1 : Int64) (w2 : Int64) : Option (Int32 × (Nat → Int32)) :=
  (fX7_isIn n w0 w1 w2).bind fun r32 =>
  if r32 = 0 then
  (some ((-1 : Int32), u_s))
  else
  (if x2 = 0 then
  (fX7_sink_b56 n uM x1 x2 x3  u_s ((8 : Int32) + ((5 : Int32) * x1)) (2 : Int32))
  else
  (fX7_sink_b56 n uM x1 x2 x3  u_s ((8 : Int32) + ((5 : Int32) * x1)) (4 : Int32)))
def fX7_sink (n : Nat) (uM : MO) (u_s : Nat → Int32) (x1 : Int32) (x2 : Int32) (x3 : Int32) : Option (Int32 × (Nat → Int32)) :=
  (fX7_isOne n uM u_s x1).bind fun r2 =>
  if r2 = 0 then
  (some ((-1 : Int32), u_s))
  else
  ((fX7_isIn n x2.toInt64 (0 : Int64) (1 : Int64)).bind fun r12 =>
  if r12 = 0 then
  (some ((-1 : Int32), u_s))
  else
  (if x2 = 0 then
  (fX7_sink_b32 n uM x1 x2 x3  u_s x3.toInt64 (0 : Int64) (99 : Int64))
  else
  (fX7_sink_b32 n uM x1 x2 x3  u_s x3.toInt64 (0 : Int64) (1 : Int64))))
def fX7_teller_b52 (n : Nat) (uM : MO) (u_s : Nat → Int32) (k7 : (Int32 × Int32) → Option (Int32)) (y1 : Int32) (y2 : Int32) : Option (Int32) :=
  k7 (y1, (y2 + (1 : Int32)))
def fX7_teller_F7 (n : Nat) (uM : MO) (u_s : Nat → Int32)  (k7 : (Int32 × Int32) → Option (Int32)) (v7 : Int32 × Int32) : Option (Int32) :=
  if (u_s (0 : Int32).toNatClampNeg) ≤ v7.2 then
  (some (-1 : Int32))
  else
  ((fX7_its n uM u_s v7.2 (4 : Int32)).bind fun r20 =>
  if r20 = 0 then
  ((fX7_its n uM u_s v7.2 (1 : Int32)).bind fun r29 =>
  if r29 = v7.1 then
  ((fX7_its n uM u_s v7.2 (2 : Int32)).bind fun r39 =>
  (fX7_needsOf n uM u_s v7.2).bind fun r44 =>
  if r39 < r44 then
  (fX7_teller_b52 n uM u_s k7 v7.1 v7.2)
  else
  (some v7.2))
  else
  (fX7_teller_b52 n uM u_s k7 v7.1 v7.2))
  else
  (fX7_teller_b52 n uM u_s k7 v7.1 v7.2))
def fX7_teller (n : Nat) (uM : MO) (u_s : Nat → Int32) : Option (Int32) :=
  (fX7_next n uM u_s).bind fun r1 =>
  lpF (fX7_teller_F7 n uM u_s ) n (r1, (0 : Int32))
def fX7_tellsNext (n : Nat) (uM : MO) (u_s : Nat → Int32) (x1 : Int32) : Option ((Nat → Int32)) :=
  (fX7_costs n uM u_s x1).bind fun r9 =>
  (fX7_least n (99999 : Int32) ((u_s (3 : Int32).toNatClampNeg) + (1 : Int32))).bind fun r28 =>
  if (((8 : Int32) + ((5 : Int32) * x1)) + (3 : Int32)) < 0 ∨ 48 ≤ (((8 : Int32) + ((5 : Int32) * x1)) + (3 : Int32)).toNatClampNeg then none else
  (fX7_least n (9999 : Int32) (((upd u_s (3 : Int32).toNatClampNeg r28) (((8 : Int32) + ((5 : Int32) * x1)) + (3 : Int32)).toNatClampNeg) + (1 : Int32))).bind fun r52 =>
  if (((8 : Int32) + ((5 : Int32) * x1)) + (3 : Int32)) < 0 ∨ 48 ≤ (((8 : Int32) + ((5 : Int32) * x1)) + (3 : Int32)).toNatClampNeg then none else
  if (((8 : Int32) + ((5 : Int32) * x1)) + (2 : Int32)) < 0 ∨ 48 ≤ (((8 : Int32) + ((5 : Int32) * x1)) + (2 : Int32)).toNatClampNeg then none else
  (fX7_within n (((upd (upd u_s (3 : Int32).toNatClampNeg r28) (((8 : Int32) + ((5 : Int32) * x1)) + (3 : Int32)).toNatClampNeg r52) (((8 : Int32) + ((5 : Int32) * x1)) + (2 : Int32)).toNatClampNeg) - r9)).bind fun r73 =>
  if (((8 : Int32) + ((5 : Int32) * x1)) + (2 : Int32)) < 0 ∨ 48 ≤ (((8 : Int32) + ((5 : Int32) * x1)) + (2 : Int32)).toNatClampNeg then none else
  some (upd (upd (upd u_s (3 : Int32).toNatClampNeg r28) (((8 : Int32) + ((5 : Int32) * x1)) + (3 : Int32)).toNatClampNeg r52) (((8 : Int32) + ((5 : Int32) * x1)) + (2 : Int32)).toNatClampNeg r73)
def fX7_goesOn_b160 (n : Nat) (uM : MO) (k115 : ((Nat → Int32) × Int32) → Option ((Nat → Int32))) (u_s : Nat → Int32) (y2 : Int32) (w1 : Int32) (w2 : Int32) (w3 : Int32) : Option ((Nat → Int32)) :=
  if w1 < 0 ∨ 48 ≤ w1.toNatClampNeg then none else
  k115 ((upd u_s w1.toNatClampNeg (w2 ||| w3)), (y2 + (1 : Int32)))
def fX7_goesOn_F115 (n : Nat) (uM : MO)  (k115 : ((Nat → Int32) × Int32) → Option ((Nat → Int32))) (v115 : (Nat → Int32) × Int32) : Option ((Nat → Int32)) :=
  if (v115.1 (0 : Int32).toNatClampNeg) ≤ v115.2 then
  (some (upd v115.1 (1 : Int32).toNatClampNeg ((v115.1 (1 : Int32).toNatClampNeg) + (1 : Int32))))
  else
  (if (((8 : Int32) + ((5 : Int32) * v115.2)) + (4 : Int32)) < 0 ∨ 48 ≤ (((8 : Int32) + ((5 : Int32) * v115.2)) + (4 : Int32)).toNatClampNeg then none else
  (fX7_its n uM v115.1 v115.2 (2 : Int32)).bind fun r142 =>
  if r142 ≤ (v115.1 (6 : Int32).toNatClampNeg) then
  (fX7_goesOn_b160 n uM k115 v115.1 v115.2 (((8 : Int32) + ((5 : Int32) * v115.2)) + (4 : Int32)) (v115.1 (((8 : Int32) + ((5 : Int32) * v115.2)) + (4 : Int32)).toNatClampNeg) (0 : Int32))
  else
  (fX7_goesOn_b160 n uM k115 v115.1 v115.2 (((8 : Int32) + ((5 : Int32) * v115.2)) + (4 : Int32)) (v115.1 (((8 : Int32) + ((5 : Int32) * v115.2)) + (4 : Int32)).toNatClampNeg) (1 : Int32)))
def fX7_goesOn_b110 (n : Nat) (uM : MO) (k80 : ((Nat → Int32) × Int32) → Option ((Nat → Int32))) (u_s : Nat → Int32) (y1 : Int32) : Option ((Nat → Int32)) :=
  k80 (u_s, y1)
def fX7_goesOn_b100 (n : Nat) (uM : MO) (k80 : ((Nat → Int32) × Int32) → Option ((Nat → Int32))) (u_s : Nat → Int32) (y2 : Int32) (w0 : Int32) : Option ((Nat → Int32)) :=
  if y2 < 0 then
  (fX7_goesOn_b110 n uM k80 u_s w0)
  else
  ((fX7_tellsNext n uM u_s y2).bind fun r107 =>
  fX7_goesOn_b110 n uM k80 r107 w0)
def fX7_goesOn_F80 (n : Nat) (uM : MO)  (k80 : ((Nat → Int32) × Int32) → Option ((Nat → Int32))) (v80 : (Nat → Int32) × Int32) : Option ((Nat → Int32)) :=
  if v80.2 ≤ 0 then
  (lpF (fX7_goesOn_F115 n uM ) n (v80.1, (0 : Int32)))
  else
  ((fX7_teller n uM v80.1).bind fun r85 =>
  if 0 ≤ r85 then
  (fX7_goesOn_b100 n uM k80 v80.1 r85 (v80.2 - (1 : Int32)))
  else
  (fX7_goesOn_b100 n uM k80 v80.1 r85 (0 : Int32)))
def fX7_goesOn_b66 (n : Nat) (uM : MO) (k2 : ((Nat → Int32) × Int32) → Option ((Nat → Int32))) (u_s : Nat → Int32) (y1 : Int32) (w1 : Int32) (w2 : Int32) : Option ((Nat → Int32)) :=
  if w1 < 0 ∨ 48 ≤ w1.toNatClampNeg then none else
  k2 ((upd u_s w1.toNatClampNeg w2), (y1 + (1 : Int32)))
def fX7_goesOn_F2 (n : Nat) (uM : MO)  (k2 : ((Nat → Int32) × Int32) → Option ((Nat → Int32))) (v2 : (Nat → Int32) × Int32) : Option ((Nat → Int32)) :=
  if (v2.1 (0 : Int32).toNatClampNeg) ≤ v2.2 then
  (lpF (fX7_goesOn_F80 n uM ) n (v2.1, (v2.1 (4 : Int32).toNatClampNeg)))
  else
  (if (((8 : Int32) + ((5 : Int32) * v2.2)) + (4 : Int32)) < 0 ∨ 48 ≤ (((8 : Int32) + ((5 : Int32) * v2.2)) + (4 : Int32)).toNatClampNeg then none else
  if (v2.1 (((8 : Int32) + ((5 : Int32) * v2.2)) + (4 : Int32)).toNatClampNeg) = (1 : Int32) then
  (if (((8 : Int32) + ((5 : Int32) * v2.2)) + (2 : Int32)) < 0 ∨ 48 ≤ (((8 : Int32) + ((5 : Int32) * v2.2)) + (2 : Int32)).toNatClampNeg then none else
  fX7_goesOn_b66 n uM k2 v2.1 v2.2 (((8 : Int32) + ((5 : Int32) * v2.2)) + (2 : Int32)) (v2.1 (((8 : Int32) + ((5 : Int32) * v2.2)) + (2 : Int32)).toNatClampNeg))
  else
  (if (((8 : Int32) + ((5 : Int32) * v2.2)) + (2 : Int32)) < 0 ∨ 48 ≤ (((8 : Int32) + ((5 : Int32) * v2.2)) + (2 : Int32)).toNatClampNeg then none else
  (fX7_takes n uM v2.1 v2.2).bind fun r59 =>
  (fX7_within n ((v2.1 (((8 : Int32) + ((5 : Int32) * v2.2)) + (2 : Int32)).toNatClampNeg) + r59)).bind fun r63 =>
  fX7_goesOn_b66 n uM k2 v2.1 v2.2 (((8 : Int32) + ((5 : Int32) * v2.2)) + (2 : Int32)) r63))
def fX7_goesOn (n : Nat) (uM : MO) (u_s : Nat → Int32) : Option ((Nat → Int32)) :=
  lpF (fX7_goesOn_F2 n uM ) n (u_s, (0 : Int32))
def fX7_goesOnMany_F2 (n : Nat) (uM : MO) (x1 : Int32)  (k2 : ((Nat → Int32) × Int32) → Option ((Nat → Int32))) (v2 : (Nat → Int32) × Int32) : Option ((Nat → Int32)) :=
  if x1 ≤ v2.2 then
  (some v2.1)
  else
  ((fX7_goesOn n uM v2.1).bind fun r8 =>
  k2 (r8, (v2.2 + (1 : Int32))))
def fX7_goesOnMany (n : Nat) (uM : MO) (u_s : Nat → Int32) (x1 : Int32) : Option ((Nat → Int32)) :=
  lpF (fX7_goesOnMany_F2 n uM x1 ) n (u_s, (0 : Int32))
def fX7_courses (n : Nat) (uM : MO) (u_s : Nat → Int32) (x1 : Int32) : Option (Int32 × (Nat → Int32)) :=
  (fX7_isIn n x1.toInt64 (1 : Int64) (60 : Int64)).bind fun r6 =>
  if r6 = 0 then
  (some ((-1 : Int32), u_s))
  else
  ((fX7_goesOnMany n uM u_s x1).bind fun r16 =>
  some ((r16 (3 : Int32).toNatClampNeg), r16))
def fX7_seed (n : Nat) (uM : MO) (u_s : Nat → Int32) (x1 : Int32) : Option (Int32 × (Nat → Int32)) :=
  (fX7_becomes n uM u_s (2 : Int32) x1).bind fun r3 =>
  some (r3.1, r3.2)
def fX7_drawn (n : Nat) (uM : MO) (u_s : Nat → Int32) : Option (Int32 × (Nat → Int32)) :=
  some ((((upd u_s (2 : Int32).toNatClampNeg (((u_s (2 : Int32).toNatClampNeg) * (1103515245 : Int32)) + (12345 : Int32))) (2 : Int32).toNatClampNeg).toUInt32 >>> ((16 : Int32).toUInt32 &&& Int32.toUInt32 31)).toInt32, (upd u_s (2 : Int32).toNatClampNeg (((u_s (2 : Int32).toNatClampNeg) * (1103515245 : Int32)) + (12345 : Int32))))
def fX7_course_b58 (n : Nat) (uM : MO)  (u_s : Nat → Int32) : Option (Int32 × (Nat → Int32)) :=
  (fX7_goesOn n uM u_s).bind fun r59 =>
  some ((r59 (3 : Int32).toNatClampNeg), r59)
def fX7_course (n : Nat) (uM : MO) (u_s : Nat → Int32) : Option (Int32 × (Nat → Int32)) :=
  if (u_s (0 : Int32).toNatClampNeg) ≤ 0 then
  (fX7_course_b58 n uM  u_s)
  else
  ((fX7_drawn n uM u_s).bind fun r10 =>
  if (r10.2 (0 : Int32).toNatClampNeg) = 0 then none else
  (fX7_drawn n uM r10.2).bind fun r22 =>
  if (r22.2 (7 : Int32).toNatClampNeg) ≤ (r22.1 - r22.1 / (100 : Int32) * (100 : Int32)) then
  (fX7_course_b58 n uM  r22.2)
  else
  ((fX7_drawn n uM r22.2).bind fun r51 =>
  if (((8 : Int32) + ((5 : Int32) * (r10.1 - r10.1 / (r10.2 (0 : Int32).toNatClampNeg) * (r10.2 (0 : Int32).toNatClampNeg)))) + (1 : Int32)) < 0 ∨ 48 ≤ (((8 : Int32) + ((5 : Int32) * (r10.1 - r10.1 / (r10.2 (0 : Int32).toNatClampNeg) * (r10.2 (0 : Int32).toNatClampNeg)))) + (1 : Int32)).toNatClampNeg then none else
  fX7_course_b58 n uM  (upd r51.2 (((8 : Int32) + ((5 : Int32) * (r10.1 - r10.1 / (r10.2 (0 : Int32).toNatClampNeg) * (r10.2 (0 : Int32).toNatClampNeg)))) + (1 : Int32)).toNatClampNeg (r51.1 - r51.1 / (8 : Int32) * (8 : Int32)))))
def fX7_taleBy (n : Nat) (uM : MO) (u_s : Nat → Int32) (u_aside : Nat → Int32) (x1 : Int32) : Option (Int32 × (Nat → Int32) × (Nat → Int32)) :=
  (fX7_copyRow n u_s u_aside).bind fun r8 =>
  (fX7_goesOnMany n uM u_s x1).bind fun r13 =>
  (fX7_copyRow n r8 r13).bind fun r31 =>
  some ((r13 (3 : Int32).toNatClampNeg), r31, r8)
def fX7_luck_b83 (n : Nat) (uM : MO) (x1 : Int32) (k44 : ((Nat → Int32) × (Nat → Int32) × Int32 × Int32 × Int32 × Int32) → Option (Int32 × (Nat → Int32) × (Nat → Int32))) (u_s : Nat → Int32) (u_aside : Nat → Int32) (y2 : Int32) (y5 : Int32) (w0 : Int32) (w1 : Int32) : Option (Int32 × (Nat → Int32) × (Nat → Int32)) :=
  k44 (u_s, u_aside, y2, (u_s (2 : Int32).toNatClampNeg), (w0 + w1), (y5 + (1 : Int32)))
def fX7_luck_F44 (n : Nat) (uM : MO) (x1 : Int32)  (k44 : ((Nat → Int32) × (Nat → Int32) × Int32 × Int32 × Int32 × Int32) → Option (Int32 × (Nat → Int32) × (Nat → Int32))) (v44 : (Nat → Int32) × (Nat → Int32) × Int32 × Int32 × Int32 × Int32) : Option (Int32 × (Nat → Int32) × (Nat → Int32)) :=
  if x1 ≤ v44.2.2.2.2.2 then
  ((fX7_copyRow n v44.2.1 v44.1).bind fun r107 =>
  some (v44.2.2.2.2.1, r107, v44.2.1))
  else
  ((fX7_copyRow n v44.2.1 v44.1).bind fun r58 =>
  (fX7_course n uM (upd r58 (2 : Int32).toNatClampNeg v44.2.2.2.1)).bind fun r71 =>
  if r71.1 ≤ v44.2.2.1 then
  (fX7_luck_b83 n uM x1 k44 r71.2 v44.2.1 v44.2.2.1 v44.2.2.2.2.2 v44.2.2.2.2.1 (0 : Int32))
  else
  (fX7_luck_b83 n uM x1 k44 r71.2 v44.2.1 v44.2.2.1 v44.2.2.2.2.2 v44.2.2.2.2.1 (1 : Int32)))
def fX7_luck (n : Nat) (uM : MO) (u_s : Nat → Int32) (u_aside : Nat → Int32) (x1 : Int32) : Option (Int32 × (Nat → Int32) × (Nat → Int32)) :=
  (fX7_isIn n x1.toInt64 (1 : Int64) (30 : Int64)).bind fun r6 =>
  if r6 = 0 then
  (some ((-1 : Int32), u_s, u_aside))
  else
  ((fX7_taleBy n uM u_s u_aside (1 : Int32)).bind fun r16 =>
  (fX7_copyRow n r16.2.1 r16.2.2).bind fun r28 =>
  lpF (fX7_luck_F44 n uM x1 ) n (r16.2.1, r28, r16.1, (r16.2.1 (2 : Int32).toNatClampNeg), (0 : Int32), (0 : Int32)))
def fX7_drownedOnes_F4 (n : Nat) (uM : MO) (u_s : Nat → Int32)  (k4 : (Int32 × Int32) → Option (Int32)) (v4 : Int32 × Int32) : Option (Int32) :=
  if (u_s (0 : Int32).toNatClampNeg) ≤ v4.2 then
  (some v4.1)
  else
  ((fX7_its n uM u_s v4.2 (4 : Int32)).bind fun r18 =>
  k4 ((v4.1 ||| (r18 <<< (v4.2 &&& 31))), (v4.2 + (1 : Int32))))
def fX7_drownedOnes (n : Nat) (uM : MO) (u_s : Nat → Int32) : Option (Int32) :=
  lpF (fX7_drownedOnes_F4 n uM u_s ) n ((0 : Int32), (0 : Int32))
def fX7_goneOfAll_F4 (n : Nat) (uM : MO) (u_s : Nat → Int32)  (k4 : (Int32 × Int32) → Option (Int32)) (v4 : Int32 × Int32) : Option (Int32) :=
  if (u_s (0 : Int32).toNatClampNeg) ≤ v4.2 then
  (some v4.1)
  else
  ((fX7_its n uM u_s v4.2 (2 : Int32)).bind fun r18 =>
  k4 ((v4.1 + r18), (v4.2 + (1 : Int32))))
def fX7_goneOfAll (n : Nat) (uM : MO) (u_s : Nat → Int32) : Option (Int32) :=
  lpF (fX7_goneOfAll_F4 n uM u_s ) n ((0 : Int32), (0 : Int32))
def fX7_pieces_b36 (n : Nat) (uM : MO) (u_s : Nat → Int32) (k4 : (Int32 × Int32) → Option (Int32)) (y2 : Int32) (w0 : Int32) (w1 : Int32) : Option (Int32) :=
  k4 ((w0 ||| w1), (y2 + (1 : Int32)))
def fX7_pieces_F4 (n : Nat) (uM : MO) (u_s : Nat → Int32)  (k4 : (Int32 × Int32) → Option (Int32)) (v4 : Int32 × Int32) : Option (Int32) :=
  if (u_s (0 : Int32).toNatClampNeg) ≤ v4.2 then
  (some v4.1)
  else
  ((fX7_its n uM u_s v4.2 (4 : Int32)).bind fun r18 =>
  if r18 = 0 then
  ((fX7_its n uM u_s v4.2 (1 : Int32)).bind fun r28 =>
  fX7_pieces_b36 n uM u_s k4 v4.2 v4.1 ((1 : Int32) <<< (r28 &&& 31)))
  else
  (fX7_pieces_b36 n uM u_s k4 v4.2 v4.1 (0 : Int32)))
def fX7_pieces (n : Nat) (uM : MO) (u_s : Nat → Int32) : Option (Int32) :=
  lpF (fX7_pieces_F4 n uM u_s ) n ((0 : Int32), (0 : Int32))
def fX7_gap_F7 (n : Nat) (uM : MO) (u_s : Nat → Int32)  (k7 : (Int32 × Int32) → Option (Int32)) (v7 : Int32 × Int32) : Option (Int32) :=
  if (8 : Int32) ≤ v7.2 then
  (some (8 : Int32))
  else
  ((fX7_next n uM u_s).bind fun r14 =>
  if ((v7.1 >>> (((r14 + v7.2) - (r14 + v7.2) / (8 : Int32) * (8 : Int32)) &&& 31)) &&& (1 : Int32)) = 0 then
  (some ((r14 + v7.2) - (r14 + v7.2) / (8 : Int32) * (8 : Int32)))
  else
  (k7 (v7.1, (v7.2 + (1 : Int32)))))
def fX7_gap (n : Nat) (uM : MO) (u_s : Nat → Int32) : Option (Int32) :=
  (fX7_pieces n uM u_s).bind fun r1 =>
  lpF (fX7_gap_F7 n uM u_s ) n (r1, (0 : Int32))
def fX7_state (n : Nat) (uM : MO) (u_s : Nat → Int32) (x1 : Int32) : Option (Int32) :=
  if x1 = (0 : Int32) then
  (some (u_s (1 : Int32).toNatClampNeg))
  else if x1 = (1 : Int32) then
  (some (u_s (3 : Int32).toNatClampNeg))
  else if x1 = (2 : Int32) then
  ((fX7_next n uM u_s).bind fun r55 =>
  some r55)
  else if x1 = (3 : Int32) then
  ((fX7_drownedOnes n uM u_s).bind fun r60 =>
  some r60)
  else if x1 = (4 : Int32) then
  ((fX7_goneOfAll n uM u_s).bind fun r65 =>
  some r65)
  else if x1 = (5 : Int32) then
  ((fX7_gap n uM u_s).bind fun r70 =>
  some r70)
  else 
  (some (-1 : Int32))
def fX7_deep (n : Nat) (uM : MO) (u_s : Nat → Int32) (u_aside : Nat → Int32) (x1 : Int32) (x2 : Int32) : Option (Int32 × (Nat → Int32) × (Nat → Int32)) :=
  (fX7_isOne n uM u_s x1).bind fun r2 =>
  if r2 = 0 then
  (some ((-1 : Int32), u_s, u_aside))
  else
  ((fX7_isIn n x2.toInt64 (0 : Int64) (60 : Int64)).bind fun r14 =>
  if r14 = 0 then
  (some ((-1 : Int32), u_s, u_aside))
  else
  ((fX7_copyRow n u_s u_aside).bind fun r30 =>
  (fX7_goesOnMany n uM u_s x2).bind fun r35 =>
  (fX7_its n uM r35 x1 (2 : Int32)).bind fun r41 =>
  (fX7_copyRow n r30 r35).bind fun r53 =>
  some (r41, r53, r30)))
def fX7_speaksBy_b47 (n : Nat) (uM : MO) (x1 : Int32) (x2 : Int32)  (u_s : Nat → Int32) (u_aside : Nat → Int32) (y4 : Int32) : Option (Int32 × (Nat → Int32) × (Nat → Int32)) :=
  (fX7_copyRow n u_aside u_s).bind fun r55 =>
  some (y4, r55, u_aside)
def fX7_speaksBy_F21 (n : Nat) (uM : MO) (x1 : Int32) (x2 : Int32)  (k21 : ((Nat → Int32) × (Nat → Int32) × Int32 × Int32) → Option (Int32 × (Nat → Int32) × (Nat → Int32))) (v21 : (Nat → Int32) × (Nat → Int32) × Int32 × Int32) : Option (Int32 × (Nat → Int32) × (Nat → Int32)) :=
  if x2 < v21.2.2.2 then
  (fX7_speaksBy_b47 n uM x1 x2  v21.1 v21.2.1 v21.2.2.2)
  else
  ((fX7_its n uM v21.1 x1 (3 : Int32)).bind fun r30 =>
  if r30 = v21.2.2.1 then
  ((fX7_goesOn n uM v21.1).bind fun r38 =>
  k21 (r38, v21.2.1, v21.2.2.1, (v21.2.2.2 + (1 : Int32))))
  else
  (fX7_speaksBy_b47 n uM x1 x2  v21.1 v21.2.1 v21.2.2.2))
def fX7_speaksBy (n : Nat) (uM : MO) (u_s : Nat → Int32) (u_aside : Nat → Int32) (x1 : Int32) (x2 : Int32) : Option (Int32 × (Nat → Int32) × (Nat → Int32)) :=
  (fX7_copyRow n u_s u_aside).bind fun r8 =>
  (fX7_its n uM u_s x1 (3 : Int32)).bind fun r14 =>
  lpF (fX7_speaksBy_F21 n uM x1 x2 ) n (u_s, r8, r14, (0 : Int32))
def fX7_speaks (n : Nat) (uM : MO) (u_s : Nat → Int32) (u_aside : Nat → Int32) (x1 : Int32) : Option (Int32 × (Nat → Int32) × (Nat → Int32)) :=
  (fX7_isOne n uM u_s x1).bind fun r2 =>
  if r2 = 0 then
  (some ((-1 : Int32), u_s, u_aside))
  else
  ((fX7_speaksBy n uM u_s u_aside x1 (60 : Int32)).bind fun r14 =>
  if (60 : Int32) < r14.1 then
  (some ((-3 : Int32), r14.2.1, r14.2.2))
  else
  (some (r14.1, r14.2.1, r14.2.2)))
def fX7_sinks_b48 (n : Nat) (uM : MO) (x1 : Int32)  (u_s : Nat → Int32) (u_aside : Nat → Int32) (y2 : Int32) : Option (Int32 × (Nat → Int32) × (Nat → Int32)) :=
  (fX7_copyRow n u_aside u_s).bind fun r56 =>
  if (60 : Int32) < y2 then
  (some ((-3 : Int32), r56, u_aside))
  else
  (some (y2, r56, u_aside))
def fX7_sinks_F23 (n : Nat) (uM : MO) (x1 : Int32)  (k23 : ((Nat → Int32) × (Nat → Int32) × Int32) → Option (Int32 × (Nat → Int32) × (Nat → Int32))) (v23 : (Nat → Int32) × (Nat → Int32) × Int32) : Option (Int32 × (Nat → Int32) × (Nat → Int32)) :=
  if (60 : Int32) < v23.2.2 then
  (fX7_sinks_b48 n uM x1  v23.1 v23.2.1 v23.2.2)
  else
  ((fX7_its n uM v23.1 x1 (4 : Int32)).bind fun r32 =>
  if r32 = 0 then
  ((fX7_goesOn n uM v23.1).bind fun r39 =>
  k23 (r39, v23.2.1, (v23.2.2 + (1 : Int32))))
  else
  (fX7_sinks_b48 n uM x1  v23.1 v23.2.1 v23.2.2))
def fX7_sinks (n : Nat) (uM : MO) (u_s : Nat → Int32) (u_aside : Nat → Int32) (x1 : Int32) : Option (Int32 × (Nat → Int32) × (Nat → Int32)) :=
  (fX7_isOne n uM u_s x1).bind fun r2 =>
  if r2 = 0 then
  (some ((-1 : Int32), u_s, u_aside))
  else
  ((fX7_copyRow n u_s u_aside).bind fun r18 =>
  lpF (fX7_sinks_F23 n uM x1 ) n (u_s, r18, (0 : Int32)))
def fX7_whole_b52 (n : Nat) (uM : MO)  (u_s : Nat → Int32) (u_aside : Nat → Int32) (y2 : Int32) : Option (Int32 × (Nat → Int32) × (Nat → Int32)) :=
  (fX7_copyRow n u_aside u_s).bind fun r60 =>
  if (60 : Int32) < y2 then
  (some ((-3 : Int32), r60, u_aside))
  else
  (some (y2, r60, u_aside))
def fX7_whole_F23 (n : Nat) (uM : MO)  (k23 : ((Nat → Int32) × (Nat → Int32) × Int32 × Int32) → Option (Int32 × (Nat → Int32) × (Nat → Int32))) (v23 : (Nat → Int32) × (Nat → Int32) × Int32 × Int32) : Option (Int32 × (Nat → Int32) × (Nat → Int32)) :=
  if (60 : Int32) < v23.2.2.2 then
  (fX7_whole_b52 n uM  v23.1 v23.2.1 v23.2.2.2)
  else
  (if ((v23.1 (3 : Int32).toNatClampNeg) / (8 : Int32)) = v23.2.2.1 then
  ((fX7_goesOn n uM v23.1).bind fun r43 =>
  k23 (r43, v23.2.1, v23.2.2.1, (v23.2.2.2 + (1 : Int32))))
  else
  (fX7_whole_b52 n uM  v23.1 v23.2.1 v23.2.2.2))
def fX7_whole (n : Nat) (uM : MO) (u_s : Nat → Int32) (u_aside : Nat → Int32) : Option (Int32 × (Nat → Int32) × (Nat → Int32)) :=
  (fX7_copyRow n u_s u_aside).bind fun r8 =>
  lpF (fX7_whole_F23 n uM ) n (u_s, r8, ((u_s (3 : Int32).toNatClampNeg) / (8 : Int32)), (0 : Int32))
def fX7_tale (n : Nat) (uM : MO) (u_s : Nat → Int32) (u_aside : Nat → Int32) (x1 : Int32) : Option (Int32 × (Nat → Int32) × (Nat → Int32)) :=
  (fX7_isIn n x1.toInt64 (0 : Int64) (60 : Int64)).bind fun r6 =>
  if r6 = 0 then
  (some ((-1 : Int32), u_s, u_aside))
  else
  ((fX7_taleBy n uM u_s u_aside x1).bind fun r14 =>
  some (r14.1, r14.2.1, r14.2.2))
def fX7_isShort (n : Nat) (x0 : Int32) : Option (Int32) :=
  (fX7_isIn n x0.toInt64 (1 : Int64) (40 : Int64)).bind fun r6 =>
  if ¬ (r6 = 0 ∨ r6 = 1) then none else
  some r6
def fX7_mostBy_b52 (n : Nat) (uM : MO) (x1 : Int32) (x2 : Int32) (x3 : Int32) (k17 : ((Nat → Int32) × (Nat → Int32) × Int32 × Int32 × Int32 × Int32) → Option (Int32 × (Nat → Int32) × (Nat → Int32))) (u_s : Nat → Int32) (u_aside : Nat → Int32) (y4 : Int32) (y6 : Int32) (y7 : Int32) (y8 : Int32) (w0 : Int32) : Option (Int32 × (Nat → Int32) × (Nat → Int32)) :=
  (fX7_greatest n y6 y8).bind fun r58 =>
  k17 (u_s, u_aside, y4, w0, r58, (y7 + (1 : Int32)))
def fX7_mostBy_F17 (n : Nat) (uM : MO) (x1 : Int32) (x2 : Int32) (x3 : Int32)  (k17 : ((Nat → Int32) × (Nat → Int32) × Int32 × Int32 × Int32 × Int32) → Option (Int32 × (Nat → Int32) × (Nat → Int32))) (v17 : (Nat → Int32) × (Nat → Int32) × Int32 × Int32 × Int32 × Int32) : Option (Int32 × (Nat → Int32) × (Nat → Int32)) :=
  if x2 < v17.2.2.2.2.2 then
  (if x1 < 0 ∨ 48 ≤ x1.toNatClampNeg then none else
  some (v17.2.2.2.1, (upd v17.1 x1.toNatClampNeg v17.2.2.1), v17.2.1))
  else
  (if x1 < 0 ∨ 48 ≤ x1.toNatClampNeg then none else
  (fX7_taleBy n uM (upd v17.1 x1.toNatClampNeg v17.2.2.2.2.2) v17.2.1 x3).bind fun r33 =>
  if r33.1 ≤ v17.2.2.2.2.1 then
  (fX7_mostBy_b52 n uM x1 x2 x3 k17 r33.2.1 r33.2.2 v17.2.2.1 v17.2.2.2.2.1 v17.2.2.2.2.2 r33.1 v17.2.2.2.1)
  else
  (fX7_mostBy_b52 n uM x1 x2 x3 k17 r33.2.1 r33.2.2 v17.2.2.1 v17.2.2.2.2.1 v17.2.2.2.2.2 r33.1 v17.2.2.2.2.2))
def fX7_mostBy (n : Nat) (uM : MO) (u_s : Nat → Int32) (u_aside : Nat → Int32) (x1 : Int32) (x2 : Int32) (x3 : Int32) : Option (Int32 × (Nat → Int32) × (Nat → Int32)) :=
  if x1 < 0 ∨ 48 ≤ x1.toNatClampNeg then none else
  lpF (fX7_mostBy_F17 n uM x1 x2 x3 ) n (u_s, u_aside, (u_s x1.toNatClampNeg), (0 : Int32), (-1 : Int32), (0 : Int32))
def fX7_pieceFor (n : Nat) (uM : MO) (u_s : Nat → Int32) (u_aside : Nat → Int32) (x1 : Int32) (x2 : Int32) : Option (Int32 × (Nat → Int32) × (Nat → Int32)) :=
  (fX7_isOne n uM u_s x1).bind fun r2 =>
  if r2 = 0 then
  (some ((-1 : Int32), u_s, u_aside))
  else
  ((fX7_isShort n x2).bind fun r9 =>
  if r9 = 0 then
  (some ((-1 : Int32), u_s, u_aside))
  else
  ((fX7_mostBy n uM u_s u_aside (((8 : Int32) + ((5 : Int32) * x1)) + (1 : Int32)) (7 : Int32) x2).bind fun r27 =>
  some (r27.1, r27.2.1, r27.2.2)))
def fX7_kindFor (n : Nat) (uM : MO) (u_s : Nat → Int32) (u_aside : Nat → Int32) (x1 : Int32) (x2 : Int32) : Option (Int32 × (Nat → Int32) × (Nat → Int32)) :=
  (fX7_isOne n uM u_s x1).bind fun r2 =>
  if r2 = 0 then
  (some ((-1 : Int32), u_s, u_aside))
  else
  ((fX7_isShort n x2).bind fun r9 =>
  if r9 = 0 then
  (some ((-1 : Int32), u_s, u_aside))
  else
  ((fX7_mostBy n uM u_s u_aside ((8 : Int32) + ((5 : Int32) * x1)) (5 : Int32) x2).bind fun r24 =>
  some (r24.1, r24.2.1, r24.2.2)))
def fX7_goneFor_b86 (n : Nat) (uM : MO) (x1 : Int32) (x2 : Int32)  (u_s : Nat → Int32) (u_aside : Nat → Int32) (y3 : Int32) (y4 : Int32) (y5 : Int32) : Option (Int32 × (Nat → Int32) × (Nat → Int32)) :=
  if y3 < 0 ∨ 48 ≤ y3.toNatClampNeg then none else
  some (y5, (upd u_s y3.toNatClampNeg y4), u_aside)
def fX7_goneFor_b78 (n : Nat) (uM : MO) (x1 : Int32) (x2 : Int32) (k41 : ((Nat → Int32) × (Nat → Int32) × Int32 × Int32 × Int32 × Int32) → Option (Int32 × (Nat → Int32) × (Nat → Int32))) (u_s : Nat → Int32) (u_aside : Nat → Int32) (y3 : Int32) (y4 : Int32) (y6 : Int32) (w0 : Int32) : Option (Int32 × (Nat → Int32) × (Nat → Int32)) :=
  k41 (u_s, u_aside, y3, y4, w0, (y6 + (1 : Int32)))
def fX7_goneFor_F41 (n : Nat) (uM : MO) (x1 : Int32) (x2 : Int32)  (k41 : ((Nat → Int32) × (Nat → Int32) × Int32 × Int32 × Int32 × Int32) → Option (Int32 × (Nat → Int32) × (Nat → Int32))) (v41 : (Nat → Int32) × (Nat → Int32) × Int32 × Int32 × Int32 × Int32) : Option (Int32 × (Nat → Int32) × (Nat → Int32)) :=
  if (99 : Int32) < v41.2.2.2.2.2 then
  (fX7_goneFor_b86 n uM x1 x2  v41.1 v41.2.1 v41.2.2.1 v41.2.2.2.1 v41.2.2.2.2.1)
  else
  (if 0 ≤ v41.2.2.2.2.1 then
  (fX7_goneFor_b86 n uM x1 x2  v41.1 v41.2.1 v41.2.2.1 v41.2.2.2.1 v41.2.2.2.2.1)
  else
  (if v41.2.2.1 < 0 ∨ 48 ≤ v41.2.2.1.toNatClampNeg then none else
  (fX7_speaksBy n uM (upd v41.1 v41.2.2.1.toNatClampNeg v41.2.2.2.2.2) v41.2.1 x1 x2).bind fun r64 =>
  if x2 < r64.1 then
  (fX7_goneFor_b78 n uM x1 x2 k41 r64.2.1 r64.2.2 v41.2.2.1 v41.2.2.2.1 v41.2.2.2.2.2 (-3 : Int32))
  else
  (fX7_goneFor_b78 n uM x1 x2 k41 r64.2.1 r64.2.2 v41.2.2.1 v41.2.2.2.1 v41.2.2.2.2.2 v41.2.2.2.2.2)))
def fX7_goneFor (n : Nat) (uM : MO) (u_s : Nat → Int32) (u_aside : Nat → Int32) (x1 : Int32) (x2 : Int32) : Option (Int32 × (Nat → Int32) × (Nat → Int32)) :=
  (fX7_isOne n uM u_s x1).bind fun r2 =>
  if r2 = 0 then
  (some ((-1 : Int32), u_s, u_aside))
  else
  ((fX7_isShort n x2).bind fun r9 =>
  if r9 = 0 then
  (some ((-1 : Int32), u_s, u_aside))
  else
  (if (((8 : Int32) + ((5 : Int32) * x1)) + (2 : Int32)) < 0 ∨ 48 ≤ (((8 : Int32) + ((5 : Int32) * x1)) + (2 : Int32)).toNatClampNeg then none else
  lpF (fX7_goneFor_F41 n uM x1 x2 ) n (u_s, u_aside, (((8 : Int32) + ((5 : Int32) * x1)) + (2 : Int32)), (u_s (((8 : Int32) + ((5 : Int32) * x1)) + (2 : Int32)).toNatClampNeg), (-3 : Int32), (0 : Int32))))
def fX7_depthFor_b99 (n : Nat) (uM : MO) (x1 : Int32)  (u_s : Nat → Int32) (u_aside : Nat → Int32) (y2 : Int32) (y3 : Int32) : Option (Int32 × (Nat → Int32) × (Nat → Int32)) :=
  some (y3, (upd u_s (6 : Int32).toNatClampNeg y2), u_aside)
def fX7_depthFor_b81 (n : Nat) (uM : MO) (x1 : Int32) (k23 : ((Nat → Int32) × (Nat → Int32) × Int32 × Int32 × Int32) → Option (Int32 × (Nat → Int32) × (Nat → Int32))) (u_s : Nat → Int32) (u_aside : Nat → Int32) (y2 : Int32) (y4 : Int32) (w0 : Int32) : Option (Int32 × (Nat → Int32) × (Nat → Int32)) :=
  (fX7_copyRow n u_aside u_s).bind fun r90 =>
  k23 (r90, u_aside, y2, w0, (y4 + (1 : Int32)))
def fX7_depthFor_F23 (n : Nat) (uM : MO) (x1 : Int32)  (k23 : ((Nat → Int32) × (Nat → Int32) × Int32 × Int32 × Int32) → Option (Int32 × (Nat → Int32) × (Nat → Int32))) (v23 : (Nat → Int32) × (Nat → Int32) × Int32 × Int32 × Int32) : Option (Int32 × (Nat → Int32) × (Nat → Int32)) :=
  if (99 : Int32) < v23.2.2.2.2 then
  (fX7_depthFor_b99 n uM x1  v23.1 v23.2.1 v23.2.2.1 v23.2.2.2.1)
  else
  (if 0 ≤ v23.2.2.2.1 then
  (fX7_depthFor_b99 n uM x1  v23.1 v23.2.1 v23.2.2.1 v23.2.2.2.1)
  else
  ((fX7_copyRow n (upd v23.1 (6 : Int32).toNatClampNeg v23.2.2.2.2) v23.2.1).bind fun r51 =>
  (fX7_drownedOnes n uM (upd v23.1 (6 : Int32).toNatClampNeg v23.2.2.2.2)).bind fun r55 =>
  (fX7_goesOnMany n uM (upd v23.1 (6 : Int32).toNatClampNeg v23.2.2.2.2) x1).bind fun r62 =>
  (fX7_drownedOnes n uM r62).bind fun r66 =>
  if r66 = r55 then
  (fX7_depthFor_b81 n uM x1 k23 r62 r51 v23.2.2.1 v23.2.2.2.2 v23.2.2.2.2)
  else
  (fX7_depthFor_b81 n uM x1 k23 r62 r51 v23.2.2.1 v23.2.2.2.2 (-3 : Int32))))
def fX7_depthFor (n : Nat) (uM : MO) (u_s : Nat → Int32) (u_aside : Nat → Int32) (x1 : Int32) : Option (Int32 × (Nat → Int32) × (Nat → Int32)) :=
  (fX7_isShort n x1).bind fun r1 =>
  if r1 = 0 then
  (some ((-1 : Int32), u_s, u_aside))
  else
  (lpF (fX7_depthFor_F23 n uM x1 ) n (u_s, u_aside, (u_s (6 : Int32).toNatClampNeg), (-3 : Int32), (0 : Int32)))
def fX7_taleOf_b50 (n : Nat) (uM : MO) (x1 : Int32) (x2 : Int32) (k13 : ((Nat → Int32) × (Nat → Int32) × Int32) → Option (Int32 × (Nat → Int32) × (Nat → Int32))) (u_s : Nat → Int32) (u_aside : Nat → Int32) (y3 : Int32) (w1 : Int32) (w2 : Int32) (w3 : Int32) : Option (Int32 × (Nat → Int32) × (Nat → Int32)) :=
  if w1 < 0 ∨ 48 ≤ w1.toNatClampNeg then none else
  k13 ((upd u_s w1.toNatClampNeg (w2 ||| w3)), u_aside, (y3 + (1 : Int32)))
def fX7_taleOf_F13 (n : Nat) (uM : MO) (x1 : Int32) (x2 : Int32)  (k13 : ((Nat → Int32) × (Nat → Int32) × Int32) → Option (Int32 × (Nat → Int32) × (Nat → Int32))) (v13 : (Nat → Int32) × (Nat → Int32) × Int32) : Option (Int32 × (Nat → Int32) × (Nat → Int32)) :=
  if (v13.1 (0 : Int32).toNatClampNeg) ≤ v13.2.2 then
  ((fX7_goesOnMany n uM v13.1 x2).bind fun r60 =>
  (fX7_copyRow n v13.2.1 r60).bind fun r78 =>
  some ((r60 (3 : Int32).toNatClampNeg), r78, v13.2.1))
  else
  (if (((8 : Int32) + ((5 : Int32) * v13.2.2)) + (4 : Int32)) < 0 ∨ 48 ≤ (((8 : Int32) + ((5 : Int32) * v13.2.2)) + (4 : Int32)).toNatClampNeg then none else
  if ((x1 >>> (v13.2.2 &&& 31)) &&& (1 : Int32)) = 0 then
  (fX7_taleOf_b50 n uM x1 x2 k13 v13.1 v13.2.1 v13.2.2 (((8 : Int32) + ((5 : Int32) * v13.2.2)) + (4 : Int32)) (v13.1 (((8 : Int32) + ((5 : Int32) * v13.2.2)) + (4 : Int32)).toNatClampNeg) (1 : Int32))
  else
  (fX7_taleOf_b50 n uM x1 x2 k13 v13.1 v13.2.1 v13.2.2 (((8 : Int32) + ((5 : Int32) * v13.2.2)) + (4 : Int32)) (v13.1 (((8 : Int32) + ((5 : Int32) * v13.2.2)) + (4 : Int32)).toNatClampNeg) (0 : Int32)))
def fX7_taleOf (n : Nat) (uM : MO) (u_s : Nat → Int32) (u_aside : Nat → Int32) (x1 : Int32) (x2 : Int32) : Option (Int32 × (Nat → Int32) × (Nat → Int32)) :=
  (fX7_copyRow n u_s u_aside).bind fun r8 =>
  lpF (fX7_taleOf_F13 n uM x1 x2 ) n (u_s, r8, (0 : Int32))
def fX7_strangersFor_b78 (n : Nat) (uM : MO) (x1 : Int32) (x2 : Int32) (k32 : ((Nat → Int32) × (Nat → Int32) × Int32 × Int32) → Option (Int32 × (Nat → Int32) × (Nat → Int32))) (u_s : Nat → Int32) (u_aside : Nat → Int32) (y4 : Int32) (w0 : Int32) : Option (Int32 × (Nat → Int32) × (Nat → Int32)) :=
  k32 (u_s, u_aside, w0, (y4 + (1 : Int32)))
def fX7_strangersFor_b77 (n : Nat) (uM : MO) (x1 : Int32) (x2 : Int32) (k32 : ((Nat → Int32) × (Nat → Int32) × Int32 × Int32) → Option (Int32 × (Nat → Int32) × (Nat → Int32))) (u_s : Nat → Int32) (u_aside : Nat → Int32) (y3 : Int32) (y4 : Int32) : Option (Int32 × (Nat → Int32) × (Nat → Int32)) :=
  fX7_strangersFor_b78 n uM x1 x2 k32 u_s u_aside y4 y3
def fX7_strangersFor_b61 (n : Nat) (uM : MO) (x1 : Int32) (x2 : Int32) (k32 : ((Nat → Int32) × (Nat → Int32) × Int32 × Int32) → Option (Int32 × (Nat → Int32) × (Nat → Int32))) (u_s : Nat → Int32) (u_aside : Nat → Int32) (y3 : Int32) (y4 : Int32) : Option (Int32 × (Nat → Int32) × (Nat → Int32)) :=
  (fX7_taleOf n uM u_s u_aside y4 x1).bind fun r65 =>
  if r65.1 < x2 then
  (fX7_strangersFor_b77 n uM x1 x2 k32 r65.2.1 r65.2.2 y3 y4)
  else
  (fX7_strangersFor_b78 n uM x1 x2 k32 r65.2.1 r65.2.2 y4 y4)
def fX7_strangersFor_F32 (n : Nat) (uM : MO) (x1 : Int32) (x2 : Int32)  (k32 : ((Nat → Int32) × (Nat → Int32) × Int32 × Int32) → Option (Int32 × (Nat → Int32) × (Nat → Int32))) (v32 : (Nat → Int32) × (Nat → Int32) × Int32 × Int32) : Option (Int32 × (Nat → Int32) × (Nat → Int32)) :=
  if ((1 : Int32) <<< ((v32.1 (0 : Int32).toNatClampNeg) &&& 31)) ≤ v32.2.2.2 then
  (some (v32.2.2.1, v32.1, v32.2.1))
  else
  (if v32.2.2.1 < 0 then
  (fX7_strangersFor_b61 n uM x1 x2 k32 v32.1 v32.2.1 v32.2.2.1 v32.2.2.2)
  else
  ((fX7_size n v32.2.2.2).bind fun r51 =>
  (fX7_size n v32.2.2.1).bind fun r55 =>
  if r55 ≤ r51 then
  (fX7_strangersFor_b77 n uM x1 x2 k32 v32.1 v32.2.1 v32.2.2.1 v32.2.2.2)
  else
  (fX7_strangersFor_b61 n uM x1 x2 k32 v32.1 v32.2.1 v32.2.2.1 v32.2.2.2)))
def fX7_strangersFor (n : Nat) (uM : MO) (u_s : Nat → Int32) (u_aside : Nat → Int32) (x1 : Int32) (x2 : Int32) : Option (Int32 × (Nat → Int32) × (Nat → Int32)) :=
  (fX7_isIn n x1.toInt64 (1 : Int64) (20 : Int64)).bind fun r6 =>
  if r6 = 0 then
  (some ((-1 : Int32), u_s, u_aside))
  else
  ((fX7_isIn n x2.toInt64 (0 : Int64) (99999 : Int64)).bind fun r18 =>
  if r18 = 0 then
  (some ((-1 : Int32), u_s, u_aside))
  else
  (lpF (fX7_strangersFor_F32 n uM x1 x2 ) n (u_s, u_aside, (-3 : Int32), (0 : Int32))))
def fX7_product_F4 (n : Nat) (x0 : Int32)  (k4 : (Int64 × Int32) → Option (Int64)) (v4 : Int64 × Int32) : Option (Int64) :=
  if x0 < v4.2 then
  (some v4.1)
  else
  (k4 ((v4.1 * v4.2.toInt64), (v4.2 + (1 : Int32))))
def fX7_product (n : Nat) (x0 : Int32) : Option (Int64) :=
  lpF (fX7_product_F4 n x0 ) n ((1 : Int64), (2 : Int32))
def fX7_partOf_F6 (n : Nat) (x0 : Int64) (x2 : Int64) (x4 : Int32)  (k6 : (Int64 × Int64) → Option (Int64)) (v6 : Int64 × Int64) : Option (Int64) :=
  if (lg_cmp v6.2 (0 : Int64)) = 0 then
  (if x4 = 0 then
  (if v6.1 = 0 then none else
  some (x0 / v6.1))
  else
  (if v6.1 = 0 then none else
  some (x2 / v6.1)))
  else
  (if v6.2 = 0 then none else
  k6 (v6.2, (v6.1 - v6.1 / v6.2 * v6.2)))
def fX7_partOf (n : Nat) (x0 : Int64) (x2 : Int64) (x4 : Int32) : Option (Int64) :=
  lpF (fX7_partOf_F6 n x0 x2 x4 ) n (x2, x0)
def fX7_isTold_b80 (n : Nat) (uM : MO) (u_sizeOf : Nat → Int32) (u_numbers : Nat → Int32) (x1 : Int32)  (u_s : Nat → Int32) (u_aside : Nat → Int32) (y2 : Int32) : Option (Int32 × (Nat → Int32) × (Nat → Int32)) :=
  (fX7_copyRow n u_aside u_s).bind fun r88 =>
  if ¬ (y2 = 0 ∨ y2 = 1) then none else
  some (y2, r88, u_aside)
def fX7_isTold_b73 (n : Nat) (uM : MO) (u_sizeOf : Nat → Int32) (u_numbers : Nat → Int32) (x1 : Int32) (k15 : ((Nat → Int32) × (Nat → Int32) × Int32 × Int32) → Option (Int32 × (Nat → Int32) × (Nat → Int32))) (u_s : Nat → Int32) (u_aside : Nat → Int32) (y3 : Int32) (w0 : Int32) : Option (Int32 × (Nat → Int32) × (Nat → Int32)) :=
  k15 (u_s, u_aside, w0, (y3 + (1 : Int32)))
def fX7_isTold_b68 (n : Nat) (uM : MO) (u_sizeOf : Nat → Int32) (u_numbers : Nat → Int32) (x1 : Int32) (k15 : ((Nat → Int32) × (Nat → Int32) × Int32 × Int32) → Option (Int32 × (Nat → Int32) × (Nat → Int32))) (u_s : Nat → Int32) (u_aside : Nat → Int32) (y3 : Int32) : Option (Int32 × (Nat → Int32) × (Nat → Int32)) :=
  fX7_isTold_b73 n uM u_sizeOf u_numbers x1 k15 u_s u_aside y3 (1 : Int32)
def fX7_isTold_F15 (n : Nat) (uM : MO) (u_sizeOf : Nat → Int32) (u_numbers : Nat → Int32) (x1 : Int32)  (k15 : ((Nat → Int32) × (Nat → Int32) × Int32 × Int32) → Option (Int32 × (Nat → Int32) × (Nat → Int32))) (v15 : (Nat → Int32) × (Nat → Int32) × Int32 × Int32) : Option (Int32 × (Nat → Int32) × (Nat → Int32)) :=
  if x1 < 0 ∨ 4 ≤ x1.toNatClampNeg then none else
  if (u_sizeOf x1.toNatClampNeg) ≤ v15.2.2.2 then
  (fX7_isTold_b80 n uM u_sizeOf u_numbers x1  v15.1 v15.2.1 v15.2.2.1)
  else
  (if v15.2.2.1 = 0 then
  (fX7_isTold_b80 n uM u_sizeOf u_numbers x1  v15.1 v15.2.1 v15.2.2.1)
  else
  ((fX7_goesOn n uM v15.1).bind fun r30 =>
  if (((40 : Int32) * x1) + v15.2.2.2) < 0 ∨ 160 ≤ (((40 : Int32) * x1) + v15.2.2.2).toNatClampNeg then none else
  if (u_numbers (((40 : Int32) * x1) + v15.2.2.2).toNatClampNeg) = (-1 : Int32) then
  (fX7_isTold_b68 n uM u_sizeOf u_numbers x1 k15 r30 v15.2.1 v15.2.2.2)
  else
  (if (((40 : Int32) * x1) + v15.2.2.2) < 0 ∨ 160 ≤ (((40 : Int32) * x1) + v15.2.2.2).toNatClampNeg then none else
  if (u_numbers (((40 : Int32) * x1) + v15.2.2.2).toNatClampNeg) = (r30 (3 : Int32).toNatClampNeg) then
  (fX7_isTold_b68 n uM u_sizeOf u_numbers x1 k15 r30 v15.2.1 v15.2.2.2)
  else
  (fX7_isTold_b73 n uM u_sizeOf u_numbers x1 k15 r30 v15.2.1 v15.2.2.2 (0 : Int32)))))
def fX7_isTold (n : Nat) (uM : MO) (u_s : Nat → Int32) (u_aside : Nat → Int32) (u_sizeOf : Nat → Int32) (u_numbers : Nat → Int32) (x1 : Int32) : Option (Int32 × (Nat → Int32) × (Nat → Int32)) :=
  (fX7_copyRow n u_s u_aside).bind fun r8 =>
  lpF (fX7_isTold_F15 n uM u_sizeOf u_numbers x1 ) n (u_s, r8, (1 : Int32), (0 : Int32))
def fX7_isSheet (n : Nat) (x0 : Int32) : Option (Int32) :=
  (fX7_isIn n x0.toInt64 (0 : Int64) (3 : Int64)).bind fun r6 =>
  if ¬ (r6 = 0 ∨ r6 = 1) then none else
  some r6
def fX7_fits_b117 (n : Nat) (uM : MO) (u_sortOf : Nat → Int32) (u_sizeOf : Nat → Int32) (u_numbers : Nat → Int32) (x1 : Int32) (x2 : Int32) (x3 : Int32) (k69 : ((Nat → Int32) × (Nat → Int32) × Int32 × Int32 × Int32 × Int32 × Int32) → Option (Int32 × (Nat → Int32) × (Nat → Int32))) (u_s : Nat → Int32) (u_aside : Nat → Int32) (y4 : Int32) (y5 : Int32) (y6 : Int32) (y8 : Int32) (w0 : Int32) : Option (Int32 × (Nat → Int32) × (Nat → Int32)) :=
  k69 (u_s, u_aside, y4, y5, y6, w0, (y8 + (-1 : Int32)))
def fX7_fits_b102 (n : Nat) (uM : MO) (u_sortOf : Nat → Int32) (u_sizeOf : Nat → Int32) (u_numbers : Nat → Int32) (x1 : Int32) (x2 : Int32) (x3 : Int32) (k69 : ((Nat → Int32) × (Nat → Int32) × Int32 × Int32 × Int32 × Int32 × Int32) → Option (Int32 × (Nat → Int32) × (Nat → Int32))) (u_s : Nat → Int32) (u_aside : Nat → Int32) (y4 : Int32) (y5 : Int32) (y7 : Int32) (y8 : Int32) (y9 : Int32) (w0 : Int32) (w1 : Int32) : Option (Int32 × (Nat → Int32) × (Nat → Int32)) :=
  if y9 = 0 then
  (fX7_fits_b117 n uM u_sortOf u_sizeOf u_numbers x1 x2 x3 k69 u_s u_aside y4 y5 (w0 + w1) y8 y7)
  else
  (fX7_fits_b117 n uM u_sortOf u_sizeOf u_numbers x1 x2 x3 k69 u_s u_aside y4 y5 (w0 + w1) y8 y8)
def fX7_fits_F69 (n : Nat) (uM : MO) (u_sortOf : Nat → Int32) (u_sizeOf : Nat → Int32) (u_numbers : Nat → Int32) (x1 : Int32) (x2 : Int32) (x3 : Int32)  (k69 : ((Nat → Int32) × (Nat → Int32) × Int32 × Int32 × Int32 × Int32 × Int32) → Option (Int32 × (Nat → Int32) × (Nat → Int32))) (v69 : (Nat → Int32) × (Nat → Int32) × Int32 × Int32 × Int32 × Int32 × Int32) : Option (Int32 × (Nat → Int32) × (Nat → Int32)) :=
  if v69.2.2.2.2.2.2 < 0 then
  (if v69.2.2.1 < 0 ∨ 48 ≤ v69.2.2.1.toNatClampNeg then none else
  if x3 = 0 then
  (some (v69.2.2.2.2.1, (upd v69.1 v69.2.2.1.toNatClampNeg v69.2.2.2.1), v69.2.1))
  else
  (some (v69.2.2.2.2.2.1, (upd v69.1 v69.2.2.1.toNatClampNeg v69.2.2.2.1), v69.2.1)))
  else
  (if v69.2.2.1 < 0 ∨ 48 ≤ v69.2.2.1.toNatClampNeg then none else
  (fX7_isTold n uM (upd v69.1 v69.2.2.1.toNatClampNeg v69.2.2.2.2.2.2) v69.2.1 u_sizeOf u_numbers x1).bind fun r85 =>
  if r85.1 = 0 then
  (fX7_fits_b102 n uM u_sortOf u_sizeOf u_numbers x1 x2 x3 k69 r85.2.1 r85.2.2 v69.2.2.1 v69.2.2.2.1 v69.2.2.2.2.2.1 v69.2.2.2.2.2.2 r85.1 v69.2.2.2.2.1 (0 : Int32))
  else
  (fX7_fits_b102 n uM u_sortOf u_sizeOf u_numbers x1 x2 x3 k69 r85.2.1 r85.2.2 v69.2.2.1 v69.2.2.2.1 v69.2.2.2.2.2.1 v69.2.2.2.2.2.2 r85.1 v69.2.2.2.2.1 (1 : Int32)))
def fX7_fits (n : Nat) (uM : MO) (u_s : Nat → Int32) (u_aside : Nat → Int32) (u_sortOf : Nat → Int32) (u_sizeOf : Nat → Int32) (u_numbers : Nat → Int32) (x1 : Int32) (x2 : Int32) (x3 : Int32) : Option (Int32 × (Nat → Int32) × (Nat → Int32)) :=
  (fX7_isSheet n x1).bind fun r1 =>
  if r1 = 0 then
  (some ((-1 : Int32), u_s, u_aside))
  else
  ((fX7_isOne n uM u_s x2).bind fun r9 =>
  if r9 = 0 then
  (some ((-1 : Int32), u_s, u_aside))
  else
  ((fX7_isIn n x3.toInt64 (0 : Int64) (1 : Int64)).bind fun r19 =>
  if r19 = 0 then
  (some ((-1 : Int32), u_s, u_aside))
  else
  (if x1 < 0 ∨ 4 ≤ x1.toNatClampNeg then none else
  if 0 ≤ (u_sortOf x1.toNatClampNeg) then
  (if (((8 : Int32) + ((5 : Int32) * x2)) + (1 : Int32)) < 0 ∨ 48 ≤ (((8 : Int32) + ((5 : Int32) * x2)) + (1 : Int32)).toNatClampNeg then none else
  lpF (fX7_fits_F69 n uM u_sortOf u_sizeOf u_numbers x1 x2 x3 ) n (u_s, u_aside, (((8 : Int32) + ((5 : Int32) * x2)) + (1 : Int32)), (u_s (((8 : Int32) + ((5 : Int32) * x2)) + (1 : Int32)).toNatClampNeg), (0 : Int32), (-3 : Int32), (7 : Int32)))
  else
  (some ((-11 : Int32), u_s, u_aside)))))
def fX7_odds_b97 (n : Nat) (uM : MO) (u_s : Nat → Int32) (x1 : Int32) (x2 : Int32) (x3 : Int32) (k61 : (Int64 × Int64 × Int32) → Option (Int64)) (y6 : Int64) (y8 : Int32) (w0 : Int64) (w1 : Int64) : Option (Int64) :=
  k61 ((w0 * w1), (y6 * (100 : Int64)), (y8 + (1 : Int32)))
def fX7_odds_F61 (n : Nat) (uM : MO) (u_s : Nat → Int32) (x1 : Int32) (x2 : Int32) (x3 : Int32)  (k61 : (Int64 × Int64 × Int32) → Option (Int64)) (v61 : Int64 × Int64 × Int32) : Option (Int64) :=
  if x1 ≤ v61.2.2 then
  ((fX7_partOf n v61.1 v61.2.1 x3).bind fun r119 =>
  some r119)
  else
  (if x2 ≤ v61.2.2 then
  (fX7_odds_b97 n uM u_s x1 x2 x3 k61 v61.2.1 v61.2.2 v61.1 (((100 : Int32) - (u_s (7 : Int32).toNatClampNeg)).toInt64))
  else
  (fX7_odds_b97 n uM u_s x1 x2 x3 k61 v61.2.1 v61.2.2 v61.1 ((u_s (7 : Int32).toNatClampNeg).toInt64)))
def fX7_odds (n : Nat) (uM : MO) (u_s : Nat → Int32) (x1 : Int32) (x2 : Int32) (x3 : Int32) : Option (Int64) :=
  (fX7_isIn n x1.toInt64 (0 : Int64) (8 : Int64)).bind fun r6 =>
  if r6 = 0 then
  (some (-1 : Int64))
  else
  ((fX7_isIn n x2.toInt64 (0 : Int64) x1.toInt64).bind fun r17 =>
  if r17 = 0 then
  (some (-1 : Int64))
  else
  ((fX7_isIn n x3.toInt64 (0 : Int64) (1 : Int64)).bind fun r27 =>
  if r27 = 0 then
  (some (-1 : Int64))
  else
  ((fX7_product n x1).bind fun r38 =>
  (fX7_product n x2).bind fun r42 =>
  if r42 = 0 then none else
  (fX7_product n (x1 - x2)).bind fun r49 =>
  if r49 = 0 then none else
  lpF (fX7_odds_F61 n uM u_s x1 x2 x3 ) n (((r38 / r42) / r49), (1 : Int64), (0 : Int32)))))
def fX7_hope (n : Nat) (uM : MO) (u_s : Nat → Int32) (x1 : Int32) (x2 : Int32) : Option (Int64) :=
  (fX7_isIn n x1.toInt64 (0 : Int64) (99 : Int64)).bind fun r6 =>
  if r6 = 0 then
  (some (-1 : Int64))
  else
  ((fX7_isIn n x2.toInt64 (0 : Int64) (1 : Int64)).bind fun r16 =>
  if r16 = 0 then
  (some (-1 : Int64))
  else
  ((fX7_partOf n (x1.toInt64 * (u_s (7 : Int32).toNatClampNeg).toInt64) (100 : Int64) x2).bind fun r37 =>
  some r37))
def fX7_prove_F35 (n : Nat) (x1 : Int32) (x2 : Int32)  (k35 : (MO × (Nat → Int32) × (Nat → Int32) × (Nat → Int32) × Int32) → Option (Int32 × MO × (Nat → Int32) × (Nat → Int32) × (Nat → Int32))) (v35 : MO × (Nat → Int32) × (Nat → Int32) × (Nat → Int32) × Int32) : Option (Int32 × MO × (Nat → Int32) × (Nat → Int32) × (Nat → Int32)) :=
  if x2 ≤ v35.2.2.2.2 then
  ((fX7_copyRow n v35.2.2.1 v35.2.1).bind fun r104 =>
  some (x2, (v35.1.1, v35.1.2.1, v35.1.2.2.1, v35.1.2.2.2.1, v35.1.2.2.2.2.1, v35.1.2.2.2.2.2.1, v35.1.2.2.2.2.2.2.1, x2, v35.1.2.2.2.2.2.2.2.2.1, v35.1.2.2.2.2.2.2.2.2.2.1, v35.1.2.2.2.2.2.2.2.2.2.2.1, v35.1.2.2.2.2.2.2.2.2.2.2.2.1, v35.1.2.2.2.2.2.2.2.2.2.2.2.2), r104, v35.2.2.1, v35.2.2.2.1))
  else
  ((fX7_goesOn n v35.1 v35.2.1).bind fun r41 =>
  (fX7_its n v35.1 r41 x1 (2 : Int32)).bind fun r54 =>
  if ((3 : Int32) * v35.2.2.2.2) < 0 ∨ 30 ≤ ((3 : Int32) * v35.2.2.2.2).toNatClampNeg then none else
  (fX7_its n v35.1 r41 x1 (3 : Int32)).bind fun r70 =>
  if (((3 : Int32) * v35.2.2.2.2) + (1 : Int32)) < 0 ∨ 30 ≤ (((3 : Int32) * v35.2.2.2.2) + (1 : Int32)).toNatClampNeg then none else
  if (((3 : Int32) * v35.2.2.2.2) + (2 : Int32)) < 0 ∨ 30 ≤ (((3 : Int32) * v35.2.2.2.2) + (2 : Int32)).toNatClampNeg then none else
  k35 (v35.1, r41, v35.2.2.1, (upd (upd (upd v35.2.2.2.1 ((3 : Int32) * v35.2.2.2.2).toNatClampNeg r54) (((3 : Int32) * v35.2.2.2.2) + (1 : Int32)).toNatClampNeg r70) (((3 : Int32) * v35.2.2.2.2) + (2 : Int32)).toNatClampNeg (r41 (3 : Int32).toNatClampNeg)), (v35.2.2.2.2 + (1 : Int32))))
def fX7_prove (n : Nat) (uM : MO) (u_s : Nat → Int32) (u_aside : Nat → Int32) (u_rows : Nat → Int32) (x1 : Int32) (x2 : Int32) : Option (Int32 × MO × (Nat → Int32) × (Nat → Int32) × (Nat → Int32)) :=
  (fX7_isOne n uM u_s x1).bind fun r2 =>
  if r2 = 0 then
  (some ((-1 : Int32), uM, u_s, u_aside, u_rows))
  else
  ((fX7_isIn n x2.toInt64 (1 : Int64) (10 : Int64)).bind fun r14 =>
  if r14 = 0 then
  (some ((-1 : Int32), uM, u_s, u_aside, u_rows))
  else
  ((fX7_copyRow n u_s u_aside).bind fun r30 =>
  lpF (fX7_prove_F35 n x1 x2 ) n (uM, u_s, r30, u_rows, (0 : Int32))))
def fX7_isRow (n : Nat) (uM : MO) (x1 : Int32) (x2 : Int32) : Option (Int32) :=
  (fX7_isIn n x1.toInt64 (0 : Int64) ((uM.2.2.2.2.2.2.2.1 - (1 : Int32)).toInt64)).bind fun r10 =>
  if r10 = 0 then
  (some (0 : Int32))
  else
  ((fX7_isIn n x2.toInt64 (0 : Int64) (2 : Int64)).bind fun r22 =>
  if r22 = 0 then
  (some (0 : Int32))
  else
  (some (1 : Int32)))
def fX7_row (n : Nat) (uM : MO) (u_rows : Nat → Int32) (x1 : Int32) (x2 : Int32) : Option (Int32) :=
  (fX7_isRow n uM x1 x2).bind fun r3 =>
  if r3 = 0 then
  (some (-9 : Int32))
  else
  (if (((3 : Int32) * x1) + x2) < 0 ∨ 30 ≤ (((3 : Int32) * x1) + x2).toNatClampNeg then none else
  some (u_rows (((3 : Int32) * x1) + x2).toNatClampNeg))
def fX7_alterRow (n : Nat) (uM : MO) (u_rows : Nat → Int32) (x1 : Int32) (x2 : Int32) (x3 : Int32) : Option (Int32 × (Nat → Int32)) :=
  (fX7_isRow n uM x1 x2).bind fun r3 =>
  if r3 = 0 then
  (some ((-9 : Int32), u_rows))
  else
  (if (((3 : Int32) * x1) + x2) < 0 ∨ 30 ≤ (((3 : Int32) * x1) + x2).toNatClampNeg then none else
  if (((3 : Int32) * x1) + x2) < 0 ∨ 30 ≤ (((3 : Int32) * x1) + x2).toNatClampNeg then none else
  some ((u_rows (((3 : Int32) * x1) + x2).toNatClampNeg), (upd u_rows (((3 : Int32) * x1) + x2).toNatClampNeg x3)))
def fX7_judge_b108 (n : Nat) (uM : MO) (u_rows : Nat → Int32) (x1 : Int32)  (u_s : Nat → Int32) (u_aside : Nat → Int32) (y2 : Int32) (y3 : Int32) : Option (Int32 × (Nat → Int32) × (Nat → Int32)) :=
  (fX7_copyRow n u_aside u_s).bind fun r116 =>
  if y3 = 0 then
  (some (y2, r116, u_aside))
  else
  (some ((0 : Int32), r116, u_aside))
def fX7_judge_b101 (n : Nat) (uM : MO) (u_rows : Nat → Int32) (x1 : Int32) (k25 : ((Nat → Int32) × (Nat → Int32) × Int32 × Int32) → Option (Int32 × (Nat → Int32) × (Nat → Int32))) (u_s : Nat → Int32) (u_aside : Nat → Int32) (y2 : Int32) (w0 : Int32) : Option (Int32 × (Nat → Int32) × (Nat → Int32)) :=
  k25 (u_s, u_aside, (y2 + (1 : Int32)), w0)
def fX7_judge_b100 (n : Nat) (uM : MO) (u_rows : Nat → Int32) (x1 : Int32) (k25 : ((Nat → Int32) × (Nat → Int32) × Int32 × Int32) → Option (Int32 × (Nat → Int32) × (Nat → Int32))) (u_s : Nat → Int32) (u_aside : Nat → Int32) (y2 : Int32) : Option (Int32 × (Nat → Int32) × (Nat → Int32)) :=
  fX7_judge_b101 n uM u_rows x1 k25 u_s u_aside y2 (0 : Int32)
def fX7_judge_F25 (n : Nat) (uM : MO) (u_rows : Nat → Int32) (x1 : Int32)  (k25 : ((Nat → Int32) × (Nat → Int32) × Int32 × Int32) → Option (Int32 × (Nat → Int32) × (Nat → Int32))) (v25 : (Nat → Int32) × (Nat → Int32) × Int32 × Int32) : Option (Int32 × (Nat → Int32) × (Nat → Int32)) :=
  if uM.2.2.2.2.2.2.2.1 ≤ v25.2.2.1 then
  (fX7_judge_b108 n uM u_rows x1  v25.1 v25.2.1 v25.2.2.1 v25.2.2.2)
  else
  (if v25.2.2.2 = 0 then
  (fX7_judge_b108 n uM u_rows x1  v25.1 v25.2.1 v25.2.2.1 v25.2.2.2)
  else
  ((fX7_goesOn n uM v25.1).bind fun r38 =>
  if ((3 : Int32) * v25.2.2.1) < 0 ∨ 30 ≤ ((3 : Int32) * v25.2.2.1).toNatClampNeg then none else
  (fX7_its n uM r38 x1 (2 : Int32)).bind fun r52 =>
  if (u_rows ((3 : Int32) * v25.2.2.1).toNatClampNeg) = r52 then
  (if (((3 : Int32) * v25.2.2.1) + (1 : Int32)) < 0 ∨ 30 ≤ (((3 : Int32) * v25.2.2.1) + (1 : Int32)).toNatClampNeg then none else
  (fX7_its n uM r38 x1 (3 : Int32)).bind fun r71 =>
  if (u_rows (((3 : Int32) * v25.2.2.1) + (1 : Int32)).toNatClampNeg) = r71 then
  (if (((3 : Int32) * v25.2.2.1) + (2 : Int32)) < 0 ∨ 30 ≤ (((3 : Int32) * v25.2.2.1) + (2 : Int32)).toNatClampNeg then none else
  if (u_rows (((3 : Int32) * v25.2.2.1) + (2 : Int32)).toNatClampNeg) = (r38 (3 : Int32).toNatClampNeg) then
  (fX7_judge_b101 n uM u_rows x1 k25 r38 v25.2.1 v25.2.2.1 (1 : Int32))
  else
  (fX7_judge_b100 n uM u_rows x1 k25 r38 v25.2.1 v25.2.2.1))
  else
  (fX7_judge_b100 n uM u_rows x1 k25 r38 v25.2.1 v25.2.2.1))
  else
  (fX7_judge_b100 n uM u_rows x1 k25 r38 v25.2.1 v25.2.2.1)))
def fX7_judge (n : Nat) (uM : MO) (u_s : Nat → Int32) (u_aside : Nat → Int32) (u_rows : Nat → Int32) (x1 : Int32) : Option (Int32 × (Nat → Int32) × (Nat → Int32)) :=
  (fX7_isOne n uM u_s x1).bind fun r2 =>
  if r2 = 0 then
  (some ((-1 : Int32), u_s, u_aside))
  else
  ((fX7_copyRow n u_s u_aside).bind fun r18 =>
  lpF (fX7_judge_F25 n uM u_rows x1 ) n (u_s, r18, (0 : Int32), (1 : Int32)))
def fX7_isShelf (n : Nat) (x0 : Int32) : Option (Int32) :=
  (fX7_isIn n x0.toInt64 (0 : Int64) (3 : Int64)).bind fun r6 =>
  if ¬ (r6 = 0 ∨ r6 = 1) then none else
  some r6
def fX7_sheet_F69 (n : Nat) (uM : MO) (x1 : Int32) (x2 : Int32) (x3 : Int32)  (k69 : ((Nat → Int32) × (Nat → Int32) × (Nat → Int32) × Int32) → Option (Int32 × (Nat → Int32) × (Nat → Int32) × (Nat → Int32))) (v69 : (Nat → Int32) × (Nat → Int32) × (Nat → Int32) × Int32) : Option (Int32 × (Nat → Int32) × (Nat → Int32) × (Nat → Int32)) :=
  if (40 : Int32) ≤ v69.2.2.2 then
  (some ((1 : Int32), v69.1, v69.2.1, v69.2.2.1))
  else
  (if (((40 : Int32) * x1) + v69.2.2.2) < 0 ∨ 160 ≤ (((40 : Int32) * x1) + v69.2.2.2).toNatClampNeg then none else
  k69 (v69.1, v69.2.1, (upd v69.2.2.1 (((40 : Int32) * x1) + v69.2.2.2).toNatClampNeg (0 : Int32)), (v69.2.2.2 + (1 : Int32))))
def fX7_sheet_b65 (n : Nat) (uM : MO) (x1 : Int32) (x2 : Int32) (x3 : Int32)  (u_sortOf : Nat → Int32) (u_sizeOf : Nat → Int32) (u_numbers : Nat → Int32) (w1 : Int32) (w2 : Int32) : Option (Int32 × (Nat → Int32) × (Nat → Int32) × (Nat → Int32)) :=
  if w1 < 0 ∨ 4 ≤ w1.toNatClampNeg then none else
  lpF (fX7_sheet_F69 n uM x1 x2 x3 ) n (u_sortOf, (upd u_sizeOf w1.toNatClampNeg w2), u_numbers, (0 : Int32))
def fX7_sheet_b44 (n : Nat) (uM : MO) (x1 : Int32) (x2 : Int32) (x3 : Int32)  (u_sortOf : Nat → Int32) (u_sizeOf : Nat → Int32) (u_numbers : Nat → Int32) : Option (Int32 × (Nat → Int32) × (Nat → Int32) × (Nat → Int32)) :=
  if x1 < 0 ∨ 4 ≤ x1.toNatClampNeg then none else
  if 0 ≤ x2 then
  (fX7_sheet_b65 n uM x1 x2 x3  (upd u_sortOf x1.toNatClampNeg x2) u_sizeOf u_numbers x1 x3)
  else
  (fX7_sheet_b65 n uM x1 x2 x3  (upd u_sortOf x1.toNatClampNeg x2) u_sizeOf u_numbers x1 (0 : Int32))
def fX7_sheet_b33 (n : Nat) (uM : MO) (x1 : Int32) (x2 : Int32) (x3 : Int32)  (u_sortOf : Nat → Int32) (u_sizeOf : Nat → Int32) (u_numbers : Nat → Int32) : Option (Int32 × (Nat → Int32) × (Nat → Int32) × (Nat → Int32)) :=
  if x2 < 0 then
  (fX7_sheet_b44 n uM x1 x2 x3  u_sortOf u_sizeOf u_numbers)
  else
  (if 0 ≤ x3 then
  (fX7_sheet_b44 n uM x1 x2 x3  u_sortOf u_sizeOf u_numbers)
  else
  (some ((-14 : Int32), u_sortOf, u_sizeOf, u_numbers)))
def fX7_sheet (n : Nat) (uM : MO) (u_sortOf : Nat → Int32) (u_sizeOf : Nat → Int32) (u_numbers : Nat → Int32) (x1 : Int32) (x2 : Int32) (x3 : Int32) : Option (Int32 × (Nat → Int32) × (Nat → Int32) × (Nat → Int32)) :=
  (fX7_isSheet n x1).bind fun r1 =>
  if r1 = 0 then
  (some ((-1 : Int32), u_sortOf, u_sizeOf, u_numbers))
  else
  ((fX7_isIn n x2.toInt64 (-1 : Int64) (3 : Int64)).bind fun r15 =>
  if r15 = 0 then
  (some ((-1 : Int32), u_sortOf, u_sizeOf, u_numbers))
  else
  (if x2 < 0 then
  (fX7_sheet_b33 n uM x1 x2 x3  u_sortOf u_sizeOf u_numbers)
  else
  (if x3 ≤ (40 : Int32) then
  (fX7_sheet_b33 n uM x1 x2 x3  u_sortOf u_sizeOf u_numbers)
  else
  (some ((-1 : Int32), u_sortOf, u_sizeOf, u_numbers)))))
def fX7_put (n : Nat) (uM : MO) (u_sortOf : Nat → Int32) (u_sizeOf : Nat → Int32) (u_numbers : Nat → Int32) (x1 : Int32) (x2 : Int32) (x3 : Int32) : Option (Int32 × (Nat → Int32)) :=
  (fX7_isSheet n x1).bind fun r1 =>
  if r1 = 0 then
  (some ((-1 : Int32), u_numbers))
  else
  (if x1 < 0 ∨ 4 ≤ x1.toNatClampNeg then none else
  if 0 ≤ (u_sortOf x1.toNatClampNeg) then
  (if x1 < 0 ∨ 4 ≤ x1.toNatClampNeg then none else
  (fX7_isIn n x2.toInt64 (0 : Int64) (((u_sizeOf x1.toNatClampNeg) - (1 : Int32)).toInt64)).bind fun r33 =>
  if r33 = 0 then
  (some ((-12 : Int32), u_numbers))
  else
  (if x1 < 0 ∨ 4 ≤ x1.toNatClampNeg then none else
  if (u_sortOf x1.toNatClampNeg) = 0 then
  (if (((40 : Int32) * x1) + x2) < 0 ∨ 160 ≤ (((40 : Int32) * x1) + x2).toNatClampNeg then none else
  some ((1 : Int32), (upd u_numbers (((40 : Int32) * x1) + x2).toNatClampNeg x3.toInt8.toInt32)))
  else
  (if x1 < 0 ∨ 4 ≤ x1.toNatClampNeg then none else
  if (u_sortOf x1.toNatClampNeg) = (1 : Int32) then
  (if (((40 : Int32) * x1) + x2) < 0 ∨ 160 ≤ (((40 : Int32) * x1) + x2).toNatClampNeg then none else
  some ((1 : Int32), (upd u_numbers (((40 : Int32) * x1) + x2).toNatClampNeg x3.toInt16.toInt32)))
  else
  (if (((40 : Int32) * x1) + x2) < 0 ∨ 160 ≤ (((40 : Int32) * x1) + x2).toNatClampNeg then none else
  some ((1 : Int32), (upd u_numbers (((40 : Int32) * x1) + x2).toNatClampNeg x3))))))
  else
  (some ((-11 : Int32), u_numbers)))
def fX7_lacks (n : Nat) (uM : MO) (u_sortOf : Nat → Int32) (x1 : Int32) (x2 : Int32) : Option (Int32) :=
  if x1 < 0 ∨ 4 ≤ x1.toNatClampNeg then none else
  if 0 ≤ (u_sortOf x1.toNatClampNeg) then
  (if x1 < 0 ∨ 4 ≤ x1.toNatClampNeg then none else
  if (u_sortOf x1.toNatClampNeg) = x2 then
  (some (0 : Int32))
  else
  (some (-13 : Int32)))
  else
  (some (-11 : Int32))
def fX7_item (n : Nat) (uM : MO) (u_sortOf : Nat → Int32) (u_sizeOf : Nat → Int32) (u_numbers : Nat → Int32) (x1 : Int32) (x2 : Int32) (x3 : Int32) : Option (Int32) :=
  (fX7_isSheet n x1).bind fun r1 =>
  if r1 = 0 then
  (some (-1 : Int32))
  else
  ((fX7_isIn n x2.toInt64 (0 : Int64) (3 : Int64)).bind fun r13 =>
  if r13 = 0 then
  (some (-1 : Int32))
  else
  ((fX7_lacks n uM u_sortOf x1 x2).bind fun r24 =>
  if r24 = 0 then
  (if x1 < 0 ∨ 4 ≤ x1.toNatClampNeg then none else
  (fX7_isIn n x3.toInt64 (0 : Int64) (((u_sizeOf x1.toNatClampNeg) - (1 : Int32)).toInt64)).bind fun r49 =>
  if r49 = 0 then
  (some (-12 : Int32))
  else
  (if (((40 : Int32) * x1) + x3) < 0 ∨ 160 ≤ (((40 : Int32) * x1) + x3).toNatClampNeg then none else
  some (u_numbers (((40 : Int32) * x1) + x3).toNatClampNeg)))
  else
  ((fX7_lacks n uM u_sortOf x1 x2).bind fun r33 =>
  some r33)))
def fX7_minds_F98 (n : Nat) (uM : MO) (u_sortOf : Nat → Int32) (u_sizeOf : Nat → Int32) (u_numbers : Nat → Int32) (x1 : Int32) (x2 : Int32) (x3 : Int32) (x4 : Int32)  (k98 : ((Nat → Int32) × Int32) → Option (Int32 × (Nat → Int32))) (v98 : (Nat → Int32) × Int32) : Option (Int32 × (Nat → Int32)) :=
  if x4 ≤ v98.2 then
  (some (x4, v98.1))
  else
  (if ((((40 : Int32) * x1) + x2) + v98.2) < 0 ∨ 160 ≤ ((((40 : Int32) * x1) + x2) + v98.2).toNatClampNeg then none else
  (fX7_within n (u_numbers ((((40 : Int32) * x1) + x2) + v98.2).toNatClampNeg)).bind fun r134 =>
  if (((8 : Int32) + ((5 : Int32) * (x3 + v98.2))) + (2 : Int32)) < 0 ∨ 48 ≤ (((8 : Int32) + ((5 : Int32) * (x3 + v98.2))) + (2 : Int32)).toNatClampNeg then none else
  k98 ((upd v98.1 (((8 : Int32) + ((5 : Int32) * (x3 + v98.2))) + (2 : Int32)).toNatClampNeg r134), (v98.2 + (1 : Int32))))
def fX7_minds (n : Nat) (uM : MO) (u_s : Nat → Int32) (u_sortOf : Nat → Int32) (u_sizeOf : Nat → Int32) (u_numbers : Nat → Int32) (x1 : Int32) (x2 : Int32) (x3 : Int32) (x4 : Int32) : Option (Int32 × (Nat → Int32)) :=
  (fX7_isSheet n x1).bind fun r1 =>
  if r1 = 0 then
  (some ((-1 : Int32), u_s))
  else
  ((fX7_isOne n uM u_s x3).bind fun r9 =>
  if r9 = 0 then
  (some ((-1 : Int32), u_s))
  else
  ((fX7_isIn n x4.toInt64 (0 : Int64) (8 : Int64)).bind fun r22 =>
  if r22 = 0 then
  (some ((-1 : Int32), u_s))
  else
  (if (x3 + x4) ≤ (u_s (0 : Int32).toNatClampNeg) then
  ((fX7_lacks n uM u_sortOf x1 (0 : Int32)).bind fun r46 =>
  if r46 = 0 then
  (if x1 < 0 ∨ 4 ≤ x1.toNatClampNeg then none else
  (fX7_isIn n x2.toInt64 (0 : Int64) ((u_sizeOf x1.toNatClampNeg).toInt64)).bind fun r69 =>
  if r69 = 0 then
  (some ((-12 : Int32), u_s))
  else
  (if x1 < 0 ∨ 4 ≤ x1.toNatClampNeg then none else
  if (lg_cmp (x2.toInt64 + x4.toInt64) (u_sizeOf x1.toNatClampNeg).toInt64) ≤ 0 then
  (lpF (fX7_minds_F98 n uM u_sortOf u_sizeOf u_numbers x1 x2 x3 x4 ) n (u_s, (0 : Int32)))
  else
  (some ((-12 : Int32), u_s))))
  else
  ((fX7_lacks n uM u_sortOf x1 (0 : Int32)).bind fun r55 =>
  some (r55, u_s)))
  else
  (some ((-1 : Int32), u_s)))))
def fX7_shelf_b118 (n : Nat) (uM : MO) (u_s : Nat → Int32) (u_sortOf : Nat → Int32) (u_sizeOf : Nat → Int32) (x1 : Int32) (x2 : Int32) (x3 : Int32)  (u_holdsWhat : Nat → Int32) (u_holdsWhich : Nat → Int32) (u_holdsMany : Nat → Int32) (y4 : Int32) (w1 : Int32) (w2 : Int32) : Option (Int32 × (Nat → Int32) × (Nat → Int32) × (Nat → Int32)) :=
  if w1 < 0 ∨ 4 ≤ w1.toNatClampNeg then none else
  if y4 = 0 then
  (if x1 < 0 ∨ 4 ≤ x1.toNatClampNeg then none else
  some ((1 : Int32), u_holdsWhat, (upd u_holdsWhich w1.toNatClampNeg w2), (upd u_holdsMany x1.toNatClampNeg (0 : Int32))))
  else
  (if x3 < 0 ∨ 4 ≤ x3.toNatClampNeg then none else
  if x1 < 0 ∨ 4 ≤ x1.toNatClampNeg then none else
  some ((1 : Int32), u_holdsWhat, (upd u_holdsWhich w1.toNatClampNeg w2), (upd u_holdsMany x1.toNatClampNeg (u_sizeOf x3.toNatClampNeg))))
def fX7_shelf_b89 (n : Nat) (uM : MO) (u_s : Nat → Int32) (u_sortOf : Nat → Int32) (u_sizeOf : Nat → Int32) (x1 : Int32) (x2 : Int32) (x3 : Int32)  (u_holdsWhat : Nat → Int32) (u_holdsWhich : Nat → Int32) (u_holdsMany : Nat → Int32) (y4 : Int32) (w1 : Int32) (w2 : Int32) : Option (Int32 × (Nat → Int32) × (Nat → Int32) × (Nat → Int32)) :=
  if w1 < 0 ∨ 4 ≤ w1.toNatClampNeg then none else
  if x2 = 0 then
  (fX7_shelf_b118 n uM u_s u_sortOf u_sizeOf x1 x2 x3  (upd u_holdsWhat w1.toNatClampNeg w2) u_holdsWhich u_holdsMany y4 x1 x3)
  else
  (if y4 = 0 then
  (fX7_shelf_b118 n uM u_s u_sortOf u_sizeOf x1 x2 x3  (upd u_holdsWhat w1.toNatClampNeg w2) u_holdsWhich u_holdsMany y4 x1 (0 : Int32))
  else
  (if x3 < 0 ∨ 4 ≤ x3.toNatClampNeg then none else
  fX7_shelf_b118 n uM u_s u_sortOf u_sizeOf x1 x2 x3  (upd u_holdsWhat w1.toNatClampNeg w2) u_holdsWhich u_holdsMany y4 x1 (u_sortOf x3.toNatClampNeg)))
def fX7_shelf_b64 (n : Nat) (uM : MO) (u_s : Nat → Int32) (u_sortOf : Nat → Int32) (u_sizeOf : Nat → Int32) (x1 : Int32) (x2 : Int32) (x3 : Int32)  (u_holdsWhat : Nat → Int32) (u_holdsWhich : Nat → Int32) (u_holdsMany : Nat → Int32) (w0 : Int32) : Option (Int32 × (Nat → Int32) × (Nat → Int32) × (Nat → Int32)) :=
  if x2 = 0 then
  (fX7_shelf_b89 n uM u_s u_sortOf u_sizeOf x1 x2 x3  u_holdsWhat u_holdsWhich u_holdsMany w0 x1 (1 : Int32))
  else
  (if w0 = 0 then
  (fX7_shelf_b89 n uM u_s u_sortOf u_sizeOf x1 x2 x3  u_holdsWhat u_holdsWhich u_holdsMany w0 x1 (0 : Int32))
  else
  (fX7_shelf_b89 n uM u_s u_sortOf u_sizeOf x1 x2 x3  u_holdsWhat u_holdsWhich u_holdsMany w0 x1 (2 : Int32)))
def fX7_shelf_b63 (n : Nat) (uM : MO) (u_s : Nat → Int32) (u_sortOf : Nat → Int32) (u_sizeOf : Nat → Int32) (x1 : Int32) (x2 : Int32) (x3 : Int32)  (u_holdsWhat : Nat → Int32) (u_holdsWhich : Nat → Int32) (u_holdsMany : Nat → Int32) : Option (Int32 × (Nat → Int32) × (Nat → Int32) × (Nat → Int32)) :=
  fX7_shelf_b64 n uM u_s u_sortOf u_sizeOf x1 x2 x3  u_holdsWhat u_holdsWhich u_holdsMany (0 : Int32)
def fX7_shelf_b45 (n : Nat) (uM : MO) (u_s : Nat → Int32) (u_sortOf : Nat → Int32) (u_sizeOf : Nat → Int32) (x1 : Int32) (x2 : Int32) (x3 : Int32)  (u_holdsWhat : Nat → Int32) (u_holdsWhich : Nat → Int32) (u_holdsMany : Nat → Int32) : Option (Int32 × (Nat → Int32) × (Nat → Int32) × (Nat → Int32)) :=
  if x2 = (1 : Int32) then
  (if x3 < 0 ∨ 4 ≤ x3.toNatClampNeg then none else
  if (u_sortOf x3.toNatClampNeg) < 0 then
  (fX7_shelf_b63 n uM u_s u_sortOf u_sizeOf x1 x2 x3  u_holdsWhat u_holdsWhich u_holdsMany)
  else
  (fX7_shelf_b64 n uM u_s u_sortOf u_sizeOf x1 x2 x3  u_holdsWhat u_holdsWhich u_holdsMany (1 : Int32)))
  else
  (fX7_shelf_b63 n uM u_s u_sortOf u_sizeOf x1 x2 x3  u_holdsWhat u_holdsWhich u_holdsMany)
def fX7_shelf_b31 (n : Nat) (uM : MO) (u_s : Nat → Int32) (u_sortOf : Nat → Int32) (u_sizeOf : Nat → Int32) (x1 : Int32) (x2 : Int32) (x3 : Int32)  (u_holdsWhat : Nat → Int32) (u_holdsWhich : Nat → Int32) (u_holdsMany : Nat → Int32) : Option (Int32 × (Nat → Int32) × (Nat → Int32) × (Nat → Int32)) :=
  if x2 = (1 : Int32) then
  ((fX7_isSheet n x3).bind fun r37 =>
  if r37 = 0 then
  (some ((-1 : Int32), u_holdsWhat, u_holdsWhich, u_holdsMany))
  else
  (fX7_shelf_b45 n uM u_s u_sortOf u_sizeOf x1 x2 x3  u_holdsWhat u_holdsWhich u_holdsMany))
  else
  (fX7_shelf_b45 n uM u_s u_sortOf u_sizeOf x1 x2 x3  u_holdsWhat u_holdsWhich u_holdsMany)
def fX7_shelf (n : Nat) (uM : MO) (u_s : Nat → Int32) (u_sortOf : Nat → Int32) (u_sizeOf : Nat → Int32) (u_holdsWhat : Nat → Int32) (u_holdsWhich : Nat → Int32) (u_holdsMany : Nat → Int32) (x1 : Int32) (x2 : Int32) (x3 : Int32) : Option (Int32 × (Nat → Int32) × (Nat → Int32) × (Nat → Int32)) :=
  (fX7_isShelf n x1).bind fun r1 =>
  if r1 = 0 then
  (some ((-1 : Int32), u_holdsWhat, u_holdsWhich, u_holdsMany))
  else
  ((fX7_isIn n x2.toInt64 (0 : Int64) (2 : Int64)).bind fun r13 =>
  if r13 = 0 then
  (some ((-1 : Int32), u_holdsWhat, u_holdsWhich, u_holdsMany))
  else
  (if x2 = 0 then
  ((fX7_isOne n uM u_s x3).bind fun r25 =>
  if r25 = 0 then
  (some ((-1 : Int32), u_holdsWhat, u_holdsWhich, u_holdsMany))
  else
  (fX7_shelf_b31 n uM u_s u_sortOf u_sizeOf x1 x2 x3  u_holdsWhat u_holdsWhich u_holdsMany))
  else
  (fX7_shelf_b31 n uM u_s u_sortOf u_sizeOf x1 x2 x3  u_holdsWhat u_holdsWhich u_holdsMany)))
def fX7_heldOn_b27 (n : Nat) (uM : MO) (u_s : Nat → Int32) (u_holdsWhat : Nat → Int32) (u_holdsWhich : Nat → Int32) (x1 : Int32)   : Option (Int32) :=
  if x1 < 0 ∨ 4 ≤ x1.toNatClampNeg then none else
  some (u_holdsWhat x1.toNatClampNeg)
def fX7_heldOn (n : Nat) (uM : MO) (u_s : Nat → Int32) (u_holdsWhat : Nat → Int32) (u_holdsWhich : Nat → Int32) (x1 : Int32) : Option (Int32) :=
  if x1 < 0 ∨ 4 ≤ x1.toNatClampNeg then none else
  if (u_holdsWhat x1.toNatClampNeg) = (1 : Int32) then
  (if x1 < 0 ∨ 4 ≤ x1.toNatClampNeg then none else
  (fX7_isOne n uM u_s (u_holdsWhich x1.toNatClampNeg)).bind fun r17 =>
  if r17 = 0 then
  (some (0 : Int32))
  else
  (fX7_heldOn_b27 n uM u_s u_holdsWhat u_holdsWhich x1  ))
  else
  (fX7_heldOn_b27 n uM u_s u_holdsWhat u_holdsWhich x1  )
def fX7_taken (n : Nat) (uM : MO) (u_s : Nat → Int32) (u_holdsWhat : Nat → Int32) (u_holdsWhich : Nat → Int32) (u_holdsMany : Nat → Int32) (x1 : Int32) (x2 : Int32) : Option (Int32) :=
  (fX7_isShelf n x1).bind fun r1 =>
  if r1 = 0 then
  (some (-1 : Int32))
  else
  ((fX7_isIn n x2.toInt64 (0 : Int64) (13 : Int64)).bind fun r13 =>
  if r13 = 0 then
  (some (-1 : Int32))
  else
  ((fX7_isIn n x2.toInt64 (6 : Int64) (9 : Int64)).bind fun r27 =>
  if r27 = 0 then
  ((fX7_heldOn n uM u_s u_holdsWhat u_holdsWhich x1).bind fun r37 =>
  if r37 = 0 then
  (some (-11 : Int32))
  else
  (if (10 : Int32) ≤ x2 then
  (if r37 = (2 : Int32) then
  (if x1 < 0 ∨ 4 ≤ x1.toNatClampNeg then none else
  if (u_holdsWhich x1.toNatClampNeg) = (x2 - (10 : Int32)) then
  (if x1 < 0 ∨ 4 ≤ x1.toNatClampNeg then none else
  some (u_holdsMany x1.toNatClampNeg))
  else
  (some (-13 : Int32)))
  else
  (some (-13 : Int32)))
  else
  (if r37 = (1 : Int32) then
  (if x1 < 0 ∨ 4 ≤ x1.toNatClampNeg then none else
  (fX7_its n uM u_s (u_holdsWhich x1.toNatClampNeg) (0 : Int32)).bind fun r67 =>
  (fX7_isUnder n r67 x2).bind fun r71 =>
  if r71 = 0 then
  (some (-13 : Int32))
  else
  (if x1 < 0 ∨ 4 ≤ x1.toNatClampNeg then none else
  some (u_holdsWhich x1.toNatClampNeg)))
  else
  (some (-13 : Int32)))))
  else
  (some (-1 : Int32))))
def fX7_runs (n : Nat) (uM : MO) (u_bodies : Nat → Int32) (x1 : Int32) : Option (MO × (Nat → Int32)) :=
  if (30 : Int32) ≤ uM.2.2.2.2.2.2.2.2.1 then
  (some (uM, u_bodies))
  else
  (if uM.2.2.2.2.2.2.2.2.1 < 0 ∨ 30 ≤ uM.2.2.2.2.2.2.2.2.1.toNatClampNeg then none else
  some ((uM.1, uM.2.1, uM.2.2.1, uM.2.2.2.1, uM.2.2.2.2.1, uM.2.2.2.2.2.1, uM.2.2.2.2.2.2.1, uM.2.2.2.2.2.2.2.1, (uM.2.2.2.2.2.2.2.2.1 + (1 : Int32)), uM.2.2.2.2.2.2.2.2.2.1, uM.2.2.2.2.2.2.2.2.2.2.1, uM.2.2.2.2.2.2.2.2.2.2.2.1, uM.2.2.2.2.2.2.2.2.2.2.2.2), (upd u_bodies uM.2.2.2.2.2.2.2.2.1.toNatClampNeg x1)))
def fX7_liftsPlain (n : Nat) (uM : MO) (u_bodies : Nat → Int32) (x1 : Int32) : Option (Int32 × MO × (Nat → Int32)) :=
  (fX7_runs n uM u_bodies (10 : Int32)).bind fun r3 =>
  some (((x1 * (2 : Int32)) + r3.1.2.2.2.2.2.2.2.2.2.2.1), r3.1, r3.2)
def fX7_liftsOfActuary (n : Nat) (uM : MO) (u_bodies : Nat → Int32) (x1 : Int32) : Option (Int32 × MO × (Nat → Int32)) :=
  (fX7_runs n uM u_bodies (30 : Int32)).bind fun r3 =>
  (fX7_liftsPlain n r3.1 r3.2 x1).bind fun r8 =>
  some ((r8.1 * (3 : Int32)), r8.2.1, r8.2.2)
def fX7_lifts (n : Nat) (uM : MO) (u_bodies : Nat → Int32) (x1 : Int32) : Option (Int32 × MO × (Nat → Int32)) :=
  if uM.2.2.2.2.2.2.2.2.2.1 = (2 : Int32) then
  ((fX7_liftsOfActuary n uM u_bodies x1).bind fun r34 =>
  some (r34.1, r34.2.1, r34.2.2))
  else if uM.2.2.2.2.2.2.2.2.2.1 = (3 : Int32) then
  ((fX7_runs n uM u_bodies (51 : Int32)).bind fun r55 =>
  (fX7_liftsPlain n r55.1 r55.2 x1).bind fun r60 =>
  some ((r60.1 - r60.2.1.2.2.2.2.2.2.2.2.2.2.2.1), r60.2.1, r60.2.2))
  else if uM.2.2.2.2.2.2.2.2.2.1 = (4 : Int32) then
  ((fX7_runs n uM u_bodies (40 : Int32)).bind fun r41 =>
  (fX7_liftsOfActuary n r41.1 r41.2 x1).bind fun r47 =>
  some (((0 : Int32) - r47.1), r47.2.1, r47.2.2))
  else 
  ((fX7_liftsPlain n uM u_bodies x1).bind fun r71 =>
  some (r71.1, r71.2.1, r71.2.2))
def fX7_cutsPlain (n : Nat) (uM : MO) (u_bodies : Nat → Int32) (x1 : Int32) : Option (Int32 × MO × (Nat → Int32)) :=
  (fX7_runs n uM u_bodies (11 : Int32)).bind fun r3 =>
  (fX7_lifts n r3.1 r3.2 x1).bind fun r8 =>
  some ((r8.1 - (r8.2.1.2.2.2.2.2.2.2.2.2.2.2.1 * (3 : Int32))), r8.2.1, r8.2.2)
def fX7_cuts_b16 (n : Nat) (x1 : Int32)  (uM : MO) (u_bodies : Nat → Int32) : Option (Int32 × MO × (Nat → Int32)) :=
  (fX7_runs n uM u_bodies (20 : Int32)).bind fun r19 =>
  (fX7_cutsPlain n r19.1 r19.2 x1).bind fun r24 =>
  some ((r24.1 + (7 : Int32)), r24.2.1, r24.2.2)
def fX7_cuts (n : Nat) (uM : MO) (u_bodies : Nat → Int32) (x1 : Int32) : Option (Int32 × MO × (Nat → Int32)) :=
  if uM.2.2.2.2.2.2.2.2.2.1 = (1 : Int32) then
  (fX7_cuts_b16 n x1  uM u_bodies)
  else
  (if uM.2.2.2.2.2.2.2.2.2.1 = (3 : Int32) then
  (fX7_cuts_b16 n x1  uM u_bodies)
  else
  (if uM.2.2.2.2.2.2.2.2.2.1 = (4 : Int32) then
  ((fX7_runs n uM u_bodies (41 : Int32)).bind fun r42 =>
  (fX7_cutsPlain n r42.1 r42.2 x1).bind fun r47 =>
  (fX7_lifts n r47.2.1 r47.2.2 r47.2.1.2.2.2.2.2.2.2.2.2.2.2.1).bind fun r57 =>
  some ((r47.1 + r57.1), r57.2.1, r57.2.2))
  else
  ((fX7_cutsPlain n uM u_bodies x1).bind fun r64 =>
  some (r64.1, r64.2.1, r64.2.2))))
def fX7_partsPlain_b30 (n : Nat) (x1 : Int32)  (uM : MO) (u_bodies : Nat → Int32) (w1 : Int32) : Option (Int32 × MO × (Nat → Int32)) :=
  if ¬ (w1 = 0 ∨ w1 = 1) then none else
  if w1 = 0 then
  (if (uM.2.2.2.2.2.2.2.2.2.2.2.1 - uM.2.2.2.2.2.2.2.2.2.2.1) = 0 then none else
  some ((x1 / (uM.2.2.2.2.2.2.2.2.2.2.2.1 - uM.2.2.2.2.2.2.2.2.2.2.1)), (uM.1, uM.2.1, uM.2.2.1, uM.2.2.2.1, uM.2.2.2.2.1, uM.2.2.2.2.2.1, uM.2.2.2.2.2.2.1, uM.2.2.2.2.2.2.2.1, uM.2.2.2.2.2.2.2.2.1, uM.2.2.2.2.2.2.2.2.2.1, uM.2.2.2.2.2.2.2.2.2.2.1, uM.2.2.2.2.2.2.2.2.2.2.2.1, w1), u_bodies))
  else
  (some ((0 : Int32), (uM.1, uM.2.1, uM.2.2.1, uM.2.2.2.1, uM.2.2.2.2.1, uM.2.2.2.2.2.1, uM.2.2.2.2.2.2.1, uM.2.2.2.2.2.2.2.1, uM.2.2.2.2.2.2.2.2.1, uM.2.2.2.2.2.2.2.2.2.1, uM.2.2.2.2.2.2.2.2.2.2.1, uM.2.2.2.2.2.2.2.2.2.2.2.1, w1), u_bodies))
def fX7_partsPlain_b25 (n : Nat) (x1 : Int32)  (uM : MO) (u_bodies : Nat → Int32) : Option (Int32 × MO × (Nat → Int32)) :=
  fX7_partsPlain_b30 n x1  uM u_bodies (1 : Int32)
def fX7_partsPlain (n : Nat) (uM : MO) (u_bodies : Nat → Int32) (x1 : Int32) : Option (Int32 × MO × (Nat → Int32)) :=
  (fX7_runs n uM u_bodies (12 : Int32)).bind fun r3 =>
  if r3.1.2.2.2.2.2.2.2.2.2.2.2.2 = 0 then
  (if r3.1.2.2.2.2.2.2.2.2.2.2.1 = r3.1.2.2.2.2.2.2.2.2.2.2.2.1 then
  (fX7_partsPlain_b25 n x1  r3.1 r3.2)
  else
  (fX7_partsPlain_b30 n x1  r3.1 r3.2 (0 : Int32)))
  else
  (fX7_partsPlain_b25 n x1  r3.1 r3.2)
def fX7_parts (n : Nat) (uM : MO) (u_bodies : Nat → Int32) (x1 : Int32) : Option (Int32 × MO × (Nat → Int32)) :=
  if uM.2.2.2.2.2.2.2.2.2.1 = (3 : Int32) then
  ((fX7_runs n uM u_bodies (50 : Int32)).bind fun r11 =>
  (fX7_partsPlain n r11.1 r11.2 (x1 * (2 : Int32))).bind fun r18 =>
  some ((r18.1 ^^^ (3 : Int32)), r18.2.1, r18.2.2))
  else
  (if uM.2.2.2.2.2.2.2.2.2.1 = (5 : Int32) then
  ((fX7_runs n uM u_bodies (61 : Int32)).bind fun r35 =>
  (fX7_partsPlain n r35.1 r35.2 x1).bind fun r40 =>
  if r40.2.1.2.2.2.2.2.2.2.2.2.2.2.2 = 0 then
  ((fX7_lifts n r40.2.1 r40.2.2 r40.2.1.2.2.2.2.2.2.2.2.2.2.1).bind fun r61 =>
  some ((r40.1 + r61.1), r61.2.1, r61.2.2))
  else
  (some ((0 : Int32), r40.2.1, r40.2.2)))
  else
  ((fX7_partsPlain n uM u_bodies x1).bind fun r68 =>
  some (r68.1, r68.2.1, r68.2.2)))
def fX7_tellsPlain (n : Nat) (uM : MO) (u_bodies : Nat → Int32) (x1 : Int32) : Option (Int32 × MO × (Nat → Int32)) :=
  (fX7_runs n uM u_bodies (13 : Int32)).bind fun r3 =>
  (fX7_cuts n r3.1 r3.2 x1).bind fun r8 =>
  some ((r8.1 ^^^ (210 : Int32)), r8.2.1, r8.2.2)
def fX7_tells_b16 (n : Nat) (x1 : Int32)  (uM : MO) (u_bodies : Nat → Int32) : Option (Int32 × MO × (Nat → Int32)) :=
  (fX7_runs n uM u_bodies (31 : Int32)).bind fun r19 =>
  (fX7_tellsPlain n r19.1 r19.2 x1).bind fun r24 =>
  (fX7_parts n r24.2.1 r24.2.2 r24.2.1.2.2.2.2.2.2.2.2.2.2.1).bind fun r34 =>
  some ((r24.1 - r34.1), r34.2.1, r34.2.2)
def fX7_tells (n : Nat) (uM : MO) (u_bodies : Nat → Int32) (x1 : Int32) : Option (Int32 × MO × (Nat → Int32)) :=
  if uM.2.2.2.2.2.2.2.2.2.1 = (2 : Int32) then
  (fX7_tells_b16 n x1  uM u_bodies)
  else
  (if uM.2.2.2.2.2.2.2.2.2.1 = (4 : Int32) then
  (fX7_tells_b16 n x1  uM u_bodies)
  else
  (if uM.2.2.2.2.2.2.2.2.2.1 = (5 : Int32) then
  ((fX7_runs n uM u_bodies (60 : Int32)).bind fun r50 =>
  (fX7_tellsPlain n r50.1 r50.2 x1).bind fun r55 =>
  some ((r55.1 * (4 : Int32)), r55.2.1, r55.2.2))
  else
  ((fX7_tellsPlain n uM u_bodies x1).bind fun r63 =>
  some (r63.1, r63.2.1, r63.2.2))))
def fX7_act_b123 (n : Nat) (u_s : Nat → Int32) (u_holdsWhat : Nat → Int32) (u_holdsWhich : Nat → Int32) (x1 : Int32) (x2 : Int32) (x3 : Int32)  (uM : MO) (u_bodies : Nat → Int32) (w0 : Int32) : Option (Int32 × MO × (Nat → Int32)) :=
  if uM.2.2.2.2.2.2.2.2.2.2.2.2 = 0 then
  (some (w0, uM, u_bodies))
  else
  (some ((-15 : Int32), uM, u_bodies))
def fX7_act (n : Nat) (uM : MO) (u_s : Nat → Int32) (u_holdsWhat : Nat → Int32) (u_holdsWhich : Nat → Int32) (u_bodies : Nat → Int32) (x1 : Int32) (x2 : Int32) (x3 : Int32) : Option (Int32 × MO × (Nat → Int32)) :=
  (fX7_isShelf n x1).bind fun r6 =>
  if r6 = 0 then
  (some ((0 : Int32), (uM.1, uM.2.1, uM.2.2.1, uM.2.2.2.1, uM.2.2.2.2.1, uM.2.2.2.2.2.1, uM.2.2.2.2.2.2.1, uM.2.2.2.2.2.2.2.1, (0 : Int32), uM.2.2.2.2.2.2.2.2.2.1, uM.2.2.2.2.2.2.2.2.2.2.1, uM.2.2.2.2.2.2.2.2.2.2.2.1, uM.2.2.2.2.2.2.2.2.2.2.2.2), u_bodies))
  else
  ((fX7_isIn n x2.toInt64 (0 : Int64) (3 : Int64)).bind fun r18 =>
  if r18 = 0 then
  (some ((0 : Int32), (uM.1, uM.2.1, uM.2.2.1, uM.2.2.2.1, uM.2.2.2.2.1, uM.2.2.2.2.2.1, uM.2.2.2.2.2.2.1, uM.2.2.2.2.2.2.2.1, (0 : Int32), uM.2.2.2.2.2.2.2.2.2.1, uM.2.2.2.2.2.2.2.2.2.2.1, uM.2.2.2.2.2.2.2.2.2.2.2.1, uM.2.2.2.2.2.2.2.2.2.2.2.2), u_bodies))
  else
  ((fX7_heldOn n (uM.1, uM.2.1, uM.2.2.1, uM.2.2.2.1, uM.2.2.2.2.1, uM.2.2.2.2.2.1, uM.2.2.2.2.2.2.1, uM.2.2.2.2.2.2.2.1, (0 : Int32), uM.2.2.2.2.2.2.2.2.2.1, uM.2.2.2.2.2.2.2.2.2.2.1, uM.2.2.2.2.2.2.2.2.2.2.2.1, uM.2.2.2.2.2.2.2.2.2.2.2.2) u_s u_holdsWhat u_holdsWhich x1).bind fun r26 =>
  if r26 = (1 : Int32) then
  (if x1 < 0 ∨ 4 ≤ x1.toNatClampNeg then none else
  (fX7_its n (uM.1, uM.2.1, uM.2.2.1, uM.2.2.2.1, uM.2.2.2.2.1, uM.2.2.2.2.2.1, uM.2.2.2.2.2.2.1, uM.2.2.2.2.2.2.2.1, (0 : Int32), uM.2.2.2.2.2.2.2.2.2.1, uM.2.2.2.2.2.2.2.2.2.2.1, uM.2.2.2.2.2.2.2.2.2.2.2.1, (0 : Int32)) u_s (u_holdsWhich x1.toNatClampNeg) (0 : Int32)).bind fun r49 =>
  if x1 < 0 ∨ 4 ≤ x1.toNatClampNeg then none else
  if x1 < 0 ∨ 4 ≤ x1.toNatClampNeg then none else
  (fX7_its n (uM.1, uM.2.1, uM.2.2.1, uM.2.2.2.1, uM.2.2.2.2.1, uM.2.2.2.2.2.1, uM.2.2.2.2.2.2.1, uM.2.2.2.2.2.2.2.1, (0 : Int32), r49, (u_holdsWhich x1.toNatClampNeg), uM.2.2.2.2.2.2.2.2.2.2.2.1, (0 : Int32)) u_s (u_holdsWhich x1.toNatClampNeg) (1 : Int32)).bind fun r74 =>
  if x2 = 0 then
  ((fX7_lifts n (uM.1, uM.2.1, uM.2.2.1, uM.2.2.2.1, uM.2.2.2.2.1, uM.2.2.2.2.2.1, uM.2.2.2.2.2.2.1, uM.2.2.2.2.2.2.2.1, (0 : Int32), r49, (u_holdsWhich x1.toNatClampNeg), r74, (0 : Int32)) u_bodies x3).bind fun r86 =>
  fX7_act_b123 n u_s u_holdsWhat u_holdsWhich x1 x2 x3  r86.2.1 r86.2.2 r86.1)
  else
  (if x2 = (1 : Int32) then
  ((fX7_cuts n (uM.1, uM.2.1, uM.2.2.1, uM.2.2.2.1, uM.2.2.2.2.1, uM.2.2.2.2.2.1, uM.2.2.2.2.2.2.1, uM.2.2.2.2.2.2.2.1, (0 : Int32), r49, (u_holdsWhich x1.toNatClampNeg), r74, (0 : Int32)) u_bodies x3).bind fun r99 =>
  fX7_act_b123 n u_s u_holdsWhat u_holdsWhich x1 x2 x3  r99.2.1 r99.2.2 r99.1)
  else
  (if x2 = (2 : Int32) then
  ((fX7_parts n (uM.1, uM.2.1, uM.2.2.1, uM.2.2.2.1, uM.2.2.2.2.1, uM.2.2.2.2.2.1, uM.2.2.2.2.2.2.1, uM.2.2.2.2.2.2.2.1, (0 : Int32), r49, (u_holdsWhich x1.toNatClampNeg), r74, (0 : Int32)) u_bodies x3).bind fun r112 =>
  fX7_act_b123 n u_s u_holdsWhat u_holdsWhich x1 x2 x3  r112.2.1 r112.2.2 r112.1)
  else
  ((fX7_tells n (uM.1, uM.2.1, uM.2.2.1, uM.2.2.2.1, uM.2.2.2.2.1, uM.2.2.2.2.2.1, uM.2.2.2.2.2.2.1, uM.2.2.2.2.2.2.2.1, (0 : Int32), r49, (u_holdsWhich x1.toNatClampNeg), r74, (0 : Int32)) u_bodies x3).bind fun r120 =>
  fX7_act_b123 n u_s u_holdsWhat u_holdsWhich x1 x2 x3  r120.2.1 r120.2.2 r120.1))))
  else
  (some ((0 : Int32), (uM.1, uM.2.1, uM.2.2.1, uM.2.2.2.1, uM.2.2.2.2.1, uM.2.2.2.2.2.1, uM.2.2.2.2.2.2.1, uM.2.2.2.2.2.2.2.1, (0 : Int32), uM.2.2.2.2.2.2.2.2.2.1, uM.2.2.2.2.2.2.2.2.2.2.1, uM.2.2.2.2.2.2.2.2.2.2.2.1, uM.2.2.2.2.2.2.2.2.2.2.2.2), u_bodies))))
def fX7_trace (n : Nat) (uM : MO) (u_bodies : Nat → Int32) (x1 : Int32) : Option (Int32) :=
  (fX7_isIn n x1.toInt64 (0 : Int64) ((uM.2.2.2.2.2.2.2.2.1 - (1 : Int32)).toInt64)).bind fun r10 =>
  if r10 = 0 then
  (some (-3 : Int32))
  else
  (if x1 < 0 ∨ 30 ≤ x1.toNatClampNeg then none else
  some (u_bodies x1.toNatClampNeg))
def fX7_many_b86 (n : Nat) (uM : MO) (u_s : Nat → Int32) (x1 : Int32) (k61 : (Int32 × Int32) → Option (Int32)) (y3 : Int32) (w0 : Int32) (w1 : Int32) : Option (Int32) :=
  k61 ((w0 + w1), (y3 + (1 : Int32)))
def fX7_many_F61 (n : Nat) (uM : MO) (u_s : Nat → Int32) (x1 : Int32)  (k61 : (Int32 × Int32) → Option (Int32)) (v61 : Int32 × Int32) : Option (Int32) :=
  if (u_s (0 : Int32).toNatClampNeg) ≤ v61.2 then
  (some v61.1)
  else
  ((fX7_its n uM u_s v61.2 (3 : Int32)).bind fun r75 =>
  if r75 ≤ 0 then
  (fX7_many_b86 n uM u_s x1 k61 v61.2 v61.1 (0 : Int32))
  else
  (fX7_many_b86 n uM u_s x1 k61 v61.2 v61.1 (1 : Int32)))
def fX7_many (n : Nat) (uM : MO) (u_s : Nat → Int32) (x1 : Int32) : Option (Int32) :=
  if x1 = (0 : Int32) then
  (some (u_s (0 : Int32).toNatClampNeg))
  else if x1 = (1 : Int32) then
  ((fX7_drownedOnes n uM u_s).bind fun r52 =>
  (fX7_size n r52).bind fun r55 =>
  some r55)
  else if x1 = (2 : Int32) then
  (lpF (fX7_many_F61 n uM u_s x1 ) n ((0 : Int32), (0 : Int32)))
  else if x1 = (3 : Int32) then
  ((fX7_pieces n uM u_s).bind fun r97 =>
  (fX7_size n r97).bind fun r100 =>
  some r100)
  else if x1 = (4 : Int32) then
  (some uM.2.2.2.2.2.2.2.1)
  else if x1 = (5 : Int32) then
  (some uM.2.1)
  else if x1 = (6 : Int32) then
  (some uM.2.2.2.2.2.2.2.2.1)
  else 
  (some (-1 : Int32))
def fX7_keep_F2 (n : Nat) (u_s : Nat → Int32)  (k2 : (MO × (Nat → Int32) × Int32) → Option (Int32 × MO × (Nat → Int32))) (v2 : MO × (Nat → Int32) × Int32) : Option (Int32 × MO × (Nat → Int32)) :=
  if (48 : Int32) ≤ v2.2.2 then
  (some ((1 : Int32), ((1 : Int32), v2.1.2.1, v2.1.2.2.1, v2.1.2.2.2.1, v2.1.2.2.2.2.1, v2.1.2.2.2.2.2.1, v2.1.2.2.2.2.2.2.1, v2.1.2.2.2.2.2.2.2.1, v2.1.2.2.2.2.2.2.2.2.1, v2.1.2.2.2.2.2.2.2.2.2.1, v2.1.2.2.2.2.2.2.2.2.2.2.1, v2.1.2.2.2.2.2.2.2.2.2.2.2.1, v2.1.2.2.2.2.2.2.2.2.2.2.2.2), v2.2.1))
  else
  (if v2.2.2 < 0 ∨ 48 ≤ v2.2.2.toNatClampNeg then none else
  if v2.2.2 < 0 ∨ 48 ≤ v2.2.2.toNatClampNeg then none else
  k2 (v2.1, (upd v2.2.1 v2.2.2.toNatClampNeg (u_s v2.2.2.toNatClampNeg)), (v2.2.2 + (1 : Int32))))
def fX7_keep (n : Nat) (uM : MO) (u_s : Nat → Int32) (u_held : Nat → Int32) : Option (Int32 × MO × (Nat → Int32)) :=
  lpF (fX7_keep_F2 n u_s ) n (uM, u_held, (0 : Int32))
def fX7_again_F12 (n : Nat) (uM : MO) (u_held : Nat → Int32)  (k12 : ((Nat → Int32) × Int32) → Option (Int32 × (Nat → Int32))) (v12 : (Nat → Int32) × Int32) : Option (Int32 × (Nat → Int32)) :=
  if (48 : Int32) ≤ v12.2 then
  (some ((v12.1 (0 : Int32).toNatClampNeg), v12.1))
  else
  (if v12.2 < 0 ∨ 48 ≤ v12.2.toNatClampNeg then none else
  if v12.2 < 0 ∨ 48 ≤ v12.2.toNatClampNeg then none else
  k12 ((upd v12.1 v12.2.toNatClampNeg (u_held v12.2.toNatClampNeg)), (v12.2 + (1 : Int32))))
def fX7_again (n : Nat) (uM : MO) (u_s : Nat → Int32) (u_held : Nat → Int32) : Option (Int32 × (Nat → Int32)) :=
  if uM.1 = 0 then
  (some ((-3 : Int32), u_s))
  else
  (lpF (fX7_again_F12 n uM u_held ) n (u_s, (0 : Int32)))
