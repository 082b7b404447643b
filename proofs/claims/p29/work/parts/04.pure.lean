/-! ===== what each method computes (written by program out of the bytecode) ===== -/
def f_J6_bitCount_0f7a4 (p1 : Int32) : Option (Int32) :=
  xl (p1 - ((((p1).toUInt32 >>> ((1 : Int32).toUInt32 &&& Int32.toUInt32 31)).toInt32) &&& 1431655765)) fun x_1 =>
  xl ((x_1 &&& 858993459) + ((((x_1).toUInt32 >>> ((2 : Int32).toUInt32 &&& Int32.toUInt32 31)).toInt32) &&& 858993459)) fun x_2 =>
  xl ((x_2 + (((x_2).toUInt32 >>> ((4 : Int32).toUInt32 &&& Int32.toUInt32 31)).toInt32)) &&& 252645135) fun x_3 =>
  xl (x_3 + (((x_3).toUInt32 >>> ((8 : Int32).toUInt32 &&& Int32.toUInt32 31)).toInt32)) fun x_4 =>
  xl (x_4 + (((x_4).toUInt32 >>> ((16 : Int32).toUInt32 &&& Int32.toUInt32 31)).toInt32)) fun x_5 =>
  some (x_5 &&& 63)
def f_X1_isAheadOnDay (v : xV) (i : Nat) (j : Nat) : Option (Int32) :=
  if (v (6 + 2 * i) 3) < (v (6 + 2 * j) 3) then
  some 1
  else
  if (v (6 + 2 * i) 3) = (v (6 + 2 * j) 3) then
  if (v (6 + 2 * j) 0) ≤ (v (6 + 2 * i) 0) then
  some 0
  else
  some 1
  else
  some 0
def f_X1_indexOn (v : xV) (i : Nat) (p1 : Int32) : Option (Int32) :=
  xl (p1 - (v (6 + 2 * i) 6)) fun x_1 =>
  if (v (6 + 2 * i) 7) < 1 then
  some (-1)
  else
  if x_1 < 0 then
  some (-1)
  else
  xg (¬ (v (6 + 2 * i) 7) = 0) <|
  if (x_1 - x_1 / (v (6 + 2 * i) 7) * (v (6 + 2 * i) 7)) = 0 then
  xg (¬ (v (6 + 2 * i) 7) = 0) <|
  xl (x_1 / (v (6 + 2 * i) 7)) fun x_7 =>
  if (v (6 + 2 * i) 5) ≤ x_7 then
  some (-1)
  else
  if (((v (6 + 2 * i) 10) >>> (x_7 &&& 31)) &&& 1) = 0 then
  some x_7
  else
  some (-1)
  else
  some (-1)
def f_X1_isOn (v : xV) (i : Nat) (p1 : Int32) : Option (Int32) :=
  xb (f_X1_indexOn v i p1) fun r_1 =>
  if r_1 = (-1) then
  some 0
  else
  some 1
def L_X0_aheadOnDay_16 (K_16 : Int32 → Int32 → Option Int32) (v : xV) (i : Nat) (p2 : Int32) : Nat → Int32 → Int32 → Option Int32
  | 0, _, _ => none
  | n + 1, x_1, x_2 =>
  if 12 ≤ x_2 then
  K_16 x_1 x_2
  else
  xg (xin x_2 12) <|
  xl x_2.toNatClampNeg fun i_5 =>
  xb (f_X1_isOn v i_5 p2) fun r_6 =>
  if r_6 = 0 then
  xl (x_1 + 0) fun x_9 =>
  xl (x_2 + 1) fun x_10 =>
  L_X0_aheadOnDay_16 K_16 v i p2 n x_9 x_10
  else
  xb (f_X1_isAheadOnDay v i_5 i) fun r_11 =>
  if r_11 = 0 then
  xl (x_1 + 0) fun x_14 =>
  xl (x_2 + 1) fun x_15 =>
  L_X0_aheadOnDay_16 K_16 v i p2 n x_14 x_15
  else
  xl (x_1 + 1) fun x_16 =>
  xl (x_2 + 1) fun x_17 =>
  L_X0_aheadOnDay_16 K_16 v i p2 n x_16 x_17
def f_X0_aheadOnDay (v : xV) (i : Nat) (p2 : Int32) : Option (Int32) :=
  L_X0_aheadOnDay_16 (fun x_18 x_19 =>
  some x_18) v i p2 100000 0 0
def f_X7_hoursMask (p1 : Int32) (p2 : Int32) : Option (Int32) :=
  xl (if 24 < (if p1 < 0 then 0 else p1) then 24 else (if p1 < 0 then 0 else p1)) fun x_1 =>
  xl (if 24 < (if p2 < x_1 then x_1 else p2) then 24 else (if p2 < x_1 then x_1 else p2)) fun x_2 =>
  some (((1 : Int32) <<< (x_2 &&& 31)) - ((1 : Int32) <<< (x_1 &&& 31)))
def L_X0_blockedHours_17 (K_17 : Int32 → Int32 → Option Int32) (v : xV) (p1 : Int32) (p2 : Int32) (p3 : Int32) (p4 : Int32) : Nat → Int32 → Int32 → Option Int32
  | 0, _, _ => none
  | n + 1, x_1, x_2 =>
  if 12 ≤ x_2 then
  K_17 x_1 x_2
  else
  xg (xin x_2 12) <|
  xl x_2.toNatClampNeg fun i_5 =>
  if ((v (6 + 2 * i_5) 2) &&& p2) = 0 then
  xl (x_2 + 1) fun x_7 =>
  L_X0_blockedHours_17 K_17 v p1 p2 p3 p4 n x_1 x_7
  else
  xb (f_X1_isOn v i_5 p1) fun r_8 =>
  if r_8 = 0 then
  xl (x_2 + 1) fun x_11 =>
  L_X0_blockedHours_17 K_17 v p1 p2 p3 p4 n x_1 x_11
  else
  if (v (6 + 2 * i_5) 1) = p3 then
  xb (f_X7_hoursMask ((v (6 + 2 * i_5) 3) - 0) ((v (6 + 2 * i_5) 4) + 0)) fun r_17 =>
  xl (x_1 ||| r_17) fun x_19 =>
  xl (x_2 + 1) fun x_20 =>
  L_X0_blockedHours_17 K_17 v p1 p2 p3 p4 n x_19 x_20
  else
  xb (f_X7_hoursMask ((v (6 + 2 * i_5) 3) - p4) ((v (6 + 2 * i_5) 4) + p4)) fun r_13 =>
  xl (x_1 ||| r_13) fun x_15 =>
  xl (x_2 + 1) fun x_16 =>
  L_X0_blockedHours_17 K_17 v p1 p2 p3 p4 n x_15 x_16
def f_X0_blockedHours (v : xV) (p1 : Int32) (p2 : Int32) (p3 : Int32) (p4 : Int32) : Option (Int32) :=
  L_X0_blockedHours_17 (fun x_21 x_22 =>
  some x_21) v p1 p2 p3 p4 100000 0 0
def f_X0_isHirer (v : xV) (p1 : Int32) : Option (Int32) :=
  if p1 < 0 then
  some 0
  else
  if (v 0 1) ≤ p1 then
  some 0
  else
  if 10 ≤ p1 then
  some 0
  else
  some 1
def f_X0_charge (v : xV) (p1 : Int32) (p2 : Int32) (p3 : Int32) : Option (xV) :=
  xb (f_X0_isHirer v p1) fun r_1 =>
  if r_1 = 0 then
  some v
  else
  if p3 < 0 then
  some v
  else
  if 9 ≤ p3 then
  some v
  else
  xg (xin p1 10) <|
  xg (xin p1 10) <|
  xl (upd2 v 3 p1.toNatClampNeg ((v 3 p1.toNatClampNeg) + p2)) fun v_8 =>
  xg (xin p3 9) <|
  xg (xin p3 9) <|
  xl (upd2 v_8 2 p3.toNatClampNeg ((v_8 2 p3.toNatClampNeg) + p2)) fun v_11 =>
  some v_11
def f_X0_sessionNumber (v : xV) (i : Nat) (p2 : Int32) : Option (Int32) :=
  xb (f_X1_indexOn v i p2) fun r_1 =>
  some (((v (6 + 2 * i) 0) * 20) + r_1)
def f_X0_standsAgainst (v : xV) (wv : xV) (i : Nat) : Option (Int32) :=
  if (v (6 + 2 * i) 1) = (wv 0 0) then
  if ((v (6 + 2 * i) 2) &&& (wv 0 1)) = 0 then
  some 0
  else
  if ((v (6 + 2 * i) 4) + 0) ≤ (wv 0 2) then
  some 0
  else
  if ((wv 0 3) + 0) ≤ (v (6 + 2 * i) 3) then
  some 0
  else
  some 1
  else
  xl (v 1 4) fun x_2 =>
  if ((v (6 + 2 * i) 2) &&& (wv 0 1)) = 0 then
  some 0
  else
  if ((v (6 + 2 * i) 4) + x_2) ≤ (wv 0 2) then
  some 0
  else
  if ((wv 0 3) + x_2) ≤ (v (6 + 2 * i) 3) then
  some 0
  else
  some 1
def L_X0_clashOn_16 (K_16 : (Option Nat) → Int32 → Option Int32) (v : xV) (wv : xV) (p1 : Int32) : Nat → (Option Nat) → Int32 → Option Int32
  | 0, _, _ => none
  | n + 1, o_1, x_2 =>
  if 12 ≤ x_2 then
  K_16 o_1 x_2
  else
  xg (xin x_2 12) <|
  xl x_2.toNatClampNeg fun i_5 =>
  xb (f_X1_isOn v i_5 p1) fun r_6 =>
  if r_6 = 0 then
  xl (x_2 + 1) fun x_9 =>
  L_X0_clashOn_16 K_16 v wv p1 n o_1 x_9
  else
  xb (f_X0_standsAgainst v wv i_5) fun r_10 =>
  if r_10 = 0 then
  xl (x_2 + 1) fun x_13 =>
  L_X0_clashOn_16 K_16 v wv p1 n o_1 x_13
  else
  xo o_1 (xl (x_2 + 1) fun x_15 =>
  L_X0_clashOn_16 K_16 v wv p1 n (some i_5) x_15) (fun i_14 => xg (i_14 < 12) <|
  xb (f_X1_isAheadOnDay v i_5 i_14) fun r_16 =>
  if r_16 = 0 then
  xl (x_2 + 1) fun x_19 =>
  L_X0_clashOn_16 K_16 v wv p1 n (some i_14) x_19
  else
  xl (x_2 + 1) fun x_20 =>
  L_X0_clashOn_16 K_16 v wv p1 n (some i_5) x_20)
def f_X0_clashOn (v : xV) (wv : xV) (p1 : Int32) : Option (Int32) :=
  L_X0_clashOn_16 (fun o_21 x_22 =>
  xo o_21 (some (-1)) (fun i_23 => xg (i_23 < 12) <|
  xb (f_X0_sessionNumber v i_23 p1) fun r_24 =>
  some r_24)) v wv p1 100000 none 0
def L_X0_clashOf_2 (K_2 : Int32 → Option Int32) (v : xV) (wv : xV) : Nat → Int32 → Option Int32
  | 0, _ => none
  | n + 1, x_1 =>
  if (wv 0 5) ≤ x_1 then
  K_2 x_1
  else
  xb (f_X0_clashOn v wv ((wv 0 4) + (x_1 * (wv 0 6)))) fun r_3 =>
  if r_3 = (-1) then
  xl (x_1 + 1) fun x_6 =>
  L_X0_clashOf_2 K_2 v wv n x_6
  else
  some r_3
def f_X0_clashOf (v : xV) (wv : xV) : Option (Int32) :=
  L_X0_clashOf_2 (fun x_7 =>
  some (-1)) v wv 100000 0
def f_X1_copyFrom (v : xV) (ov : xV) (i : Nat) (j : Nat) : Option (xV) :=
  xl (upd2 v (6 + 2 * i) 1 (ov (6 + 2 * j) 1)) fun v_1 =>
  xl (upd2 v_1 (6 + 2 * i) 2 (ov (6 + 2 * j) 2)) fun v_2 =>
  xl (upd2 v_2 (6 + 2 * i) 3 (ov (6 + 2 * j) 3)) fun v_3 =>
  xl (upd2 v_3 (6 + 2 * i) 4 (ov (6 + 2 * j) 4)) fun v_4 =>
  xl (upd2 v_4 (6 + 2 * i) 5 (ov (6 + 2 * j) 5)) fun v_5 =>
  xl (upd2 v_5 (6 + 2 * i) 6 (ov (6 + 2 * j) 6)) fun v_6 =>
  xl (upd2 v_6 (6 + 2 * i) 7 (ov (6 + 2 * j) 7)) fun v_7 =>
  xl (upd2 v_7 (6 + 2 * i) 8 (ov (6 + 2 * j) 8)) fun v_8 =>
  xl (upd2 v_8 (6 + 2 * i) 9 (ov (6 + 2 * j) 9)) fun v_9 =>
  xl (upd2 v_9 (6 + 2 * i) 10 (ov (6 + 2 * j) 10)) fun v_10 =>
  xl (upd2 v_10 (6 + 2 * i) 11 (ov (6 + 2 * j) 11)) fun v_11 =>
  xl (upd2 v_11 (6 + 2 * i) 12 (ov (6 + 2 * j) 12)) fun v_12 =>
  xg ((ov (6 + 2 * j) 13) = 0 ∨ (ov (6 + 2 * j) 13) = 1) <|
  xl (upd2 v_12 (6 + 2 * i) 13 (ov (6 + 2 * j) 13)) fun v_14 =>
  xl (xrow v_14 (7 + 2 * i) (fun j9 => if j9 < 32 then ov (7 + 2 * j) j9 else v_14 (7 + 2 * i) j9)) fun v_15 =>
  some v_15
def f_X3_copyFrom (v : xV) (ov : xV) (i : Nat) (j : Nat) : Option (xV) :=
  xl (upd2 v (31 + i) 1 (ov (31 + j) 1)) fun v_1 =>
  xl (upd2 v_1 (31 + i) 2 (ov (31 + j) 2)) fun v_2 =>
  some v_2
def L_X0_copyFrom_98 (K_98 : Int32 → xV → Option xV) (ov : xV) : Nat → Int32 → xV → Option xV
  | 0, _, _ => none
  | n + 1, x_8, v_9 =>
  if 12 ≤ x_8 then
  K_98 x_8 v_9
  else
  xg (xin x_8 12) <|
  xl x_8.toNatClampNeg fun i_12 =>
  xg (xin x_8 12) <|
  xl x_8.toNatClampNeg fun i_14 =>
  xb (f_X1_copyFrom v_9 ov i_12 i_14) fun v_15 =>
  xl (x_8 + 1) fun x_17 =>
  L_X0_copyFrom_98 K_98 ov n x_17 v_15
def L_X0_copyFrom_130 (K_130 : Int32 → xV → Option xV) (ov : xV) : Nat → Int32 → xV → Option xV
  | 0, _, _ => none
  | n + 1, x_20, v_21 =>
  if 6 ≤ x_20 then
  K_130 x_20 v_21
  else
  xg (xin x_20 6) <|
  xl x_20.toNatClampNeg fun i_24 =>
  xg (xin x_20 6) <|
  xl x_20.toNatClampNeg fun i_26 =>
  xb (f_X3_copyFrom v_21 ov i_24 i_26) fun v_27 =>
  xl (x_20 + 1) fun x_29 =>
  L_X0_copyFrom_130 K_130 ov n x_29 v_27
def f_X0_copyFrom (v : xV) (ov : xV) : Option (xV) :=
  xl (upd2 v 0 0 (ov 0 0)) fun v_1 =>
  xl (upd2 v_1 0 1 (ov 0 1)) fun v_2 =>
  xl (upd2 v_2 0 2 (ov 0 2)) fun v_3 =>
  xl (xrow v_3 1 (fun j9 => if j9 < 8 then ov 1 j9 else v_3 1 j9)) fun v_4 =>
  xl (xrow v_4 2 (fun j9 => if j9 < 9 then ov 2 j9 else v_4 2 j9)) fun v_5 =>
  xl (xrow v_5 3 (fun j9 => if j9 < 10 then ov 3 j9 else v_5 3 j9)) fun v_6 =>
  xl (xrow v_6 4 (fun j9 => if j9 < 10 then ov 4 j9 else v_6 4 j9)) fun v_7 =>
  L_X0_copyFrom_98 (fun x_18 v_19 =>
  L_X0_copyFrom_130 (fun x_30 v_31 =>
  some v_31) ov 100000 0 v_19) ov 100000 0 v_7
def f_X0_credit (v : xV) (p1 : Int32) (p2 : Int32) (p3 : Int32) : Option (xV) :=
  xb (f_X0_isHirer v p1) fun r_1 =>
  if r_1 = 0 then
  some v
  else
  if p3 < 0 then
  some v
  else
  if 9 ≤ p3 then
  some v
  else
  xg (xin p1 10) <|
  xg (xin p1 10) <|
  xl (upd2 v 4 p1.toNatClampNeg ((v 4 p1.toNatClampNeg) + p2)) fun v_8 =>
  xg (xin p3 9) <|
  xg (xin p3 9) <|
  xl (upd2 v_8 2 p3.toNatClampNeg ((v_8 2 p3.toNatClampNeg) + p2)) fun v_11 =>
  some v_11
def L_X0_faultsOf_14 (K_14 : Int32 → Int32 → Option Int32) (v : xV) (p1 : Int32) : Nat → Int32 → Int32 → Option Int32
  | 0, _, _ => none
  | n + 1, x_1, x_2 =>
  if 12 ≤ x_2 then
  K_14 x_1 x_2
  else
  xg (xin x_2 12) <|
  xl x_2.toNatClampNeg fun i_5 =>
  if (v (6 + 2 * i_5) 1) = p1 then
  xl (x_1 + (v (6 + 2 * i_5) 12)) fun x_9 =>
  xl (x_2 + 1) fun x_10 =>
  L_X0_faultsOf_14 K_14 v p1 n x_9 x_10
  else
  xl (x_1 + 0) fun x_7 =>
  xl (x_2 + 1) fun x_8 =>
  L_X0_faultsOf_14 K_14 v p1 n x_7 x_8
def f_X0_faultsOf (v : xV) (p1 : Int32) : Option (Int32) :=
  L_X0_faultsOf_14 (fun x_11 x_12 =>
  some x_11) v p1 100000 0 0
def f_X0_giveDepositBack (v : xV) (i : Nat) : Option (Int32 × xV) :=
  xl (v (6 + 2 * i) 11) fun x_1 =>
  xl (upd2 v (6 + 2 * i) 11 0) fun v_2 =>
  xl (upd2 v_2 (6 + 2 * i) 13 1) fun v_3 =>
  xl (upd2 v_3 2 3 ((v_3 2 3) - x_1)) fun v_4 =>
  xb (f_X0_credit v_4 (v_4 (6 + 2 * i) 1) x_1 6) fun v_5 =>
  some (x_1, v_5)
def f_X0_hireAt (v : xV) (p1 : Int32) : Option (Option Nat) :=
  if p1 < 0 then
  some none
  else
  if (v 0 2) ≤ p1 then
  some none
  else
  if 12 ≤ p1 then
  some none
  else
  xg (xin p1 12) <|
  xl p1.toNatClampNeg fun i_5 =>
  some (some i_5)
def f_X0_hireOfSession (v : xV) (p1 : Int32) : Option (Option Nat) :=
  if 0 ≤ p1 then
  xb (f_X0_hireAt v (p1 / 20)) fun o_2 =>
  xo o_2 (some none) (fun i_4 => xg (i_4 < 12) <|
  if (v (6 + 2 * i_4) 5) ≤ (p1 - p1 / 20 * 20) then
  some none
  else
  some (some i_4))
  else
  some none
def L_X0_hiresOf_14 (K_14 : Int32 → Int32 → Option Int32) (v : xV) (p1 : Int32) : Nat → Int32 → Int32 → Option Int32
  | 0, _, _ => none
  | n + 1, x_1, x_2 =>
  if 12 ≤ x_2 then
  K_14 x_1 x_2
  else
  xg (xin x_2 12) <|
  xl x_2.toNatClampNeg fun i_5 =>
  if (v (6 + 2 * i_5) 1) = p1 then
  xl (x_1 + 1) fun x_9 =>
  xl (x_2 + 1) fun x_10 =>
  L_X0_hiresOf_14 K_14 v p1 n x_9 x_10
  else
  xl (x_1 + 0) fun x_7 =>
  xl (x_2 + 1) fun x_8 =>
  L_X0_hiresOf_14 K_14 v p1 n x_7 x_8
def f_X0_hiresOf (v : xV) (p1 : Int32) : Option (Int32) :=
  L_X0_hiresOf_14 (fun x_11 x_12 =>
  some x_11) v p1 100000 0 0
def f_X0_isFull (v : xV) : Option (Int32) :=
  if (v 0 2) < 12 then
  some 0
  else
  some 1
def f_X0_keyAt (v : xV) (p1 : Int32) : Option (Option Nat) :=
  if p1 < 0 then
  some none
  else
  if 6 ≤ p1 then
  some none
  else
  xg (xin p1 6) <|
  xl p1.toNatClampNeg fun i_4 =>
  some (some i_4)
def L_X0_keysFor_14 (K_14 : Int32 → Int32 → Option Int32) (v : xV) (p1 : Int32) : Nat → Int32 → Int32 → Option Int32
  | 0, _, _ => none
  | n + 1, x_1, x_2 =>
  if 6 ≤ x_2 then
  K_14 x_1 x_2
  else
  xg (xin x_2 6) <|
  xl x_2.toNatClampNeg fun i_5 =>
  if (v (31 + i_5) 1) = p1 then
  xl (x_1 + 1) fun x_9 =>
  xl (x_2 + 1) fun x_10 =>
  L_X0_keysFor_14 K_14 v p1 n x_9 x_10
  else
  xl (x_1 + 0) fun x_7 =>
  xl (x_2 + 1) fun x_8 =>
  L_X0_keysFor_14 K_14 v p1 n x_7 x_8
def f_X0_keysFor (v : xV) (p1 : Int32) : Option (Int32) :=
  L_X0_keysFor_14 (fun x_11 x_12 =>
  some x_11) v p1 100000 0 0
def L_X0_keysOf_14 (K_14 : Int32 → Int32 → Option Int32) (v : xV) (p1 : Int32) : Nat → Int32 → Int32 → Option Int32
  | 0, _, _ => none
  | n + 1, x_1, x_2 =>
  if 12 ≤ x_2 then
  K_14 x_1 x_2
  else
  xg (xin x_2 12) <|
  xl x_2.toNatClampNeg fun i_5 =>
  if (v (6 + 2 * i_5) 1) = p1 then
  xb (f_X0_keysFor v (v (6 + 2 * i_5) 0)) fun r_9 =>
  xl (x_1 + r_9) fun x_11 =>
  xl (x_2 + 1) fun x_12 =>
  L_X0_keysOf_14 K_14 v p1 n x_11 x_12
  else
  xl (x_1 + 0) fun x_7 =>
  xl (x_2 + 1) fun x_8 =>
  L_X0_keysOf_14 K_14 v p1 n x_7 x_8
def f_X0_keysOf (v : xV) (p1 : Int32) : Option (Int32) :=
  L_X0_keysOf_14 (fun x_13 x_14 =>
  some x_13) v p1 100000 0 0
def f_X3_daysLate (v : xV) (i : Nat) (p1 : Int32) : Option (Int32) :=
  if (v (31 + i) 1) = (-1) then
  some 0
  else
  some (if 0 < (p1 - (v (31 + i) 2)) then (p1 - (v (31 + i) 2)) else 0)
def L_X0_lateKeys_13 (K_13 : Int32 → Int32 → Option Int32) (v : xV) : Nat → Int32 → Int32 → Option Int32
  | 0, _, _ => none
  | n + 1, x_1, x_2 =>
  if 6 ≤ x_2 then
  K_13 x_1 x_2
  else
  xg (xin x_2 6) <|
  xl x_2.toNatClampNeg fun i_5 =>
  xb (f_X3_daysLate v i_5 (v 0 0)) fun r_6 =>
  if r_6 ≤ 0 then
  xl (x_1 + 0) fun x_9 =>
  xl (x_2 + 1) fun x_10 =>
  L_X0_lateKeys_13 K_13 v n x_9 x_10
  else
  xl (x_1 + 1) fun x_11 =>
  xl (x_2 + 1) fun x_12 =>
  L_X0_lateKeys_13 K_13 v n x_11 x_12
def f_X0_lateKeys (v : xV) : Option (Int32) :=
  L_X0_lateKeys_13 (fun x_13 x_14 =>
  some x_13) v 100000 0 0
def L_X0_priceOfSession_35 (K_35 : Int32 → Int32 → Option Int32) (v : xV) (wv : xV) (x_1 : Int32) (x_2 : Int32) : Nat → Int32 → Int32 → Option Int32
  | 0, _, _ => none
  | n + 1, x_3, x_4 =>
  if 3 ≤ x_4 then
  K_35 x_3 x_4
  else
  if (((wv 0 1) >>> (x_4 &&& 31)) &&& 1) = 1 then
  xg (xin x_4 8) <|
  xl (((v 1 x_4.toNatClampNeg) * (v 1 3)) / 100) fun x_9 =>
  xg (xin x_4 8) <|
  xl (x_3 + (((v 1 x_4.toNatClampNeg) * x_1) + (x_9 * x_2))) fun x_11 =>
  xl (x_4 + 1) fun x_12 =>
  L_X0_priceOfSession_35 K_35 v wv x_1 x_2 n x_11 x_12
  else
  xl (x_4 + 1) fun x_7 =>
  L_X0_priceOfSession_35 K_35 v wv x_1 x_2 n x_3 x_7
def f_X0_priceOfSession (v : xV) (wv : xV) : Option (Int32) :=
  xl ((wv 0 3) - (wv 0 2)) fun x_1 =>
  xl (if 0 < ((wv 0 3) - (if (wv 0 2) < 18 then 18 else (wv 0 2))) then ((wv 0 3) - (if (wv 0 2) < 18 then 18 else (wv 0 2))) else 0) fun x_2 =>
  L_X0_priceOfSession_35 (fun x_13 x_14 =>
  some x_13) v wv x_1 x_2 100000 0 0
def f_X7_discountOf (p1 : Int32) : Option (Int32) :=
  if 4 ≤ p1 then
  if 10 ≤ p1 then
  some 20
  else
  some 10
  else
  some 0
def f_X0_priceOf (v : xV) (wv : xV) : Option (Int32) :=
  xb (f_X0_priceOfSession v wv) fun r_1 =>
  xl ((wv 0 5) * r_1) fun x_3 =>
  xb (f_X7_discountOf (wv 0 5)) fun r_4 =>
  some (x_3 - ((x_3 * r_4) / 100))
def f_X1_begin (v : xV) (wv : xV) (i : Nat) (p2 : Int32) (p3 : Int32) : Option (xV) :=
  xl (upd2 v (6 + 2 * i) 1 (wv 0 0)) fun v_1 =>
  xl (upd2 v_1 (6 + 2 * i) 2 (wv 0 1)) fun v_2 =>
  xl (upd2 v_2 (6 + 2 * i) 3 (wv 0 2)) fun v_3 =>
  xl (upd2 v_3 (6 + 2 * i) 4 (wv 0 3)) fun v_4 =>
  xl (upd2 v_4 (6 + 2 * i) 5 (wv 0 5)) fun v_5 =>
  xl (upd2 v_5 (6 + 2 * i) 6 (wv 0 4)) fun v_6 =>
  xl (upd2 v_6 (6 + 2 * i) 7 (wv 0 6)) fun v_7 =>
  xl (upd2 v_7 (6 + 2 * i) 8 p2) fun v_8 =>
  xl (upd2 v_8 (6 + 2 * i) 11 p3) fun v_9 =>
  some v_9
def f_X0_make (v : xV) (wv : xV) : Option (Int32 × xV) :=
  if (v 0 2) < 0 then
  some ((-2000000003), v)
  else
  if (v 0 2) < 12 then
  xb (f_X0_priceOf v wv) fun r_3 =>
  xl (v 1 5) fun x_5 =>
  xg (xin (v 0 2) 12) <|
  xl (v 0 2).toNatClampNeg fun i_7 =>
  xb (f_X1_begin v wv i_7 r_3 x_5) fun v_8 =>
  xl (upd2 v_8 0 2 ((v_8 0 2) + 1)) fun v_10 =>
  xb (f_X0_charge v_10 (wv 0 0) r_3 0) fun v_11 =>
  xb (f_X0_charge v_11 (wv 0 0) x_5 2) fun v_13 =>
  xl (upd2 v_13 2 3 ((v_13 2 3) + x_5)) fun v_15 =>
  some (((v_15 0 2) - 1), v_15)
  else
  some ((-2000000003), v)
def f_X0_takeFromDeposit (v : xV) (i : Nat) (p2 : Int32) (p3 : Int32) : Option (Int32 × xV) :=
  if p3 < 0 then
  some (0, v)
  else
  if p3 < 9 then
  xl (if (v (6 + 2 * i) 11) < p2 then (v (6 + 2 * i) 11) else p2) fun x_3 =>
  xl (upd2 v (6 + 2 * i) 11 ((v (6 + 2 * i) 11) - x_3)) fun v_4 =>
  xl (upd2 v_4 2 3 ((v_4 2 3) - x_3)) fun v_5 =>
  xg (xin p3 9) <|
  xg (xin p3 9) <|
  xl (upd2 v_5 2 p3.toNatClampNeg ((v_5 2 p3.toNatClampNeg) + x_3)) fun v_8 =>
  xb (f_X0_charge v_8 (v_8 (6 + 2 * i) 1) (p2 - x_3) 7) fun v_9 =>
  some (x_3, v_9)
  else
  some (0, v)
def L_X0_takeLateFees_10 (K_10 : Int32 → xV → Option xV) : Nat → Int32 → xV → Option xV
  | 0, _, _ => none
  | n + 1, x_1, v_2 =>
  if 6 ≤ x_1 then
  K_10 x_1 v_2
  else
  xg (xin x_1 6) <|
  xl x_1.toNatClampNeg fun i_5 =>
  xb (f_X0_hireAt v_2 (v_2 (31 + i_5) 1)) fun o_6 =>
  xo o_6 (xl (x_1 + 1) fun x_9 =>
  L_X0_takeLateFees_10 K_10  n x_9 v_2) (fun i_8 => xg (i_8 < 12) <|
  xb (f_X3_daysLate v_2 i_5 (v_2 0 0)) fun r_10 =>
  if r_10 ≤ 0 then
  xl (x_1 + 1) fun x_13 =>
  L_X0_takeLateFees_10 K_10  n x_13 v_2
  else
  xb2 (f_X0_takeFromDeposit v_2 i_8 (v_2 1 6) 5) fun r_14 v_15 =>
  xl (x_1 + 1) fun x_17 =>
  L_X0_takeLateFees_10 K_10  n x_17 v_15)
def f_X0_takeLateFees (v : xV) : Option (xV) :=
  L_X0_takeLateFees_10 (fun x_18 v_19 =>
  some v_19) 100000 0 v
def L_X0_passDay_13 (K_13 : Int32 → Int32 → xV → Option (Int32 × xV)) : Nat → Int32 → Int32 → xV → Option (Int32 × xV)
  | 0, _, _, _ => none
  | n + 1, x_1, x_2, v_3 =>
  if 12 ≤ x_2 then
  K_13 x_1 x_2 v_3
  else
  xg (xin x_2 12) <|
  xl x_2.toNatClampNeg fun i_6 =>
  xb (f_X1_indexOn v_3 i_6 (v_3 0 0)) fun r_7 =>
  if r_7 = (-1) then
  xl (x_2 + 1) fun x_10 =>
  L_X0_passDay_13 K_13  n x_1 x_10 v_3
  else
  xl (upd2 v_3 (6 + 2 * i_6) 9 ((v_3 (6 + 2 * i_6) 9) ||| ((1 : Int32) <<< (r_7 &&& 31)))) fun v_11 =>
  xl (x_1 + 1) fun x_12 =>
  xl (x_2 + 1) fun x_13 =>
  L_X0_passDay_13 K_13  n x_12 x_13 v_11
def f_X0_passDay (v : xV) : Option (Int32 × xV) :=
  L_X0_passDay_13 (fun x_14 x_15 v_16 =>
  xl (upd2 v_16 0 0 ((v_16 0 0) + 1)) fun v_17 =>
  xb (f_X0_takeLateFees v_17) fun v_18 =>
  some (x_14, v_18)) 100000 0 0 v
def f_X1_plannedSessions (v : xV) (i : Nat) : Option (Int32) :=
  xb (f_J6_bitCount_0f7a4 ((v (6 + 2 * i) 9) ||| (v (6 + 2 * i) 10))) fun r_1 =>
  some ((v (6 + 2 * i) 5) - r_1)
def L_X0_plannedOf_14 (K_14 : Int32 → Int32 → Option Int32) (v : xV) (p1 : Int32) : Nat → Int32 → Int32 → Option Int32
  | 0, _, _ => none
  | n + 1, x_1, x_2 =>
  if 12 ≤ x_2 then
  K_14 x_1 x_2
  else
  xg (xin x_2 12) <|
  xl x_2.toNatClampNeg fun i_5 =>
  if (v (6 + 2 * i_5) 1) = p1 then
  xb (f_X1_plannedSessions v i_5) fun r_9 =>
  xl (x_1 + r_9) fun x_11 =>
  xl (x_2 + 1) fun x_12 =>
  L_X0_plannedOf_14 K_14 v p1 n x_11 x_12
  else
  xl (x_1 + 0) fun x_7 =>
  xl (x_2 + 1) fun x_8 =>
  L_X0_plannedOf_14 K_14 v p1 n x_7 x_8
def f_X0_plannedOf (v : xV) (p1 : Int32) : Option (Int32) :=
  L_X0_plannedOf_14 (fun x_13 x_14 =>
  some x_13) v p1 100000 0 0
def f_X1_roomHoursHeld (v : xV) (i : Nat) : Option (Int32) :=
  xb (f_J6_bitCount_0f7a4 (v (6 + 2 * i) 9)) fun r_1 =>
  xb (f_J6_bitCount_0f7a4 (v (6 + 2 * i) 2)) fun r_3 =>
  some ((r_1 * r_3) * ((v (6 + 2 * i) 4) - (v (6 + 2 * i) 3)))
def L_X0_roomHoursHeld_13 (K_13 : Int32 → Int32 → Option Int32) (v : xV) : Nat → Int32 → Int32 → Option Int32
  | 0, _, _ => none
  | n + 1, x_1, x_2 =>
  if 12 ≤ x_2 then
  K_13 x_1 x_2
  else
  xg (xin x_2 12) <|
  xl x_2.toNatClampNeg fun i_5 =>
  xb (f_X1_roomHoursHeld v i_5) fun r_6 =>
  xl (x_1 + r_6) fun x_8 =>
  xl (x_2 + 1) fun x_9 =>
  L_X0_roomHoursHeld_13 K_13 v n x_8 x_9
def f_X0_roomHoursHeld (v : xV) : Option (Int32) :=
  L_X0_roomHoursHeld_13 (fun x_10 x_11 =>
  some x_10) v 100000 0 0
def L_X0_sessionInOrder_12 (K_12 : Int32 → Option Int32) (v : xV) (p1 : Int32) (p2 : Int32) : Nat → Int32 → Option Int32
  | 0, _ => none
  | n + 1, x_1 =>
  if 12 ≤ x_1 then
  K_12 x_1
  else
  xg (xin x_1 12) <|
  xl x_1.toNatClampNeg fun i_4 =>
  xb (f_X1_isOn v i_4 p1) fun r_5 =>
  if r_5 = 0 then
  xl (x_1 + 1) fun x_8 =>
  L_X0_sessionInOrder_12 K_12 v p1 p2 n x_8
  else
  xb (f_X0_aheadOnDay v i_4 p1) fun r_9 =>
  if r_9 = p2 then
  xb (f_X0_sessionNumber v i_4 p1) fun r_13 =>
  some r_13
  else
  xl (x_1 + 1) fun x_12 =>
  L_X0_sessionInOrder_12 K_12 v p1 p2 n x_12
def f_X0_sessionInOrder (v : xV) (p1 : Int32) (p2 : Int32) : Option (Int32) :=
  L_X0_sessionInOrder_12 (fun x_15 =>
  some (-2000000004)) v p1 p2 100000 0
def L_X0_sessionsNotCancelled_13 (K_13 : Int32 → Int32 → Option Int32) (v : xV) : Nat → Int32 → Int32 → Option Int32
  | 0, _, _ => none
  | n + 1, x_1, x_2 =>
  if 12 ≤ x_2 then
  K_13 x_1 x_2
  else
  xg (xin x_2 12) <|
  xl x_2.toNatClampNeg fun i_5 =>
  xb (f_J6_bitCount_0f7a4 (v (6 + 2 * i_5) 10)) fun r_6 =>
  xl (x_1 + ((v (6 + 2 * i_5) 5) - r_6)) fun x_8 =>
  xl (x_2 + 1) fun x_9 =>
  L_X0_sessionsNotCancelled_13 K_13 v n x_8 x_9
def f_X0_sessionsNotCancelled (v : xV) : Option (Int32) :=
  L_X0_sessionsNotCancelled_13 (fun x_10 x_11 =>
  some x_10) v 100000 0 0
def L_X0_sessionsOn_14 (K_14 : Int32 → Int32 → Option Int32) (v : xV) (p1 : Int32) : Nat → Int32 → Int32 → Option Int32
  | 0, _, _ => none
  | n + 1, x_1, x_2 =>
  if 12 ≤ x_2 then
  K_14 x_1 x_2
  else
  xg (xin x_2 12) <|
  xl x_2.toNatClampNeg fun i_5 =>
  xb (f_X1_isOn v i_5 p1) fun r_6 =>
  if r_6 = 0 then
  xl (x_1 + 0) fun x_9 =>
  xl (x_2 + 1) fun x_10 =>
  L_X0_sessionsOn_14 K_14 v p1 n x_9 x_10
  else
  xl (x_1 + 1) fun x_11 =>
  xl (x_2 + 1) fun x_12 =>
  L_X0_sessionsOn_14 K_14 v p1 n x_11 x_12
def f_X0_sessionsOn (v : xV) (p1 : Int32) : Option (Int32) :=
  L_X0_sessionsOn_14 (fun x_13 x_14 =>
  some x_13) v p1 100000 0 0
def f_X1_addFault (v : xV) (i : Nat) (p1 : Int32) (p2 : Int32) (p3 : Int32) (p4 : Int32) : Option (xV) :=
  xl ((v (6 + 2 * i) 12) * 4) fun x_1 =>
  if x_1 < 0 then
  some v
  else
  if (x_1 + 4) ≤ 32 then
  xg (xin x_1 32) <|
  xl (upd2 v (7 + 2 * i) x_1.toNatClampNeg p1) fun v_5 =>
  xg (xin (x_1 + 1) 32) <|
  xl (upd2 v_5 (7 + 2 * i) (x_1 + 1).toNatClampNeg p2) fun v_7 =>
  xg (xin (x_1 + 2) 32) <|
  xl (upd2 v_7 (7 + 2 * i) (x_1 + 2).toNatClampNeg p3) fun v_9 =>
  xg (xin (x_1 + 3) 32) <|
  xl (upd2 v_9 (7 + 2 * i) (x_1 + 3).toNatClampNeg p4) fun v_11 =>
  xl (upd2 v_11 (6 + 2 * i) 12 ((v_11 (6 + 2 * i) 12) + 1)) fun v_12 =>
  some v_12
  else
  some v
def f_X1_canHaveFault (v : xV) (i : Nat) (p1 : Int32) : Option (Int32) :=
  if p1 = 1 then
  if ((v (6 + 2 * i) 2) &&& 2) = 0 then
  some 0
  else
  some 1
  else
  some 1
def f_X1_faultProperty (v : xV) (i : Nat) (p1 : Int32) (p2 : Int32) : Option (Int32) :=
  if p1 < 0 then
  some (-2000000004)
  else
  if (v (6 + 2 * i) 12) ≤ p1 then
  some (-2000000004)
  else
  if 8 ≤ p1 then
  some (-2000000004)
  else
  if p2 < 0 then
  some (-2000000004)
  else
  if p2 < 4 then
  xg (xin ((p1 * 4) + p2) 32) <|
  some (v (7 + 2 * i) ((p1 * 4) + p2).toNatClampNeg)
  else
  some (-2000000004)
def L_X1_timesLeftLate_4 (K_4 : Int32 → Int32 → Option Int32) (v : xV) (i : Nat) : Nat → Int32 → Int32 → Option Int32
  | 0, _, _ => none
  | n + 1, x_1, x_2 =>
  if (v (6 + 2 * i) 12) ≤ x_2 then
  K_4 x_1 x_2
  else
  xb (f_X1_faultProperty v i x_2 0) fun r_4 =>
  if r_4 = 3 then
  xl (x_1 + 1) fun x_8 =>
  xl (x_2 + 1) fun x_9 =>
  L_X1_timesLeftLate_4 K_4 v i n x_8 x_9
  else
  xl (x_2 + 1) fun x_7 =>
  L_X1_timesLeftLate_4 K_4 v i n x_1 x_7
def f_X1_timesLeftLate (v : xV) (i : Nat) : Option (Int32) :=
  L_X1_timesLeftLate_4 (fun x_10 x_11 =>
  some x_10) v i 100000 0 0
def f_X1_costOfFault (v : xV) (i : Nat) (p1 : Int32) : Option (Int32) :=
  if p1 = 0 then
  xb (f_J6_bitCount_0f7a4 (v (6 + 2 * i) 2)) fun r_2 =>
  some (1000 * r_2)
  else if p1 = 1 then
  some 2500
  else if p1 = 2 then
  some 4000
  else 
  xb (f_X1_timesLeftLate v i) fun r_6 =>
  some (2000 + (500 * r_6))
def f_X1_dayOf (v : xV) (i : Nat) (p1 : Int32) : Option (Int32) :=
  some ((v (6 + 2 * i) 6) + (p1 * (v (6 + 2 * i) 7)))
def f_X1_stateOf (v : xV) (i : Nat) (p1 : Int32) : Option (Int32) :=
  if (((v (6 + 2 * i) 9) >>> (p1 &&& 31)) &&& 1) = 1 then
  some 1
  else
  if (((v (6 + 2 * i) 10) >>> (p1 &&& 31)) &&& 1) = 1 then
  some 2
  else
  some 0
def L_X1_lastPlannedDay_7 (K_7 : Int32 → Option Int32) (v : xV) (i : Nat) : Nat → Int32 → Option Int32
  | 0, _ => none
  | n + 1, x_2 =>
  if x_2 < 0 then
  K_7 x_2
  else
  xb (f_X1_stateOf v i x_2) fun r_4 =>
  if r_4 = 0 then
  xb (f_X1_dayOf v i x_2) fun r_8 =>
  some r_8
  else
  xl (x_2 + (-1)) fun x_7 =>
  L_X1_lastPlannedDay_7 K_7 v i n x_7
def f_X1_lastPlannedDay (v : xV) (i : Nat) : Option (Int32) :=
  xl ((v (6 + 2 * i) 5) - 1) fun x_1 =>
  L_X1_lastPlannedDay_7 (fun x_10 =>
  some (-1)) v i 100000 x_1
def f_X1_property (v : xV) (i : Nat) (p1 : Int32) : Option (Int32) :=
  if p1 = 0 then
  some (v (6 + 2 * i) 1)
  else if p1 = 1 then
  some (v (6 + 2 * i) 2)
  else if p1 = 2 then
  some (v (6 + 2 * i) 3)
  else if p1 = 3 then
  some (v (6 + 2 * i) 4)
  else if p1 = 4 then
  some (v (6 + 2 * i) 5)
  else if p1 = 5 then
  some (v (6 + 2 * i) 6)
  else if p1 = 6 then
  some (v (6 + 2 * i) 7)
  else if p1 = 7 then
  some (v (6 + 2 * i) 8)
  else if p1 = 8 then
  xb (f_X7_discountOf (v (6 + 2 * i) 5)) fun r_10 =>
  some r_10
  else if p1 = 9 then
  xb (f_X1_plannedSessions v i) fun r_13 =>
  some r_13
  else if p1 = 10 then
  xb (f_J6_bitCount_0f7a4 (v (6 + 2 * i) 9)) fun r_16 =>
  some r_16
  else if p1 = 11 then
  xb (f_J6_bitCount_0f7a4 (v (6 + 2 * i) 10)) fun r_19 =>
  some r_19
  else if p1 = 12 then
  some (v (6 + 2 * i) 11)
  else if p1 = 13 then
  some (v (6 + 2 * i) 12)
  else if p1 = 14 then
  some (-2000000001)
  else if p1 = 15 then
  if (v (6 + 2 * i) 13) = 0 then
  some 0
  else
  some 1
  else 
  some (-2000000001)
def f_X1_shareOf (v : xV) (i : Nat) (p1 : Int32) : Option (Int32) :=
  if 1 ≤ (v (6 + 2 * i) 5) then
  xg (¬ (v (6 + 2 * i) 5) = 0) <|
  xg (¬ (v (6 + 2 * i) 5) = 0) <|
  if ((v (6 + 2 * i) 8) - (v (6 + 2 * i) 8) / (v (6 + 2 * i) 5) * (v (6 + 2 * i) 5)) ≤ p1 then
  some (((v (6 + 2 * i) 8) / (v (6 + 2 * i) 5)) + 0)
  else
  some (((v (6 + 2 * i) 8) / (v (6 + 2 * i) 5)) + 1)
  else
  some 0
def f_X1_refundOf (v : xV) (i : Nat) (p1 : Int32) (p2 : Int32) : Option (Int32) :=
  xb (f_X1_dayOf v i p1) fun r_1 =>
  xl (r_1 - p2) fun x_3 =>
  if x_3 < 14 then
  if x_3 < 7 then
  some 0
  else
  xb (f_X1_shareOf v i p1) fun r_6 =>
  some (r_6 / 2)
  else
  xb (f_X1_shareOf v i p1) fun r_8 =>
  some r_8
def L_X2_dropOldest_9 (K_9 : Int32 → xV → Option xV) : Nat → Int32 → xV → Option xV
  | 0, _, _ => none
  | n + 1, x_4, hv_5 =>
  if 4 ≤ x_4 then
  K_9 x_4 hv_5
  else
  xg (xin x_4 4) <|
  xl x_4.toNatClampNeg fun i_8 =>
  xl (hv_5 1 i_8).toNatClampNeg fun i_9 => xg (i_9 < 4) <|
  xg (xin (x_4 - 1) 4) <|
  xl (upd2 hv_5 1 (x_4 - 1).toNatClampNeg (hv_5 1 i_8)) fun hv_11 =>
  xl (x_4 + 1) fun x_12 =>
  L_X2_dropOldest_9 K_9  n x_12 hv_11
def f_X2_dropOldest (hv : xV) (kv : Nat → xV) : Option (xV) :=
  xg (xin 0 4) <|
  xl (0 : Int32).toNatClampNeg fun i_2 =>
  xl (hv 1 i_2).toNatClampNeg fun i_3 => xg (i_3 < 4) <|
  L_X2_dropOldest_9 (fun x_13 hv_14 =>
  xl (upd2 hv_14 1 3 (hv 1 i_2)) fun hv_15 =>
  xl (upd2 hv_15 0 1 ((hv_15 0 1) - 1)) fun hv_16 =>
  some hv_16) 100000 1 hv
def f_X2_restore (hv : xV) (kv : Nat → xV) (v : xV) : Option (xV × xV) :=
  if (hv 0 1) < 1 then
  some (hv, v)
  else
  if 4 < (hv 0 1) then
  some (hv, v)
  else
  xl (upd2 hv 0 1 ((hv 0 1) - 1)) fun hv_3 =>
  xg (xin (hv_3 0 1) 4) <|
  xl (hv_3 0 1).toNatClampNeg fun i_5 =>
  xl (hv_3 1 i_5).toNatClampNeg fun i_6 => xg (i_6 < 4) <|
  xb (f_X0_copyFrom v (kv i_6)) fun v_7 =>
  some (hv_3, v_7)
def f_X2_save (hv : xV) (kv : Nat → xV) (v : xV) : Option (xV × (Nat → xV)) :=
  if (hv 0 1) < 4 then
  if (hv 0 1) < 0 then
  some (hv, kv)
  else
  if 4 ≤ (hv 0 1) then
  some (hv, kv)
  else
  xg (xin (hv 0 1) 4) <|
  xl (hv 0 1).toNatClampNeg fun i_5 =>
  xl (hv 1 i_5).toNatClampNeg fun i_6 => xg (i_6 < 4) <|
  xb (f_X0_copyFrom (kv i_6) v) fun v_7 =>
  xl (xup kv i_6 v_7) fun k_9 =>
  xl (upd2 hv 0 1 ((hv 0 1) + 1)) fun hv_10 =>
  some (hv_10, k_9)
  else
  xb (f_X2_dropOldest hv kv) fun hv_11 =>
  if (hv_11 0 1) < 0 then
  some (hv_11, kv)
  else
  if 4 ≤ (hv_11 0 1) then
  some (hv_11, kv)
  else
  xg (xin (hv_11 0 1) 4) <|
  xl (hv_11 0 1).toNatClampNeg fun i_16 =>
  xl (hv_11 1 i_16).toNatClampNeg fun i_17 => xg (i_17 < 4) <|
  xb (f_X0_copyFrom (kv i_17) v) fun v_18 =>
  xl (xup kv i_17 v_18) fun k_20 =>
  xl (upd2 hv_11 0 1 ((hv_11 0 1) + 1)) fun hv_21 =>
  some (hv_21, k_20)
def f_X4_append (tv : xV) (p1 : Int32) : Option (Int32 × xV) :=
  if (tv 0 1) < 0 then
  some (0, tv)
  else
  if (tv 0 1) < 80 then
  xg (xin (tv 0 1) 80) <|
  xl (upd2 tv 1 (tv 0 1).toNatClampNeg p1) fun tv_4 =>
  xl (upd2 tv_4 0 1 ((tv_4 0 1) + 1)) fun tv_5 =>
  some (1, tv_5)
  else
  some (0, tv)
def f_X4_here (tv : xV) : Option (Int32) :=
  if (tv 0 2) < 0 then
  some (-1)
  else
  if (tv 0 1) ≤ (tv 0 2) then
  some (-1)
  else
  if 80 ≤ (tv 0 2) then
  some (-1)
  else
  xg (xin (tv 0 2) 80) <|
  some (tv 1 (tv 0 2).toNatClampNeg)
def f_X4_isDigitHere (tv : xV) : Option (Int32) :=
  xb (f_X4_here tv) fun r_1 =>
  if r_1 < 48 then
  some 0
  else
  xb (f_X4_here tv) fun r_4 =>
  if 57 < r_4 then
  some 0
  else
  some 1
def f_X4_isRead (tv : xV) : Option (Int32) :=
  if (tv 0 2) < (tv 0 1) then
  some 0
  else
  some 1
def L_X4_readNumber_4 (K_4 : Int32 → Int32 → xV → Option (Int32 × xV)) (p1 : Int32) : Nat → Int32 → Int32 → xV → Option (Int32 × xV)
  | 0, _, _, _ => none
  | n + 1, x_1, x_2, tv_3 =>
  if p1 ≤ x_2 then
  K_4 x_1 x_2 tv_3
  else
  xb (f_X4_isDigitHere tv_3) fun r_5 =>
  if r_5 = 0 then
  K_4 x_1 x_2 tv_3
  else
  xb (f_X4_here tv_3) fun r_8 =>
  xl (((10 * (if x_1 < 0 then 0 else x_1)) + r_8) - 48) fun x_10 =>
  xl (upd2 tv_3 0 2 ((tv_3 0 2) + 1)) fun tv_11 =>
  xl (x_2 + 1) fun x_12 =>
  L_X4_readNumber_4 K_4 p1 n x_10 x_12 tv_11
def f_X4_readNumber (tv : xV) (p1 : Int32) : Option (Int32 × xV) :=
  L_X4_readNumber_4 (fun x_13 x_14 tv_15 =>
  some (x_13, tv_15)) p1 100000 (-1) 0 tv
def f_X4_skip (tv : xV) (p1 : Int32) : Option (Int32 × xV) :=
  xb (f_X4_here tv) fun r_1 =>
  if r_1 = p1 then
  xl (upd2 tv 0 2 ((tv 0 2) + 1)) fun tv_4 =>
  some (1, tv_4)
  else
  some (0, tv)
def f_X4_readRooms (tv : xV) : Option (Int32 × xV) :=
  xb2 (f_X4_skip tv 104) fun r_1 tv_2 =>
  if r_1 = 0 then
  xb2 (f_X4_skip tv_2 107) fun r_5 tv_6 =>
  if r_5 = 0 then
  xl (0 ||| 0) fun x_9 =>
  xb2 (f_X4_skip tv_6 109) fun r_10 tv_11 =>
  if r_10 = 0 then
  xl (x_9 ||| 0) fun x_14 =>
  some (x_14, tv_11)
  else
  xl (x_9 ||| 4) fun x_15 =>
  some (x_15, tv_11)
  else
  xl (0 ||| 2) fun x_16 =>
  xb2 (f_X4_skip tv_6 109) fun r_17 tv_18 =>
  if r_17 = 0 then
  xl (x_16 ||| 0) fun x_21 =>
  some (x_21, tv_18)
  else
  xl (x_16 ||| 4) fun x_22 =>
  some (x_22, tv_18)
  else
  xb2 (f_X4_skip tv_2 107) fun r_23 tv_24 =>
  if r_23 = 0 then
  xl (1 ||| 0) fun x_27 =>
  xb2 (f_X4_skip tv_24 109) fun r_28 tv_29 =>
  if r_28 = 0 then
  xl (x_27 ||| 0) fun x_32 =>
  some (x_32, tv_29)
  else
  xl (x_27 ||| 4) fun x_33 =>
  some (x_33, tv_29)
  else
  xl (1 ||| 2) fun x_34 =>
  xb2 (f_X4_skip tv_24 109) fun r_35 tv_36 =>
  if r_35 = 0 then
  xl (x_34 ||| 0) fun x_39 =>
  some (x_39, tv_36)
  else
  xl (x_34 ||| 4) fun x_40 =>
  some (x_40, tv_36)
def f_X4_readSeries (tv : xV) (wv : xV) : Option (Int32 × xV × xV) :=
  xl (upd2 wv 0 5 1) fun wv_1 =>
  xl (upd2 wv_1 0 6 1) fun wv_2 =>
  xb2 (f_X4_skip tv 120) fun r_3 tv_4 =>
  if r_3 = 0 then
  some (1, tv_4, wv_2)
  else
  xb2 (f_X4_readNumber tv_4 3) fun r_7 tv_8 =>
  xl (upd2 wv_2 0 5 r_7) fun wv_10 =>
  if (wv_10 0 5) = (-1) then
  some (0, tv_8, wv_10)
  else
  xb2 (f_X4_skip tv_8 43) fun r_12 tv_13 =>
  if r_12 = 0 then
  some (0, tv_13, wv_10)
  else
  xb2 (f_X4_readNumber tv_13 3) fun r_16 tv_17 =>
  xl (upd2 wv_10 0 6 r_16) fun wv_19 =>
  if (wv_19 0 6) = (-1) then
  some (0, tv_17, wv_19)
  else
  some (1, tv_17, wv_19)
def f_X4_readHire (tv : xV) (wv : xV) : Option (Int32 × xV × xV) :=
  xb2 (f_X4_readNumber tv 1) fun r_1 tv_2 =>
  xl (upd2 wv 0 0 r_1) fun wv_4 =>
  if (wv_4 0 0) = (-1) then
  some (0, tv_2, wv_4)
  else
  xb2 (f_X4_skip tv_2 58) fun r_6 tv_7 =>
  if r_6 = 0 then
  some (0, tv_7, wv_4)
  else
  xb2 (f_X4_readNumber tv_7 3) fun r_10 tv_11 =>
  xl (upd2 wv_4 0 4 r_10) fun wv_13 =>
  if (wv_13 0 4) = (-1) then
  some (0, tv_11, wv_13)
  else
  xb2 (f_X4_skip tv_11 64) fun r_15 tv_16 =>
  if r_15 = 0 then
  some (0, tv_16, wv_13)
  else
  xb2 (f_X4_readNumber tv_16 3) fun r_19 tv_20 =>
  xl (upd2 wv_13 0 2 r_19) fun wv_22 =>
  if (wv_22 0 2) = (-1) then
  some (0, tv_20, wv_22)
  else
  xb2 (f_X4_skip tv_20 45) fun r_24 tv_25 =>
  if r_24 = 0 then
  some (0, tv_25, wv_22)
  else
  xb2 (f_X4_readNumber tv_25 3) fun r_28 tv_29 =>
  xl (upd2 wv_22 0 3 r_28) fun wv_31 =>
  if (wv_31 0 3) = (-1) then
  some (0, tv_29, wv_31)
  else
  xb2 (f_X4_skip tv_29 47) fun r_33 tv_34 =>
  if r_33 = 0 then
  some (0, tv_34, wv_31)
  else
  xb2 (f_X4_readRooms tv_34) fun r_37 tv_38 =>
  xl (upd2 wv_31 0 1 r_37) fun wv_40 =>
  if (wv_40 0 1) = 0 then
  some (0, tv_38, wv_40)
  else
  xb3 (f_X4_readSeries tv_38 wv_40) fun r_42 tv_43 wv_44 =>
  if r_42 = 0 then
  some (0, tv_43, wv_44)
  else
  xb2 (f_X4_skip tv_43 59) fun r_47 tv_48 =>
  if r_47 = 0 then
  some (0, tv_48, wv_44)
  else
  some (1, tv_48, wv_44)
def f_X6_isInRange (wv : xV) (p1 : Int32) : Option (Int32) :=
  if (wv 0 4) < p1 then
  some 0
  else
  if 364 < (wv 0 4) then
  some 0
  else
  if (wv 0 2) < 0 then
  some 0
  else
  if (wv 0 3) ≤ (wv 0 2) then
  some 0
  else
  if 24 < (wv 0 3) then
  some 0
  else
  if (wv 0 5) < 1 then
  some 0
  else
  if 20 < (wv 0 5) then
  some 0
  else
  if (wv 0 6) < 1 then
  some 0
  else
  if 60 < (wv 0 6) then
  some 0
  else
  some 1
def f_X6_lastDay (wv : xV) : Option (Int32) :=
  some ((wv 0 4) + (((wv 0 5) - 1) * (wv 0 6)))
def f_X5_reasonAgainst (rv : xV) (v : xV) (fv : xV) : Option (Int32 × xV) :=
  xb (f_X0_isHirer v (fv 0 0)) fun r_1 =>
  if r_1 = 0 then
  some (2, rv)
  else
  xb (f_X6_isInRange fv (v 0 0)) fun r_4 =>
  if r_4 = 0 then
  some (3, rv)
  else
  xb (f_X6_lastDay fv) fun r_7 =>
  if r_7 ≤ 364 then
  xb (f_X0_clashOf v fv) fun r_10 =>
  xl (upd2 rv 0 4 r_10) fun rv_12 =>
  if (rv_12 0 4) = (-1) then
  xb (f_X0_isFull v) fun r_14 =>
  if r_14 = 0 then
  some (0, rv_12)
  else
  some (5, rv_12)
  else
  some (4, rv_12)
  else
  some (3, rv)
def L_X5_run_25 (K_25 : Int32 → xV → xV → xV → xV → Option (xV × xV × xV × xV)) : Nat → Int32 → xV → xV → xV → xV → Option (xV × xV × xV × xV)
  | 0, _, _, _, _, _ => none
  | n + 1, x_6, rv_7, vt_8, fv_9, tv_10 =>
  if 80 ≤ x_6 then
  K_25 x_6 rv_7 vt_8 fv_9 tv_10
  else
  xb (f_X4_isRead tv_10) fun r_12 =>
  if r_12 = 0 then
  xl (upd2 rv_7 0 2 (tv_10 0 2)) fun rv_15 =>
  xb3 (f_X4_readHire tv_10 fv_9) fun r_16 tv_17 fv_18 =>
  if r_16 = 0 then
  xl (upd2 rv_15 0 3 1) fun rv_21 =>
  if (rv_21 0 3) = 0 then
  xb2 (f_X0_make vt_8 fv_18) fun r_23 vt_24 =>
  xl (upd2 rv_21 0 5 ((rv_21 0 5) + 1)) fun rv_26 =>
  xl (x_6 + 1) fun x_27 =>
  L_X5_run_25 K_25  n x_27 rv_26 vt_24 fv_18 tv_17
  else
  some (rv_21, vt_8, fv_18, tv_17)
  else
  xb2 (f_X5_reasonAgainst rv_15 vt_8 fv_18) fun r_28 rv_29 =>
  xl (upd2 rv_29 0 3 r_28) fun rv_31 =>
  if (rv_31 0 3) = 0 then
  xb2 (f_X0_make vt_8 fv_18) fun r_33 vt_34 =>
  xl (upd2 rv_31 0 5 ((rv_31 0 5) + 1)) fun rv_36 =>
  xl (x_6 + 1) fun x_37 =>
  L_X5_run_25 K_25  n x_37 rv_36 vt_34 fv_18 tv_17
  else
  some (rv_31, vt_8, fv_18, tv_17)
  else
  K_25 x_6 rv_7 vt_8 fv_9 tv_10
def f_X5_run (rv : xV) (vt : xV) (fv : xV) (v : xV) (tv : xV) : Option (xV × xV × xV × xV) :=
  xb (f_X0_copyFrom vt v) fun vt_1 =>
  xl (upd2 rv 0 3 0) fun rv_3 =>
  xl (upd2 rv_3 0 5 0) fun rv_4 =>
  xl (upd2 tv 0 2 0) fun tv_5 =>
  L_X5_run_25 (fun x_38 rv_39 vt_40 fv_41 tv_42 =>
  some (rv_39, vt_40, fv_41, tv_42)) 100000 0 rv_4 vt_1 fv tv_5
def f_X6_takeHours (wv : xV) (p1 : Int32) : Option (xV) :=
  if 0 ≤ p1 then
  xl (upd2 wv 0 2 (p1 / 100)) fun wv_2 =>
  if 0 ≤ p1 then
  xl (upd2 wv_2 0 3 (p1 - p1 / 100 * 100)) fun wv_4 =>
  some wv_4
  else
  xl (upd2 wv_2 0 3 (-1)) fun wv_5 =>
  some wv_5
  else
  xl (upd2 wv 0 2 (-1)) fun wv_6 =>
  if 0 ≤ p1 then
  xl (upd2 wv_6 0 3 (p1 - p1 / 100 * 100)) fun wv_8 =>
  some wv_8
  else
  xl (upd2 wv_6 0 3 (-1)) fun wv_9 =>
  some wv_9
def f_X6_takeSeries (wv : xV) (p1 : Int32) (p2 : Int32) (p3 : Int32) : Option (xV) :=
  xl (upd2 wv 0 4 p1) fun wv_1 =>
  xl (upd2 wv_1 0 5 p2) fun wv_2 =>
  xl (upd2 wv_2 0 6 p3) fun wv_3 =>
  some wv_3
def f_X7_addHirer (dv : xV) (v : xV) (hv : xV) (kv : Nat → xV) : Option (Int32 × xV × xV × (Nat → xV)) :=
  if (v 0 1) < 10 then
  xb2 (f_X2_save hv kv v) fun hv_2 kv_3 =>
  xl (upd2 v 0 1 ((v 0 1) + 1)) fun v_5 =>
  some (((v_5 0 1) - 1), v_5, hv_2, kv_3)
  else
  some ((-2000000003), v, hv, kv)
def f_X7_areRooms (p1 : Int32) : Option (Int32) :=
  if p1 < 1 then
  some 0
  else
  if 7 < p1 then
  some 0
  else
  some 1
def f_X7_bringBack (dv : xV) (v : xV) (hv : xV) (kv : Nat → xV) (p1 : Int32) : Option (Int32 × xV × xV × (Nat → xV)) :=
  xb (f_X0_keyAt v p1) fun o_1 =>
  xo o_1 (some ((-2000000001), v, hv, kv)) (fun i_3 => xg (i_3 < 6) <|
  if (v (31 + i_3) 1) = (-1) then
  some ((-2000000002), v, hv, kv)
  else
  xb2 (f_X2_save hv kv v) fun hv_5 kv_6 =>
  xb (f_X3_daysLate v i_3 (v 0 0)) fun r_8 =>
  xl (upd2 v (31 + i_3) 1 (-1)) fun v_10 =>
  some (r_8, v_10, hv_5, kv_6))
def f_X7_cancel (dv : xV) (v : xV) (hv : xV) (kv : Nat → xV) (p1 : Int32) : Option (Int32 × xV × xV × (Nat → xV)) :=
  xb (f_X0_hireOfSession v p1) fun o_1 =>
  xo o_1 (some ((-2000000001), v, hv, kv)) (fun i_3 => xg (i_3 < 12) <|
  xl (p1 - p1 / 20 * 20) fun x_4 =>
  xb (f_X1_stateOf v i_3 x_4) fun r_5 =>
  if r_5 = 0 then
  xb2 (f_X2_save hv kv v) fun hv_8 kv_9 =>
  xb (f_X1_refundOf v i_3 x_4 (v 0 0)) fun r_11 =>
  xl (upd2 v (6 + 2 * i_3) 10 ((v (6 + 2 * i_3) 10) ||| ((1 : Int32) <<< (x_4 &&& 31)))) fun v_13 =>
  xb (f_X0_credit v_13 (v_13 (6 + 2 * i_3) 1) r_11 1) fun v_14 =>
  some (r_11, v_14, hv_8, kv_9)
  else
  some ((-2000000002), v, hv, kv))
def f_X7_clash (dv : xV) : Option (Int32) :=
  if (dv 0 5) = (-1) then
  some (-2000000004)
  else
  some (dv 0 5)
def f_X7_clearText (dv : xV) (tv : xV) : Option (Int32 × xV) :=
  xl (tv 0 1) fun x_1 =>
  xl (upd2 tv 0 1 0) fun tv_2 =>
  some (x_1, tv_2)
def f_X7_settingOrAccount (dv : xV) (v : xV) (p1 : Int32) : Option (Int32) :=
  if p1 < 10 then
  if p1 < 20 then
  some (-2000000001)
  else
  if 29 ≤ p1 then
  some (-2000000001)
  else
  xg (xin (p1 - 20) 9) <|
  some (v 2 (p1 - 20).toNatClampNeg)
  else
  if 18 ≤ p1 then
  if p1 < 20 then
  some (-2000000001)
  else
  if 29 ≤ p1 then
  some (-2000000001)
  else
  xg (xin (p1 - 20) 9) <|
  some (v 2 (p1 - 20).toNatClampNeg)
  else
  xg (xin (p1 - 10) 8) <|
  some (v 1 (p1 - 10).toNatClampNeg)
def f_X7_count (dv : xV) (v : xV) (hv : xV) (tv : xV) (p1 : Int32) : Option (Int32) :=
  if p1 = 0 then
  some (v 0 0)
  else if p1 = 1 then
  some (v 0 1)
  else if p1 = 2 then
  some (v 0 2)
  else if p1 = 3 then
  xb (f_X0_sessionsNotCancelled v) fun r_5 =>
  some r_5
  else if p1 = 4 then
  xb (f_X0_keysFor v (-1)) fun r_8 =>
  some r_8
  else if p1 = 5 then
  xb (f_X0_lateKeys v) fun r_11 =>
  some r_11
  else if p1 = 6 then
  xb (f_X0_roomHoursHeld v) fun r_14 =>
  some r_14
  else if p1 = 7 then
  some (hv 0 1)
  else if p1 = 8 then
  some (tv 0 1)
  else 
  xb (f_X7_settingOrAccount dv v p1) fun r_18 =>
  some r_18
def f_X7_enter (dv : xV) (v : xV) (hv : xV) (kv : Nat → xV) (tv : xV) (rv : xV) (vt : xV) (fv : xV) : Option (Int32 × xV × xV × xV × (Nat → xV) × xV × xV × xV × xV) :=
  xb4 (f_X5_run rv vt fv v tv) fun rv_1 vt_2 fv_3 tv_4 =>
  if (rv_1 0 3) = 4 then
  xl (upd2 dv 0 5 (rv_1 0 4)) fun dv_13 =>
  if (rv_1 0 3) = 0 then
  xb2 (f_X2_save hv kv v) fun hv_15 kv_16 =>
  xb (f_X0_copyFrom v vt_2) fun v_18 =>
  some ((rv_1 0 5), dv_13, v_18, hv_15, kv_16, tv_4, rv_1, vt_2, fv_3)
  else
  some ((-2000000002), dv_13, v, hv, kv, tv_4, rv_1, vt_2, fv_3)
  else
  if (rv_1 0 3) = 0 then
  xb2 (f_X2_save hv kv v) fun hv_8 kv_9 =>
  xb (f_X0_copyFrom v vt_2) fun v_11 =>
  some ((rv_1 0 5), dv, v_11, hv_8, kv_9, tv_4, rv_1, vt_2, fv_3)
  else
  some ((-2000000002), dv, v, hv, kv, tv_4, rv_1, vt_2, fv_3)
def f_X7_fault (dv : xV) (v : xV) (p1 : Int32) (p2 : Int32) (p3 : Int32) : Option (Int32) :=
  xb (f_X0_hireAt v p1) fun o_1 =>
  xo o_1 (some (-2000000001)) (fun i_3 => xg (i_3 < 12) <|
  if p2 < 0 then
  some (-2000000001)
  else
  if p3 < 0 then
  some (-2000000001)
  else
  if p3 < 4 then
  xb (f_X1_faultProperty v i_3 p2 p3) fun r_7 =>
  some r_7
  else
  some (-2000000001))
def L_X7_firstFree_92 (K_92 : Int32 → Option Int32) (p4 : Int32) (x_12 : Int32) (r_14 : Int32) : Nat → Int32 → Option Int32
  | 0, _ => none
  | n + 1, x_16 =>
  if 23 < (x_16 + p4) then
  K_92 x_16
  else
  xb (f_X7_hoursMask x_16 (x_16 + p4)) fun r_18 =>
  if (r_14 &&& r_18) = 0 then
  some ((100 * x_12) + x_16)
  else
  xl (x_16 + 1) fun x_21 =>
  L_X7_firstFree_92 K_92 p4 x_12 r_14 n x_21
def L_X7_firstFree_58 (K_58 : Int32 → Option Int32) (v : xV) (p1 : Int32) (p2 : Int32) (p4 : Int32) : Nat → Int32 → Option Int32
  | 0, _ => none
  | n + 1, x_12 =>
  if 364 < x_12 then
  K_58 x_12
  else
  xb (f_X0_blockedHours v x_12 p2 p1 (v 1 4)) fun r_14 =>
  L_X7_firstFree_92 (fun x_22 =>
  xl (x_12 + 1) fun x_23 =>
  L_X7_firstFree_58 K_58 v p1 p2 p4 n x_23) p4 x_12 r_14 100000 8
def f_X7_firstFree (dv : xV) (v : xV) (p1 : Int32) (p2 : Int32) (p3 : Int32) (p4 : Int32) : Option (Int32) :=
  xb (f_X0_isHirer v p1) fun r_1 =>
  if r_1 = 0 then
  some (-2000000001)
  else
  xb (f_X7_areRooms p2) fun r_4 =>
  if r_4 = 0 then
  some (-2000000001)
  else
  if p3 < 0 then
  some (-2000000001)
  else
  if 364 < p3 then
  some (-2000000001)
  else
  if p4 < 1 then
  some (-2000000001)
  else
  if p4 ≤ 15 then
  xl (if p3 < (v 0 0) then (v 0 0) else p3) fun x_11 =>
  L_X7_firstFree_58 (fun x_24 =>
  some (-2000000004)) v p1 p2 p4 100000 x_11
  else
  some (-2000000001)
def f_X7_hire (dv : xV) (v : xV) (hv : xV) (kv : Nat → xV) (wv : xV) (p1 : Int32) (p2 : Int32) (p3 : Int32) (p4 : Int32) (p5 : Int32) (p6 : Int32) : Option (Int32 × xV × xV × xV × (Nat → xV) × xV) :=
  xl (upd2 wv 0 0 p1) fun wv_1 =>
  xl (upd2 wv_1 0 1 p2) fun wv_2 =>
  xb (f_X6_takeHours wv_2 p4) fun wv_3 =>
  xb (f_X6_takeSeries wv_3 p3 p5 p6) fun wv_5 =>
  xb (f_X0_isHirer v p1) fun r_7 =>
  if r_7 = 0 then
  some ((-2000000001), dv, v, hv, kv, wv_5)
  else
  xb (f_X7_areRooms p2) fun r_10 =>
  if r_10 = 0 then
  some ((-2000000001), dv, v, hv, kv, wv_5)
  else
  xb (f_X6_isInRange wv_5 (v 0 0)) fun r_13 =>
  if r_13 = 0 then
  some ((-2000000001), dv, v, hv, kv, wv_5)
  else
  xb (f_X6_lastDay wv_5) fun r_16 =>
  if r_16 ≤ 364 then
  xb (f_X0_clashOf v wv_5) fun r_19 =>
  if r_19 = (-1) then
  xb (f_X0_isFull v) fun r_22 =>
  if r_22 = 0 then
  xb2 (f_X2_save hv kv v) fun hv_25 kv_26 =>
  xb2 (f_X0_make v wv_5) fun r_28 v_29 =>
  some (r_28, dv, v_29, hv_25, kv_26, wv_5)
  else
  some ((-2000000003), dv, v, hv, kv, wv_5)
  else
  xl (upd2 dv 0 5 r_19) fun dv_31 =>
  some ((-2000000002), dv_31, v, hv, kv, wv_5)
  else
  some ((-2000000002), dv, v, hv, kv, wv_5)
def f_X7_hireInfo (dv : xV) (v : xV) (p1 : Int32) (p2 : Int32) : Option (Int32) :=
  xb (f_X0_hireAt v p1) fun o_1 =>
  xo o_1 (some (-2000000001)) (fun i_3 => xg (i_3 < 12) <|
  if p2 = 14 then
  xb (f_X0_keysFor v p1) fun r_7 =>
  some r_7
  else
  xb (f_X1_property v i_3 p2) fun r_5 =>
  some r_5)
def f_X7_hirer (dv : xV) (v : xV) (p1 : Int32) (p2 : Int32) : Option (Int32) :=
  xb (f_X0_isHirer v p1) fun r_1 =>
  if r_1 = 0 then
  some (-2000000001)
  else
  if p2 = 0 then
  xg (xin p1 10) <|
  some (v 3 p1.toNatClampNeg)
  else if p2 = 1 then
  xg (xin p1 10) <|
  some (v 4 p1.toNatClampNeg)
  else if p2 = 2 then
  xg (xin p1 10) <|
  xg (xin p1 10) <|
  some ((v 3 p1.toNatClampNeg) - (v 4 p1.toNatClampNeg))
  else if p2 = 3 then
  xb (f_X0_hiresOf v p1) fun r_12 =>
  some r_12
  else if p2 = 4 then
  xb (f_X0_plannedOf v p1) fun r_15 =>
  some r_15
  else if p2 = 5 then
  xb (f_X0_keysOf v p1) fun r_18 =>
  some r_18
  else if p2 = 6 then
  xb (f_X0_faultsOf v p1) fun r_21 =>
  some r_21
  else 
  some (-2000000001)
def L_X7_inOrder_11 (K_11 : Int32 → Int32 → Option Int32) (v : xV) : Nat → Int32 → Int32 → Option Int32
  | 0, _, _ => none
  | n + 1, x_2, x_3 =>
  if 364 < x_3 then
  K_11 x_2 x_3
  else
  xb (f_X0_sessionsOn v x_3) fun r_5 =>
  if r_5 ≤ x_2 then
  xl (x_2 - r_5) fun x_8 =>
  xl (x_3 + 1) fun x_9 =>
  L_X7_inOrder_11 K_11 v n x_8 x_9
  else
  xb (f_X0_sessionInOrder v x_3 x_2) fun r_10 =>
  some r_10
def f_X7_inOrder (dv : xV) (v : xV) (p1 : Int32) : Option (Int32) :=
  if 0 ≤ p1 then
  L_X7_inOrder_11 (fun x_12 x_13 =>
  some (-2000000004)) v 100000 p1 0
  else
  some (-2000000001)
def f_X7_key (dv : xV) (v : xV) (p1 : Int32) (p2 : Int32) : Option (Int32) :=
  xb (f_X0_keyAt v p1) fun o_1 =>
  xo o_1 (some (-2000000001)) (fun i_3 => xg (i_3 < 6) <|
  if p2 < 0 then
  some (-2000000001)
  else
  if p2 ≤ 4 then
  if p2 = 0 then
  some (v (31 + i_3) 0)
  else
  xb (f_X0_hireAt v (v (31 + i_3) 1)) fun o_7 =>
  xo o_7 (some (-2000000004)) (fun i_9 => xg (i_9 < 12) <|
  if p2 = 1 then
  some (v (6 + 2 * i_9) 1)
  else if p2 = 2 then
  some (v (6 + 2 * i_9) 0)
  else if p2 = 3 then
  some (v (31 + i_3) 2)
  else 
  xb (f_X3_daysLate v i_3 (v 0 0)) fun r_13 =>
  some r_13)
  else
  some (-2000000001))
def f_X7_lend (dv : xV) (v : xV) (hv : xV) (kv : Nat → xV) (p1 : Int32) (p2 : Int32) : Option (Int32 × xV × xV × (Nat → xV)) :=
  xb (f_X0_keyAt v p1) fun o_1 =>
  xo o_1 (xb (f_X0_hireAt v p2) fun o_4 =>
  xo o_4 (some ((-2000000001), v, hv, kv)) (fun i_6 => xg (i_6 < 12) <|
  some ((-2000000001), v, hv, kv))) (fun i_3 => xg (i_3 < 6) <|
  xb (f_X0_hireAt v p2) fun o_7 =>
  xo o_7 (some ((-2000000001), v, hv, kv)) (fun i_9 => xg (i_9 < 12) <|
  xb (f_X1_lastPlannedDay v i_9) fun r_10 =>
  if (v (31 + i_3) 1) = (-1) then
  if r_10 = (-1) then
  some ((-2000000002), v, hv, kv)
  else
  if (((v (6 + 2 * i_9) 2) >>> ((v (31 + i_3) 0) &&& 31)) &&& 1) = 0 then
  some ((-2000000002), v, hv, kv)
  else
  xb2 (f_X2_save hv kv v) fun hv_15 kv_16 =>
  xl (upd2 v (31 + i_3) 1 p2) fun v_18 =>
  xl (upd2 v_18 (31 + i_3) 2 (r_10 + (v_18 1 7))) fun v_19 =>
  some ((v_19 (31 + i_3) 2), v_19, hv_15, kv_16)
  else
  some ((-2000000002), v, hv, kv)))
def L_X7_pass_47 (K_47 : Int32 → Int32 → xV → Option (Int32 × xV × xV × (Nat → xV))) (p1 : Int32) : Nat → Int32 → Int32 → xV → Option (Int32 × xV × xV × (Nat → xV))
  | 0, _, _, _ => none
  | n + 1, x_7, x_8, v_9 =>
  if p1 ≤ x_8 then
  K_47 x_7 x_8 v_9
  else
  xb2 (f_X0_passDay v_9) fun r_11 v_12 =>
  xl (x_7 + r_11) fun x_14 =>
  xl (x_8 + 1) fun x_15 =>
  L_X7_pass_47 K_47 p1 n x_14 x_15 v_12
def f_X7_pass (dv : xV) (v : xV) (hv : xV) (kv : Nat → xV) (p1 : Int32) : Option (Int32 × xV × xV × (Nat → xV)) :=
  if p1 < 1 then
  some ((-2000000001), v, hv, kv)
  else
  if p1 ≤ 60 then
  if ((v 0 0) + p1) ≤ 400 then
  xb2 (f_X2_save hv kv v) fun hv_4 kv_5 =>
  L_X7_pass_47 (fun x_16 x_17 v_18 =>
  some (x_16, v_18, hv_4, kv_5)) p1 100000 0 0 v
  else
  some ((-2000000003), v, hv, kv)
  else
  some ((-2000000001), v, hv, kv)
def f_X7_pay (dv : xV) (v : xV) (hv : xV) (kv : Nat → xV) (p1 : Int32) (p2 : Int32) : Option (Int32 × xV × xV × (Nat → xV)) :=
  xb (f_X0_isHirer v p1) fun r_1 =>
  if r_1 = 0 then
  some ((-2000000001), v, hv, kv)
  else
  if p2 < 1 then
  some ((-2000000001), v, hv, kv)
  else
  if p2 ≤ 1000000 then
  xg (xin p1 10) <|
  if ((v 4 p1.toNatClampNeg) + p2) ≤ 100000000 then
  xb2 (f_X2_save hv kv v) fun hv_8 kv_9 =>
  xb (f_X0_credit v p1 p2 8) fun v_11 =>
  xg (xin p1 10) <|
  xg (xin p1 10) <|
  some (((v_11 3 p1.toNatClampNeg) - (v_11 4 p1.toNatClampNeg)), v_11, hv_8, kv_9)
  else
  some ((-2000000003), v, hv, kv)
  else
  some ((-2000000001), v, hv, kv)
def f_X7_price (dv : xV) (v : xV) (wv : xV) (p1 : Int32) (p2 : Int32) (p3 : Int32) : Option (Int32 × xV) :=
  xl (upd2 wv 0 1 p1) fun wv_1 =>
  xb (f_X6_takeHours wv_1 p2) fun wv_2 =>
  xb (f_X6_takeSeries wv_2 0 p3 1) fun wv_4 =>
  xb (f_X7_areRooms p1) fun r_6 =>
  if r_6 = 0 then
  some ((-2000000001), wv_4)
  else
  xb (f_X6_isInRange wv_4 0) fun r_9 =>
  if r_9 = 0 then
  some ((-2000000001), wv_4)
  else
  xb (f_X0_priceOf v wv_4) fun r_12 =>
  some (r_12, wv_4)
def f_X7_report (dv : xV) (v : xV) (hv : xV) (kv : Nat → xV) (p1 : Int32) (p2 : Int32) : Option (Int32 × xV × xV × (Nat → xV)) :=
  xb (f_X0_hireOfSession v p1) fun o_1 =>
  xo o_1 (some ((-2000000001), v, hv, kv)) (fun i_3 => xg (i_3 < 12) <|
  if p2 < 0 then
  some ((-2000000001), v, hv, kv)
  else
  if p2 ≤ 3 then
  xb (f_X1_stateOf v i_3 (p1 - p1 / 20 * 20)) fun r_6 =>
  if r_6 = 1 then
  if (v (6 + 2 * i_3) 13) = 0 then
  xb (f_X1_canHaveFault v i_3 p2) fun r_10 =>
  if r_10 = 0 then
  some ((-2000000002), v, hv, kv)
  else
  if (v (6 + 2 * i_3) 12) < 8 then
  xb2 (f_X2_save hv kv v) fun hv_14 kv_15 =>
  xb (f_X1_costOfFault v i_3 p2) fun r_17 =>
  xb2 (f_X0_takeFromDeposit v i_3 r_17 4) fun r_19 v_20 =>
  xb (f_X1_addFault v_20 i_3 p2 p1 r_17 r_19) fun v_22 =>
  some (r_17, v_22, hv_14, kv_15)
  else
  some ((-2000000003), v, hv, kv)
  else
  some ((-2000000002), v, hv, kv)
  else
  some ((-2000000002), v, hv, kv)
  else
  some ((-2000000001), v, hv, kv))
def f_X7_session (dv : xV) (v : xV) (p1 : Int32) (p2 : Int32) : Option (Int32) :=
  xb (f_X0_hireOfSession v p1) fun o_1 =>
  xo o_1 (some (-2000000001)) (fun i_3 => xg (i_3 < 12) <|
  xl (p1 - p1 / 20 * 20) fun x_4 =>
  if p2 = 0 then
  xb (f_X1_dayOf v i_3 x_4) fun r_6 =>
  some r_6
  else if p2 = 1 then
  xb (f_X1_stateOf v i_3 x_4) fun r_9 =>
  some r_9
  else if p2 = 2 then
  xb (f_X1_shareOf v i_3 x_4) fun r_12 =>
  some r_12
  else if p2 = 3 then
  xb (f_X1_stateOf v i_3 x_4) fun r_15 =>
  if r_15 = 0 then
  xb (f_X1_refundOf v i_3 x_4 (v 0 0)) fun r_18 =>
  some r_18
  else
  some (-2000000004)
  else 
  some (-2000000001))
def f_X7_settle (dv : xV) (v : xV) (hv : xV) (kv : Nat → xV) (p1 : Int32) : Option (Int32 × xV × xV × (Nat → xV)) :=
  xb (f_X0_hireAt v p1) fun o_1 =>
  xo o_1 (some ((-2000000001), v, hv, kv)) (fun i_3 => xg (i_3 < 12) <|
  if (v (6 + 2 * i_3) 13) = 0 then
  xb (f_X1_plannedSessions v i_3) fun r_5 =>
  if 0 < r_5 then
  some ((-2000000002), v, hv, kv)
  else
  xb (f_X0_keysFor v p1) fun r_8 =>
  if r_8 ≤ 0 then
  xb2 (f_X2_save hv kv v) fun hv_11 kv_12 =>
  xb2 (f_X0_giveDepositBack v i_3) fun r_14 v_15 =>
  some (r_14, v_15, hv_11, kv_12)
  else
  some ((-2000000002), v, hv, kv)
  else
  some ((-2000000002), v, hv, kv))
def f_X7_taken (dv : xV) (v : xV) (p1 : Int32) (p2 : Int32) : Option (Int32) :=
  if p1 < 0 then
  some (-2000000001)
  else
  if 364 < p1 then
  some (-2000000001)
  else
  xb (f_X7_areRooms p2) fun r_3 =>
  if r_3 = 0 then
  some (-2000000001)
  else
  xb (f_X0_blockedHours v p1 p2 (-1) 0) fun r_6 =>
  some r_6
def f_X7_textFault (dv : xV) (v : xV) (tv : xV) (rv : xV) (vt : xV) (fv : xV) (p1 : Int32) : Option (Int32 × xV × xV × xV × xV) :=
  if p1 < 0 then
  some ((-2000000001), tv, rv, vt, fv)
  else
  if p1 ≤ 1 then
  xb4 (f_X5_run rv vt fv v tv) fun rv_3 vt_4 fv_5 tv_6 =>
  if (rv_3 0 3) = 0 then
  some ((-2000000004), tv_6, rv_3, vt_4, fv_5)
  else
  if p1 = 0 then
  some ((rv_3 0 2), tv_6, rv_3, vt_4, fv_5)
  else
  some ((rv_3 0 3), tv_6, rv_3, vt_4, fv_5)
  else
  some ((-2000000001), tv, rv, vt, fv)
def f_X7_type (dv : xV) (tv : xV) (p1 : Int32) : Option (Int32 × xV) :=
  if p1 < 32 then
  some ((-2000000001), tv)
  else
  if p1 ≤ 126 then
  xb2 (f_X4_append tv p1) fun r_3 tv_4 =>
  if r_3 = 0 then
  some ((-2000000003), tv_4)
  else
  some ((tv_4 0 1), tv_4)
  else
  some ((-2000000001), tv)
def f_X7_undo (dv : xV) (v : xV) (hv : xV) (kv : Nat → xV) : Option (Int32 × xV × xV) :=
  if 1 ≤ (hv 0 1) then
  xb2 (f_X2_restore hv kv v) fun hv_2 v_3 =>
  some ((hv_2 0 1), v_3, hv_2)
  else
  some ((-2000000002), v, hv)
def L_X8_save_51 (K_51 : Int32 → xV → Option xV) : Nat → Int32 → xV → Option xV
  | 0, _, _ => none
  | n + 1, x_2, M_3 =>
  if 820 ≤ x_2 then
  K_51 x_2 M_3
  else
  xg (xin x_2 820) <|
  xg (xin ((820 * (M_3 0 3)) + x_2) 3280) <|
  xl (upd2 M_3 2 ((820 * (M_3 0 3)) + x_2).toNatClampNeg (M_3 1 x_2.toNatClampNeg)) fun M_7 =>
  xl (x_2 + 1) fun x_8 =>
  L_X8_save_51 K_51  n x_8 M_7
def L_X8_save_10 (K_10 : Int32 → xV → Option xV) : Nat → Int32 → xV → Option xV
  | 0, _, _ => none
  | n + 1, x_12, M_13 =>
  if 2460 ≤ x_12 then
  K_10 x_12 M_13
  else
  xg (xin (x_12 + 820) 3280) <|
  xg (xin x_12 3280) <|
  xl (upd2 M_13 2 x_12.toNatClampNeg (M_13 2 (x_12 + 820).toNatClampNeg)) fun M_17 =>
  xl (x_12 + 1) fun x_18 =>
  L_X8_save_10 K_10  n x_18 M_17
def L_X8_save_51a (K_51 : Int32 → xV → Option xV) : Nat → Int32 → xV → Option xV
  | 0, _, _ => none
  | n + 1, x_22, M_23 =>
  if 820 ≤ x_22 then
  K_51 x_22 M_23
  else
  xg (xin x_22 820) <|
  xg (xin ((820 * (M_23 0 3)) + x_22) 3280) <|
  xl (upd2 M_23 2 ((820 * (M_23 0 3)) + x_22).toNatClampNeg (M_23 1 x_22.toNatClampNeg)) fun M_27 =>
  xl (x_22 + 1) fun x_28 =>
  L_X8_save_51a K_51  n x_28 M_27
def f_X8_save (M : xV) : Option (xV) :=
  if (M 0 3) = 4 then
  L_X8_save_10 (fun x_19 M_20 =>
  xl (upd2 M_20 0 3 ((M_20 0 3) - 1)) fun M_21 =>
  L_X8_save_51a (fun x_29 M_30 =>
  xl (upd2 M_30 0 3 ((M_30 0 3) + 1)) fun M_31 =>
  some M_31) 100000 0 M_21) 100000 0 M
  else
  L_X8_save_51 (fun x_9 M_10 =>
  xl (upd2 M_10 0 3 ((M_10 0 3) + 1)) fun M_11 =>
  some M_11) 100000 0 M
def f_X8_addHirer (M : xV) : Option (Int32 × xV) :=
  if (M 1 9) = 10 then
  some ((-2000000003), M)
  else
  xb (f_X8_save M) fun M_2 =>
  xl (upd2 M_2 1 9 ((M_2 1 9) + 1)) fun M_4 =>
  some (((M_4 1 9) - 1), M_4)
def f_X8_areHours (p1 : Int32) : Option (Int32) :=
  if p1 < 0 then
  some 0
  else
  if (p1 - p1 / 100 * 100) ≤ (p1 / 100) then
  some 0
  else
  if 24 < (p1 - p1 / 100 * 100) then
  some 0
  else
  some 1
def f_X8_at (p1 : Int32) (p2 : Int32) : Option (Int32) :=
  some ((52 + (64 * p1)) + p2)
def f_X8_in (p1 : Int64) (p2 : Int64) (p3 : Int64) : Option (Int32) :=
  if (lg_cmp p1 p2) < 0 then
  some 0
  else
  if 0 < (lg_cmp p1 p3) then
  some 0
  else
  some 1
def f_X8_isKey (p1 : Int32) : Option (Int32) :=
  xb (f_X8_in (p1.toInt64) 0 5) fun r_1 =>
  xg (r_1 = 0 ∨ r_1 = 1) <|
  some r_1
def f_X8_lateBy (M : xV) (p1 : Int32) : Option (Int32) :=
  xg (xin (40 + (2 * p1)) 820) <|
  if (M 1 (40 + (2 * p1)).toNatClampNeg) = (-1) then
  some 0
  else
  xg (xin ((40 + (2 * p1)) + 1) 820) <|
  if (M 1 0) ≤ (M 1 ((40 + (2 * p1)) + 1).toNatClampNeg) then
  some 0
  else
  xg (xin ((40 + (2 * p1)) + 1) 820) <|
  some ((M 1 0) - (M 1 ((40 + (2 * p1)) + 1).toNatClampNeg))
def f_X8_bringBack (M : xV) (p1 : Int32) : Option (Int32 × xV) :=
  xb (f_X8_isKey p1) fun r_1 =>
  if r_1 = 0 then
  some ((-2000000001), M)
  else
  xg (xin (40 + (2 * p1)) 820) <|
  if (M 1 (40 + (2 * p1)).toNatClampNeg) = (-1) then
  some ((-2000000002), M)
  else
  xb (f_X8_save M) fun M_6 =>
  xb (f_X8_lateBy M_6 p1) fun r_8 =>
  xg (xin (40 + (2 * p1)) 820) <|
  xl (upd2 M_6 1 (40 + (2 * p1)).toNatClampNeg (-1)) fun M_11 =>
  xg (xin ((40 + (2 * p1)) + 1) 820) <|
  xl (upd2 M_11 1 ((40 + (2 * p1)) + 1).toNatClampNeg 0) fun M_13 =>
  some (r_8, M_13)
def f_X8_isHire (M : xV) (p1 : Int32) : Option (Int32) :=
  xb (f_X8_in (p1.toInt64) 0 (((M 1 10).toInt64) - 1)) fun r_1 =>
  xg (r_1 = 0 ∨ r_1 = 1) <|
  some r_1
def f_X8_of (M : xV) (p1 : Int32) (p2 : Int32) : Option (Int32) :=
  xb (f_X8_at p1 p2) fun r_1 =>
  xg (xin r_1 820) <|
  some (M 1 r_1.toNatClampNeg)
def f_X8_isSession (M : xV) (p1 : Int32) : Option (Int32) :=
  if p1 < 0 then
  some 0
  else
  xb (f_X8_isHire M (p1 / 20)) fun r_2 =>
  if r_2 = 0 then
  some 0
  else
  xb (f_X8_of M (p1 / 20) 4) fun r_5 =>
  if r_5 ≤ (p1 - p1 / 20 * 20) then
  some 0
  else
  some 1
def f_X8_pays (M : xV) (p1 : Int32) (p2 : Int32) : Option (xV) :=
  xg (xin ((20 + (2 * p1)) + 1) 820) <|
  xg (xin ((20 + (2 * p1)) + 1) 820) <|
  xl (upd2 M 1 ((20 + (2 * p1)) + 1).toNatClampNeg ((M 1 ((20 + (2 * p1)) + 1).toNatClampNeg) + p2)) fun M_3 =>
  some M_3
def f_X8_dayOf (M : xV) (p1 : Int32) : Option (Int32) :=
  xl (p1 / 20) fun x_1 =>
  xb (f_X8_of M x_1 5) fun r_2 =>
  xb (f_X8_of M x_1 6) fun r_4 =>
  some (r_2 + ((p1 - p1 / 20 * 20) * r_4))
def f_X8_shareOf (M : xV) (p1 : Int32) : Option (Int32) :=
  xl (p1 / 20) fun x_1 =>
  xb (f_X8_of M x_1 7) fun r_2 =>
  xb (f_X8_of M x_1 4) fun r_4 =>
  xg (¬ r_4 = 0) <|
  xg (¬ r_4 = 0) <|
  if (r_2 - r_2 / r_4 * r_4) ≤ (p1 - p1 / 20 * 20) then
  some ((r_2 / r_4) + 0)
  else
  some ((r_2 / r_4) + 1)
def f_X8_refundOf (M : xV) (p1 : Int32) : Option (Int32) :=
  xb (f_X8_dayOf M p1) fun r_1 =>
  xl (r_1 - (M 1 0)) fun x_3 =>
  if x_3 < 14 then
  if x_3 < 7 then
  some 0
  else
  xb (f_X8_shareOf M p1) fun r_6 =>
  some (r_6 / 2)
  else
  xb (f_X8_shareOf M p1) fun r_8 =>
  some r_8
def f_X8_stateOf (M : xV) (p1 : Int32) : Option (Int32) :=
  xb (f_X8_of M (p1 / 20) (12 + (p1 - p1 / 20 * 20))) fun r_1 =>
  some r_1
def f_X8_cancel (M : xV) (p1 : Int32) : Option (Int32 × xV) :=
  xb (f_X8_isSession M p1) fun r_1 =>
  if r_1 = 0 then
  some ((-2000000001), M)
  else
  xb (f_X8_stateOf M p1) fun r_4 =>
  if r_4 = 0 then
  xb (f_X8_save M) fun M_7 =>
  xb (f_X8_refundOf M_7 p1) fun r_9 =>
  xl (p1 / 20) fun x_11 =>
  xb (f_X8_at x_11 (12 + (p1 - p1 / 20 * 20))) fun r_12 =>
  xg (xin r_12 820) <|
  xl (upd2 M_7 1 r_12.toNatClampNeg 2) fun M_15 =>
  xb (f_X8_of M_15 x_11 0) fun r_16 =>
  xb (f_X8_pays M_15 r_16 r_9) fun M_18 =>
  xl (upd2 M_18 1 12 ((M_18 1 12) + r_9)) fun M_20 =>
  some (r_9, M_20)
  else
  some ((-2000000002), M)
def f_X8_charges (M : xV) (p1 : Int32) (p2 : Int32) : Option (xV) :=
  xg (xin (20 + (2 * p1)) 820) <|
  xg (xin (20 + (2 * p1)) 820) <|
  xl (upd2 M 1 (20 + (2 * p1)).toNatClampNeg ((M 1 (20 + (2 * p1)).toNatClampNeg) + p2)) fun M_3 =>
  some M_3
def f_X8_clash (M : xV) : Option (Int32) :=
  some (M 0 4)
def f_X8_clashes (M : xV) (p1 : Int32) (p2 : Int32) (p3 : Int32) (p4 : Int32) (p5 : Int32) (p6 : Int32) : Option (Int32) :=
  xl (p1 / 20) fun x_1 =>
  xb (f_X8_of M x_1 0) fun r_2 =>
  if r_2 = p2 then
  xb (f_X8_stateOf M p1) fun r_21 =>
  if r_21 = 2 then
  some 0
  else
  xb (f_X8_dayOf M p1) fun r_24 =>
  if r_24 = p4 then
  xb (f_X8_of M x_1 1) fun r_27 =>
  if (r_27 &&& p3) = 0 then
  some 0
  else
  xb (f_X8_of M x_1 3) fun r_30 =>
  if (r_30 + 0) ≤ p5 then
  some 0
  else
  xb (f_X8_of M x_1 2) fun r_33 =>
  if (p6 + 0) ≤ r_33 then
  some 0
  else
  some 1
  else
  some 0
  else
  xl (M 1 5) fun x_5 =>
  xb (f_X8_stateOf M p1) fun r_6 =>
  if r_6 = 2 then
  some 0
  else
  xb (f_X8_dayOf M p1) fun r_9 =>
  if r_9 = p4 then
  xb (f_X8_of M x_1 1) fun r_12 =>
  if (r_12 &&& p3) = 0 then
  some 0
  else
  xb (f_X8_of M x_1 3) fun r_15 =>
  if (r_15 + x_5) ≤ p5 then
  some 0
  else
  xb (f_X8_of M x_1 2) fun r_18 =>
  if (p6 + x_5) ≤ r_18 then
  some 0
  else
  some 1
  else
  some 0
def L_X8_clashOn_21 (K_21 : Int32 → Int32 → Option Int32) (M : xV) (p1 : Int32) (p2 : Int32) (p3 : Int32) (p4 : Int32) (p5 : Int32) (x_2 : Int32) : Nat → Int32 → Int32 → Option Int32
  | 0, _, _ => none
  | n + 1, x_4, x_5 =>
  xb (f_X8_of M x_2 4) fun r_6 =>
  if r_6 ≤ x_5 then
  K_21 x_4 x_5
  else
  xl ((20 * x_2) + x_5) fun x_9 =>
  xb (f_X8_clashes M x_9 p1 p2 p3 p4 p5) fun r_10 =>
  if r_10 = 0 then
  xl (x_5 + 1) fun x_13 =>
  L_X8_clashOn_21 K_21 M p1 p2 p3 p4 p5 x_2 n x_4 x_13
  else
  if x_4 = (-1) then
  xl (x_5 + 1) fun x_15 =>
  L_X8_clashOn_21 K_21 M p1 p2 p3 p4 p5 x_2 n x_9 x_15
  else
  xb (f_X8_of M x_2 2) fun r_16 =>
  xb (f_X8_of M (x_4 / 20) 2) fun r_18 =>
  if r_18 ≤ r_16 then
  xl (x_5 + 1) fun x_21 =>
  L_X8_clashOn_21 K_21 M p1 p2 p3 p4 p5 x_2 n x_4 x_21
  else
  xl (x_5 + 1) fun x_22 =>
  L_X8_clashOn_21 K_21 M p1 p2 p3 p4 p5 x_2 n x_9 x_22
def L_X8_clashOn_6 (K_6 : Int32 → Int32 → Option Int32) (M : xV) (p1 : Int32) (p2 : Int32) (p3 : Int32) (p4 : Int32) (p5 : Int32) : Nat → Int32 → Int32 → Option Int32
  | 0, _, _ => none
  | n + 1, x_1, x_2 =>
  if (M 1 10) ≤ x_2 then
  K_6 x_1 x_2
  else
  L_X8_clashOn_21 (fun x_23 x_24 =>
  xl (x_2 + 1) fun x_25 =>
  L_X8_clashOn_6 K_6 M p1 p2 p3 p4 p5 n x_23 x_25) M p1 p2 p3 p4 p5 x_2 100000 x_1 0
def f_X8_clashOn (M : xV) (p1 : Int32) (p2 : Int32) (p3 : Int32) (p4 : Int32) (p5 : Int32) : Option (Int32) :=
  L_X8_clashOn_6 (fun x_26 x_27 =>
  some x_26) M p1 p2 p3 p4 p5 100000 (-1) 0
def L_X8_clashOfAll_6 (K_6 : Int32 → Int32 → Option Int32) (M : xV) (p1 : Int32) (p2 : Int32) (p3 : Int32) (p4 : Int32) (p5 : Int32) (p6 : Int32) (p7 : Int32) : Nat → Int32 → Int32 → Option Int32
  | 0, _, _ => none
  | n + 1, x_1, x_2 =>
  if p6 ≤ x_2 then
  K_6 x_1 x_2
  else
  if x_1 = (-1) then
  xb (f_X8_clashOn M p1 p2 (p3 + (x_2 * p7)) p4 p5) fun r_5 =>
  xl (x_2 + 1) fun x_7 =>
  L_X8_clashOfAll_6 K_6 M p1 p2 p3 p4 p5 p6 p7 n r_5 x_7
  else
  K_6 x_1 x_2
def f_X8_clashOfAll (M : xV) (p1 : Int32) (p2 : Int32) (p3 : Int32) (p4 : Int32) (p5 : Int32) (p6 : Int32) (p7 : Int32) : Option (Int32) :=
  L_X8_clashOfAll_6 (fun x_8 x_9 =>
  some x_8) M p1 p2 p3 p4 p5 p6 p7 100000 (-1) 0
def f_X8_clearText (M : xV) : Option (Int32 × xV) :=
  xl (M 0 6) fun x_1 =>
  xl (upd2 M 0 6 0) fun M_2 =>
  some (x_1, M_2)
def f_X8_roomsIn (p1 : Int32) : Option (Int32) :=
  some (((p1 &&& 1) + ((p1 >>> ((1 : Int32) &&& 31)) &&& 1)) + ((p1 >>> ((2 : Int32) &&& 31)) &&& 1))
def L_X8_costOf_45 (K_45 : Int32 → Int32 → Option Int32) (M : xV) (p1 : Int32) : Nat → Int32 → Int32 → Option Int32
  | 0, _, _ => none
  | n + 1, x_3, x_4 =>
  xb (f_X8_of M p1 11) fun r_5 =>
  if r_5 ≤ x_4 then
  K_45 x_3 x_4
  else
  xb (f_X8_of M p1 (32 + (4 * x_4))) fun r_8 =>
  if r_8 = 3 then
  xl (x_3 + 500) fun x_13 =>
  xl (x_4 + 1) fun x_14 =>
  L_X8_costOf_45 K_45 M p1 n x_13 x_14
  else
  xl (x_3 + 0) fun x_11 =>
  xl (x_4 + 1) fun x_12 =>
  L_X8_costOf_45 K_45 M p1 n x_11 x_12
def f_X8_costOf (M : xV) (p1 : Int32) (p2 : Int32) : Option (Int32) :=
  if p2 = 0 then
  xb (f_X8_of M p1 1) fun r_18 =>
  xb (f_X8_roomsIn r_18) fun r_20 =>
  some (1000 * r_20)
  else
  if 3 ≤ p2 then
  L_X8_costOf_45 (fun x_15 x_16 =>
  some x_15) M p1 100000 2000 0
  else
  if p2 = 1 then
  some 2500
  else
  some 4000
def L_X8_countKeys_4 (K_4 : Int32 → Int32 → Option Int32) (M : xV) (p1 : Int32) : Nat → Int32 → Int32 → Option Int32
  | 0, _, _ => none
  | n + 1, x_1, x_2 =>
  if 6 ≤ x_2 then
  K_4 x_1 x_2
  else
  if p1 = 0 then
  xg (xin (40 + (2 * x_2)) 820) <|
  if (M 1 (40 + (2 * x_2)).toNatClampNeg) = (-1) then
  xl (x_1 + 1) fun x_9 =>
  xl (x_2 + 1) fun x_10 =>
  L_X8_countKeys_4 K_4 M p1 n x_9 x_10
  else
  xl (x_1 + 0) fun x_7 =>
  xl (x_2 + 1) fun x_8 =>
  L_X8_countKeys_4 K_4 M p1 n x_7 x_8
  else
  xb (f_X8_lateBy M x_2) fun r_11 =>
  if r_11 ≤ 0 then
  xl (x_1 + 0) fun x_14 =>
  xl (x_2 + 1) fun x_15 =>
  L_X8_countKeys_4 K_4 M p1 n x_14 x_15
  else
  xl (x_1 + 1) fun x_16 =>
  xl (x_2 + 1) fun x_17 =>
  L_X8_countKeys_4 K_4 M p1 n x_16 x_17
def f_X8_countKeys (M : xV) (p1 : Int32) : Option (Int32) :=
  L_X8_countKeys_4 (fun x_18 x_19 =>
  some x_18) M p1 100000 0 0
def L_X8_manyOf_5 (K_5 : Int32 → Int32 → Option Int32) (M : xV) (p1 : Int32) (p2 : Int32) : Nat → Int32 → Int32 → Option Int32
  | 0, _, _ => none
  | n + 1, x_1, x_2 =>
  xb (f_X8_of M p1 4) fun r_3 =>
  if r_3 ≤ x_2 then
  K_5 x_1 x_2
  else
  xb (f_X8_of M p1 (12 + x_2)) fun r_6 =>
  if r_6 = p2 then
  xl (x_1 + 1) fun x_11 =>
  xl (x_2 + 1) fun x_12 =>
  L_X8_manyOf_5 K_5 M p1 p2 n x_11 x_12
  else
  xl (x_1 + 0) fun x_9 =>
  xl (x_2 + 1) fun x_10 =>
  L_X8_manyOf_5 K_5 M p1 p2 n x_9 x_10
def f_X8_manyOf (M : xV) (p1 : Int32) (p2 : Int32) : Option (Int32) :=
  L_X8_manyOf_5 (fun x_13 x_14 =>
  some x_13) M p1 p2 100000 0 0
def L_X8_countSessions_4 (K_4 : Int32 → Int32 → Option Int32) (M : xV) (p1 : Int32) : Nat → Int32 → Int32 → Option Int32
  | 0, _, _ => none
  | n + 1, x_1, x_2 =>
  if (M 1 10) ≤ x_2 then
  K_4 x_1 x_2
  else
  xb (f_X8_of M x_2 1) fun r_4 =>
  xb (f_X8_roomsIn r_4) fun r_6 =>
  xb (f_X8_of M x_2 3) fun r_8 =>
  xb (f_X8_of M x_2 2) fun r_10 =>
  xl (r_6 * (r_8 - r_10)) fun x_12 =>
  if p1 = 0 then
  xb (f_X8_of M x_2 4) fun r_14 =>
  xb (f_X8_manyOf M x_2 2) fun r_16 =>
  xl (x_1 + (r_14 - r_16)) fun x_18 =>
  xl (x_2 + 1) fun x_19 =>
  L_X8_countSessions_4 K_4 M p1 n x_18 x_19
  else
  xb (f_X8_manyOf M x_2 1) fun r_20 =>
  xl (x_1 + (r_20 * x_12)) fun x_22 =>
  xl (x_2 + 1) fun x_23 =>
  L_X8_countSessions_4 K_4 M p1 n x_22 x_23
def f_X8_countSessions (M : xV) (p1 : Int32) : Option (Int32) :=
  L_X8_countSessions_4 (fun x_24 x_25 =>
  some x_24) M p1 100000 0 0
def f_X8_count (M : xV) (p1 : Int32) : Option (Int32) :=
  xb (f_X8_in (p1.toInt64) 10 17) fun r_1 =>
  if r_1 = 0 then
  xb (f_X8_in (p1.toInt64) 20 28) fun r_4 =>
  if r_4 = 0 then
  if p1 = 0 then
  some (M 1 0)
  else if p1 = 1 then
  some (M 1 9)
  else if p1 = 2 then
  some (M 1 10)
  else if p1 = 3 then
  xb (f_X8_countSessions M 0) fun r_11 =>
  some r_11
  else if p1 = 4 then
  xb (f_X8_countKeys M 0) fun r_14 =>
  some r_14
  else if p1 = 5 then
  xb (f_X8_countKeys M 1) fun r_17 =>
  some r_17
  else if p1 = 6 then
  xb (f_X8_countSessions M 1) fun r_20 =>
  some r_20
  else if p1 = 7 then
  some (M 0 3)
  else if p1 = 8 then
  some (M 0 6)
  else 
  some (-2000000001)
  else
  xg (xin ((11 + p1) - 20) 820) <|
  some (M 1 ((11 + p1) - 20).toNatClampNeg)
  else
  xg (xin ((1 + p1) - 10) 820) <|
  some (M 1 ((1 + p1) - 10).toNatClampNeg)
def L_X8_keysOf_4 (K_4 : Int32 → Int32 → Option Int32) (M : xV) (p1 : Int32) : Nat → Int32 → Int32 → Option Int32
  | 0, _, _ => none
  | n + 1, x_1, x_2 =>
  if 6 ≤ x_2 then
  K_4 x_1 x_2
  else
  xg (xin (40 + (2 * x_2)) 820) <|
  if (M 1 (40 + (2 * x_2)).toNatClampNeg) = p1 then
  xl (x_1 + 1) fun x_8 =>
  xl (x_2 + 1) fun x_9 =>
  L_X8_keysOf_4 K_4 M p1 n x_8 x_9
  else
  xl (x_1 + 0) fun x_6 =>
  xl (x_2 + 1) fun x_7 =>
  L_X8_keysOf_4 K_4 M p1 n x_6 x_7
def f_X8_keysOf (M : xV) (p1 : Int32) : Option (Int32) :=
  L_X8_keysOf_4 (fun x_10 x_11 =>
  some x_10) M p1 100000 0 0
def L_X8_countHires_5 (K_5 : Int32 → Int32 → Option Int32) (M : xV) (p1 : Int32) (p2 : Int32) : Nat → Int32 → Int32 → Option Int32
  | 0, _, _ => none
  | n + 1, x_1, x_2 =>
  if (M 1 10) ≤ x_2 then
  K_5 x_1 x_2
  else
  xb (f_X8_of M x_2 0) fun r_4 =>
  if r_4 = p1 then
  if p2 = 3 then
  xl (x_1 + 1) fun x_24 =>
  xl (x_2 + 1) fun x_25 =>
  L_X8_countHires_5 K_5 M p1 p2 n x_24 x_25
  else
  if p2 = 4 then
  xb (f_X8_manyOf M x_2 0) fun r_20 =>
  xl (x_1 + r_20) fun x_22 =>
  xl (x_2 + 1) fun x_23 =>
  L_X8_countHires_5 K_5 M p1 p2 n x_22 x_23
  else
  if p2 = 5 then
  xb (f_X8_keysOf M x_2) fun r_16 =>
  xl (x_1 + r_16) fun x_18 =>
  xl (x_2 + 1) fun x_19 =>
  L_X8_countHires_5 K_5 M p1 p2 n x_18 x_19
  else
  xb (f_X8_of M x_2 11) fun r_12 =>
  xl (x_1 + r_12) fun x_14 =>
  xl (x_2 + 1) fun x_15 =>
  L_X8_countHires_5 K_5 M p1 p2 n x_14 x_15
  else
  xl (x_1 + 0) fun x_7 =>
  xl (x_2 + 1) fun x_8 =>
  L_X8_countHires_5 K_5 M p1 p2 n x_7 x_8
def f_X8_countHires (M : xV) (p1 : Int32) (p2 : Int32) : Option (Int32) :=
  L_X8_countHires_5 (fun x_26 x_27 =>
  some x_26) M p1 p2 100000 0 0
def f_X8_discountOf (p1 : Int32) : Option (Int32) :=
  if 4 ≤ p1 then
  if 10 ≤ p1 then
  some 20
  else
  some 10
  else
  some 0
def L_X8_laysAside_2 (K_2 : Int32 → xV → Option xV) : Nat → Int32 → xV → Option xV
  | 0, _, _ => none
  | n + 1, x_1, M_2 =>
  if 820 ≤ x_1 then
  K_2 x_1 M_2
  else
  xg (xin x_1 820) <|
  xg (xin x_1 820) <|
  xl (upd2 M_2 3 x_1.toNatClampNeg (M_2 1 x_1.toNatClampNeg)) fun M_6 =>
  xl (x_1 + 1) fun x_7 =>
  L_X8_laysAside_2 K_2  n x_7 M_6
def f_X8_laysAside (M : xV) : Option (xV) :=
  L_X8_laysAside_2 (fun x_8 M_9 =>
  some M_9) 100000 0 M
def L_X8_sessionPrice_15 (K_15 : Int32 → Int32 → Option Int32) (M : xV) (p1 : Int32) (p3 : Int32) (x_2 : Int32) : Nat → Int32 → Int32 → Option Int32
  | 0, _, _ => none
  | n + 1, x_4, x_5 =>
  if p3 ≤ x_5 then
  K_15 x_4 x_5
  else
  if ((p1 >>> (x_2 &&& 31)) &&& 1) = 1 then
  xg (xin (1 + x_2) 820) <|
  xl (M 1 (1 + x_2).toNatClampNeg) fun x_14 =>
  if 18 ≤ x_5 then
  xl (x_4 + (x_14 + ((x_14 * (M 1 4)) / 100))) fun x_16 =>
  xl (x_5 + 1) fun x_17 =>
  L_X8_sessionPrice_15 K_15 M p1 p3 x_2 n x_16 x_17
  else
  xl (x_4 + (x_14 + 0)) fun x_18 =>
  xl (x_5 + 1) fun x_19 =>
  L_X8_sessionPrice_15 K_15 M p1 p3 x_2 n x_18 x_19
  else
  if 18 ≤ x_5 then
  xl (x_4 + (0 + ((0 * (M 1 4)) / 100))) fun x_9 =>
  xl (x_5 + 1) fun x_10 =>
  L_X8_sessionPrice_15 K_15 M p1 p3 x_2 n x_9 x_10
  else
  xl (x_4 + 0) fun x_11 =>
  xl (x_5 + 1) fun x_12 =>
  L_X8_sessionPrice_15 K_15 M p1 p3 x_2 n x_11 x_12
def L_X8_sessionPrice_6 (K_6 : Int32 → Int32 → Option Int32) (M : xV) (p1 : Int32) (p2 : Int32) (p3 : Int32) : Nat → Int32 → Int32 → Option Int32
  | 0, _, _ => none
  | n + 1, x_1, x_2 =>
  if 3 ≤ x_2 then
  K_6 x_1 x_2
  else
  L_X8_sessionPrice_15 (fun x_20 x_21 =>
  xl (x_2 + 1) fun x_22 =>
  L_X8_sessionPrice_6 K_6 M p1 p2 p3 n x_20 x_22) M p1 p3 x_2 100000 x_1 p2
def f_X8_sessionPrice (M : xV) (p1 : Int32) (p2 : Int32) (p3 : Int32) : Option (Int32) :=
  L_X8_sessionPrice_6 (fun x_23 x_24 =>
  some x_23) M p1 p2 p3 100000 0 0
def f_X8_priceOf (M : xV) (p1 : Int32) (p2 : Int32) (p3 : Int32) (p4 : Int32) : Option (Int32) :=
  xb (f_X8_sessionPrice M p1 p2 p3) fun r_1 =>
  xl (p4 * r_1) fun x_3 =>
  xb (f_X8_discountOf p4) fun r_4 =>
  some (x_3 - ((x_3 * r_4) / 100))
def L_X8_makes_34 (K_34 : Int32 → xV → Option xV) (x_1 : Int32) : Nat → Int32 → xV → Option xV
  | 0, _, _ => none
  | n + 1, x_5, M_6 =>
  if 64 ≤ x_5 then
  K_34 x_5 M_6
  else
  xb (f_X8_at x_1 x_5) fun r_8 =>
  xg (xin r_8 820) <|
  xl (upd2 M_6 1 r_8.toNatClampNeg 0) fun M_11 =>
  xl (x_5 + 1) fun x_12 =>
  L_X8_makes_34 K_34 x_1 n x_12 M_11
def f_X8_makes (M : xV) (p1 : Int32) (p2 : Int32) (p3 : Int32) (p4 : Int32) (p5 : Int32) (p6 : Int32) (p7 : Int32) : Option (xV) :=
  xl (M 1 10) fun x_1 =>
  xb (f_X8_priceOf M p2 p4 p5 p6) fun r_2 =>
  xl (M 1 6) fun x_4 =>
  L_X8_makes_34 (fun x_13 M_14 =>
  xb (f_X8_at x_1 0) fun r_15 =>
  xg (xin r_15 820) <|
  xl (upd2 M_14 1 r_15.toNatClampNeg p1) fun M_18 =>
  xb (f_X8_at x_1 1) fun r_19 =>
  xg (xin r_19 820) <|
  xl (upd2 M_18 1 r_19.toNatClampNeg p2) fun M_22 =>
  xb (f_X8_at x_1 2) fun r_23 =>
  xg (xin r_23 820) <|
  xl (upd2 M_22 1 r_23.toNatClampNeg p4) fun M_26 =>
  xb (f_X8_at x_1 3) fun r_27 =>
  xg (xin r_27 820) <|
  xl (upd2 M_26 1 r_27.toNatClampNeg p5) fun M_30 =>
  xb (f_X8_at x_1 4) fun r_31 =>
  xg (xin r_31 820) <|
  xl (upd2 M_30 1 r_31.toNatClampNeg p6) fun M_34 =>
  xb (f_X8_at x_1 5) fun r_35 =>
  xg (xin r_35 820) <|
  xl (upd2 M_34 1 r_35.toNatClampNeg p3) fun M_38 =>
  xb (f_X8_at x_1 6) fun r_39 =>
  xg (xin r_39 820) <|
  xl (upd2 M_38 1 r_39.toNatClampNeg p7) fun M_42 =>
  xb (f_X8_at x_1 7) fun r_43 =>
  xg (xin r_43 820) <|
  xl (upd2 M_42 1 r_43.toNatClampNeg r_2) fun M_46 =>
  xb (f_X8_at x_1 8) fun r_47 =>
  xb (f_X8_discountOf p6) fun r_49 =>
  xg (xin r_47 820) <|
  xl (upd2 M_46 1 r_47.toNatClampNeg r_49) fun M_52 =>
  xb (f_X8_at x_1 9) fun r_53 =>
  xg (xin r_53 820) <|
  xl (upd2 M_52 1 r_53.toNatClampNeg x_4) fun M_56 =>
  xb (f_X8_charges M_56 p1 (r_2 + x_4)) fun M_57 =>
  xl (upd2 M_57 1 11 ((M_57 1 11) + r_2)) fun M_59 =>
  xl (upd2 M_59 1 13 ((M_59 1 13) + x_4)) fun M_60 =>
  xl (upd2 M_60 1 14 ((M_60 1 14) + x_4)) fun M_61 =>
  xl (upd2 M_61 1 10 ((M_61 1 10) + 1)) fun M_62 =>
  some M_62) x_1 100000 0 M
def f_X8_here (M : xV) : Option (Int32) :=
  if (M 0 6) ≤ (M 0 7) then
  some (-1)
  else
  xg (xin (M 0 7) 80) <|
  some (M 4 (M 0 7).toNatClampNeg)
def f_X8_passes (M : xV) (p1 : Int32) : Option (Int32 × xV) :=
  xb (f_X8_here M) fun r_1 =>
  if r_1 = p1 then
  xl (upd2 M 0 7 ((M 0 7) + 1)) fun M_5 =>
  some (1, M_5)
  else
  xl (upd2 M 0 7 ((M 0 7) + 0)) fun M_4 =>
  some (0, M_4)
def L_X8_readNumber_7 (K_7 : Int32 → xV → Option (Int32 × xV)) (p1 : Int32) (x_1 : Int32) : Nat → Int32 → xV → Option (Int32 × xV)
  | 0, _, _ => none
  | n + 1, x_2, M_3 =>
  xb (f_X8_here M_3) fun r_4 =>
  xb (f_X8_in (r_4.toInt64) 48 57) fun r_6 =>
  if r_6 = 0 then
  K_7 x_2 M_3
  else
  if (x_1 + p1) ≤ (M_3 0 7) then
  K_7 x_2 M_3
  else
  xb (f_X8_here M_3) fun r_10 =>
  xl (((10 * x_2) + r_10) - 48) fun x_12 =>
  xl (upd2 M_3 0 7 ((M_3 0 7) + 1)) fun M_13 =>
  L_X8_readNumber_7 K_7 p1 x_1 n x_12 M_13
def f_X8_readNumber (M : xV) (p1 : Int32) : Option (Int32 × xV) :=
  xl (M 0 7) fun x_1 =>
  L_X8_readNumber_7 (fun x_14 M_15 =>
  if (M_15 0 7) = x_1 then
  some ((-1), M_15)
  else
  xb (f_X8_here M_15) fun r_17 =>
  xb (f_X8_in (r_17.toInt64) 48 57) fun r_19 =>
  if r_19 = 0 then
  some (x_14, M_15)
  else
  some ((-1), M_15)) p1 x_1 100000 0 M
def f_X8_readsRooms (M : xV) : Option (Int32 × xV) :=
  xb2 (f_X8_passes M 104) fun r_1 M_2 =>
  if r_1 = 0 then
  xb2 (f_X8_passes M_2 107) fun r_5 M_6 =>
  if r_5 = 0 then
  xb2 (f_X8_passes M_6 109) fun r_9 M_10 =>
  if r_9 = 0 then
  xl (upd2 M_10 0 12 0) fun M_13 =>
  some (0, M_13)
  else
  xl (upd2 M_10 0 12 4) fun M_14 =>
  some (1, M_14)
  else
  xb2 (f_X8_passes M_6 109) fun r_15 M_16 =>
  if r_15 = 0 then
  xl (upd2 M_16 0 12 2) fun M_19 =>
  some (1, M_19)
  else
  xl (upd2 M_16 0 12 6) fun M_20 =>
  some (1, M_20)
  else
  xb2 (f_X8_passes M_2 107) fun r_21 M_22 =>
  if r_21 = 0 then
  xb2 (f_X8_passes M_22 109) fun r_25 M_26 =>
  if r_25 = 0 then
  xl (upd2 M_26 0 12 1) fun M_29 =>
  some (1, M_29)
  else
  xl (upd2 M_26 0 12 5) fun M_30 =>
  some (1, M_30)
  else
  xb2 (f_X8_passes M_22 109) fun r_31 M_32 =>
  if r_31 = 0 then
  xl (upd2 M_32 0 12 3) fun M_35 =>
  some (1, M_35)
  else
  xl (upd2 M_32 0 12 7) fun M_36 =>
  some (1, M_36)
def f_X8_readsHire (M : xV) : Option (Int32 × xV) :=
  xb2 (f_X8_readNumber M 1) fun r_1 M_2 =>
  xl (upd2 M_2 0 8 r_1) fun M_4 =>
  if (M_4 0 8) = (-1) then
  some (0, M_4)
  else
  xb2 (f_X8_passes M_4 58) fun r_6 M_7 =>
  if r_6 = 0 then
  some (0, M_7)
  else
  xb2 (f_X8_readNumber M_7 3) fun r_10 M_11 =>
  xl (upd2 M_11 0 9 r_10) fun M_13 =>
  if (M_13 0 9) = (-1) then
  some (0, M_13)
  else
  xb2 (f_X8_passes M_13 64) fun r_15 M_16 =>
  if r_15 = 0 then
  some (0, M_16)
  else
  xb2 (f_X8_readNumber M_16 3) fun r_19 M_20 =>
  xl (upd2 M_20 0 10 r_19) fun M_22 =>
  if (M_22 0 10) = (-1) then
  some (0, M_22)
  else
  xb2 (f_X8_passes M_22 45) fun r_24 M_25 =>
  if r_24 = 0 then
  some (0, M_25)
  else
  xb2 (f_X8_readNumber M_25 3) fun r_28 M_29 =>
  xl (upd2 M_29 0 11 r_28) fun M_31 =>
  if (M_31 0 11) = (-1) then
  some (0, M_31)
  else
  xb2 (f_X8_passes M_31 47) fun r_33 M_34 =>
  if r_33 = 0 then
  some (0, M_34)
  else
  xb2 (f_X8_readsRooms M_34) fun r_37 M_38 =>
  if r_37 = 0 then
  some (0, M_38)
  else
  xl (upd2 M_38 0 13 1) fun M_41 =>
  xl (upd2 M_41 0 14 1) fun M_42 =>
  xb2 (f_X8_passes M_42 120) fun r_43 M_44 =>
  if r_43 = 0 then
  if (M_44 0 14) = (-1) then
  some (0, M_44)
  else
  xb2 (f_X8_passes M_44 59) fun r_48 M_49 =>
  if r_48 = 0 then
  some (0, M_49)
  else
  some (1, M_49)
  else
  xb2 (f_X8_readNumber M_44 3) fun r_52 M_53 =>
  xl (upd2 M_53 0 13 r_52) fun M_55 =>
  if (M_55 0 13) = (-1) then
  some (0, M_55)
  else
  xb2 (f_X8_passes M_55 43) fun r_57 M_58 =>
  if r_57 = 0 then
  some (0, M_58)
  else
  xb2 (f_X8_readNumber M_58 3) fun r_61 M_62 =>
  xl (upd2 M_62 0 14 r_61) fun M_64 =>
  if (M_64 0 14) = (-1) then
  some (0, M_64)
  else
  xb2 (f_X8_passes M_64 59) fun r_66 M_67 =>
  if r_66 = 0 then
  some (0, M_67)
  else
  some (1, M_67)
def f_X8_isHirer (M : xV) (p1 : Int32) : Option (Int32) :=
  xb (f_X8_in (p1.toInt64) 0 (((M 1 9).toInt64) - 1)) fun r_1 =>
  xg (r_1 = 0 ∨ r_1 = 1) <|
  some r_1
def f_X8_reasonOf (M : xV) : Option (Int32 × xV) :=
  xb (f_X8_isHirer M (M 0 8)) fun r_1 =>
  if r_1 = 0 then
  some (2, M)
  else
  if (M 0 11) ≤ (M 0 10) then
  xb (f_X8_in ((M 0 13).toInt64) 1 20) fun r_5 =>
  if r_5 = 0 then
  some (3, M)
  else
  xb (f_X8_in ((M 0 14).toInt64) 1 60) fun r_8 =>
  if r_8 = 0 then
  some (3, M)
  else
  some (3, M)
  else
  if 24 < (M 0 11) then
  xb (f_X8_in ((M 0 13).toInt64) 1 20) fun r_12 =>
  if r_12 = 0 then
  some (3, M)
  else
  xb (f_X8_in ((M 0 14).toInt64) 1 60) fun r_15 =>
  if r_15 = 0 then
  some (3, M)
  else
  some (3, M)
  else
  xb (f_X8_in ((M 0 13).toInt64) 1 20) fun r_18 =>
  if r_18 = 0 then
  some (3, M)
  else
  xb (f_X8_in ((M 0 14).toInt64) 1 60) fun r_21 =>
  if r_21 = 0 then
  some (3, M)
  else
  xb (f_X8_in ((M 0 9).toInt64) ((M 1 0).toInt64) 364) fun r_24 =>
  if r_24 = 0 then
  some (3, M)
  else
  if ((M 0 9) + (((M 0 13) - 1) * (M 0 14))) ≤ 364 then
  xb (f_X8_clashOfAll M (M 0 8) (M 0 12) (M 0 9) (M 0 10) (M 0 11) (M 0 13) (M 0 14)) fun r_28 =>
  xl (upd2 M 0 16 r_28) fun M_30 =>
  if (M_30 0 16) = (-1) then
  if (M_30 1 10) = 12 then
  some (5, M_30)
  else
  some (0, M_30)
  else
  some (4, M_30)
  else
  some (3, M)
def L_X8_makesAll_15 (K_15 : xV → Option (Int32 × xV)) : Nat → xV → Option (Int32 × xV)
  | 0, _ => none
  | n + 1, M_4 =>
  if (M_4 0 6) ≤ (M_4 0 7) then
  K_15 M_4
  else
  xl (M_4 0 7) fun x_6 =>
  xb2 (f_X8_readsHire M_4) fun r_7 M_8 =>
  if r_7 = 0 then
  xl (upd2 M_8 0 15 1) fun M_11 =>
  if (M_11 0 15) = 0 then
  xb (f_X8_makes M_11 (M_11 0 8) (M_11 0 12) (M_11 0 9) (M_11 0 10) (M_11 0 11) (M_11 0 13) (M_11 0 14)) fun M_13 =>
  xl (upd2 M_13 0 17 ((M_13 0 17) + 1)) fun M_15 =>
  L_X8_makesAll_15 K_15  n M_15
  else
  some (x_6, M_11)
  else
  xb2 (f_X8_reasonOf M_8) fun r_16 M_17 =>
  xl (upd2 M_17 0 15 r_16) fun M_19 =>
  if (M_19 0 15) = 0 then
  xb (f_X8_makes M_19 (M_19 0 8) (M_19 0 12) (M_19 0 9) (M_19 0 10) (M_19 0 11) (M_19 0 13) (M_19 0 14)) fun M_21 =>
  xl (upd2 M_21 0 17 ((M_21 0 17) + 1)) fun M_23 =>
  L_X8_makesAll_15 K_15  n M_23
  else
  some (x_6, M_19)
def f_X8_makesAll (M : xV) : Option (Int32 × xV) :=
  xl (upd2 M 0 7 0) fun M_1 =>
  xl (upd2 M_1 0 17 0) fun M_2 =>
  xl (upd2 M_2 0 15 0) fun M_3 =>
  L_X8_makesAll_15 (fun M_24 =>
  some ((-1), M_24)) 100000 M_3
def L_X8_takesBack_2 (K_2 : Int32 → xV → Option xV) : Nat → Int32 → xV → Option xV
  | 0, _, _ => none
  | n + 1, x_1, M_2 =>
  if 820 ≤ x_1 then
  K_2 x_1 M_2
  else
  xg (xin x_1 820) <|
  xg (xin x_1 820) <|
  xl (upd2 M_2 1 x_1.toNatClampNeg (M_2 3 x_1.toNatClampNeg)) fun M_6 =>
  xl (x_1 + 1) fun x_7 =>
  L_X8_takesBack_2 K_2  n x_7 M_6
def f_X8_takesBack (M : xV) : Option (xV) :=
  L_X8_takesBack_2 (fun x_8 M_9 =>
  some M_9) 100000 0 M
def f_X8_enter (M : xV) : Option (Int32 × xV) :=
  xb (f_X8_laysAside M) fun M_1 =>
  xb2 (f_X8_makesAll M_1) fun r_3 M_4 =>
  xb (f_X8_takesBack M_4) fun M_6 =>
  if r_3 = (-1) then
  xb (f_X8_save M_6) fun M_9 =>
  xb2 (f_X8_makesAll M_9) fun r_11 M_12 =>
  if r_11 = (-1) then
  some ((M_12 0 17), M_12)
  else
  some (0, M_12)
  else
  if (M_6 0 15) = 4 then
  xl (upd2 M_6 0 4 (M_6 0 16)) fun M_17 =>
  some ((-2000000002), M_17)
  else
  xl (upd2 M_6 0 4 (M_6 0 4)) fun M_16 =>
  some ((-2000000002), M_16)
def f_X8_fault (M : xV) (p1 : Int32) (p2 : Int32) (p3 : Int32) : Option (Int32) :=
  xb (f_X8_isHire M p1) fun r_1 =>
  if r_1 = 0 then
  some (-2000000001)
  else
  if p2 < 0 then
  some (-2000000001)
  else
  xb (f_X8_in (p3.toInt64) 0 3) fun r_5 =>
  if r_5 = 0 then
  some (-2000000001)
  else
  xb (f_X8_of M p1 11) fun r_8 =>
  if r_8 ≤ p2 then
  some (-2000000004)
  else
  xb (f_X8_of M p1 ((32 + (4 * p2)) + p3)) fun r_11 =>
  some r_11
def L_X8_firstFree_82 (K_82 : Int32 → Option Int32) (M : xV) (p1 : Int32) (p2 : Int32) (p4 : Int32) (x_15 : Int32) : Nat → Int32 → Option Int32
  | 0, _ => none
  | n + 1, x_17 =>
  if 23 < (x_17 + p4) then
  K_82 x_17
  else
  xb (f_X8_clashOn M p1 p2 x_15 x_17 (x_17 + p4)) fun r_19 =>
  if r_19 = (-1) then
  some ((100 * x_15) + x_17)
  else
  xl (x_17 + 1) fun x_22 =>
  L_X8_firstFree_82 K_82 M p1 p2 p4 x_15 n x_22
def L_X8_firstFree_70 (K_70 : Int32 → Option Int32) (M : xV) (p1 : Int32) (p2 : Int32) (p4 : Int32) : Nat → Int32 → Option Int32
  | 0, _ => none
  | n + 1, x_15 =>
  if 364 < x_15 then
  K_70 x_15
  else
  L_X8_firstFree_82 (fun x_23 =>
  xl (x_15 + 1) fun x_24 =>
  L_X8_firstFree_70 K_70 M p1 p2 p4 n x_24) M p1 p2 p4 x_15 100000 8
def L_X8_firstFree_82a (K_82 : Int32 → Option Int32) (M : xV) (p1 : Int32) (p2 : Int32) (p4 : Int32) (x_26 : Int32) : Nat → Int32 → Option Int32
  | 0, _ => none
  | n + 1, x_28 =>
  if 23 < (x_28 + p4) then
  K_82 x_28
  else
  xb (f_X8_clashOn M p1 p2 x_26 x_28 (x_28 + p4)) fun r_30 =>
  if r_30 = (-1) then
  some ((100 * x_26) + x_28)
  else
  xl (x_28 + 1) fun x_33 =>
  L_X8_firstFree_82a K_82 M p1 p2 p4 x_26 n x_33
def L_X8_firstFree_70a (K_70 : Int32 → Option Int32) (M : xV) (p1 : Int32) (p2 : Int32) (p4 : Int32) : Nat → Int32 → Option Int32
  | 0, _ => none
  | n + 1, x_26 =>
  if 364 < x_26 then
  K_70 x_26
  else
  L_X8_firstFree_82a (fun x_34 =>
  xl (x_26 + 1) fun x_35 =>
  L_X8_firstFree_70a K_70 M p1 p2 p4 n x_35) M p1 p2 p4 x_26 100000 8
def f_X8_firstFree (M : xV) (p1 : Int32) (p2 : Int32) (p3 : Int32) (p4 : Int32) : Option (Int32) :=
  xb (f_X8_isHirer M p1) fun r_1 =>
  if r_1 = 0 then
  some (-2000000001)
  else
  xb (f_X8_in (p2.toInt64) 1 7) fun r_4 =>
  if r_4 = 0 then
  some (-2000000001)
  else
  xb (f_X8_in (p3.toInt64) 0 364) fun r_7 =>
  if r_7 = 0 then
  some (-2000000001)
  else
  xb (f_X8_in (p4.toInt64) 1 15) fun r_10 =>
  if r_10 = 0 then
  some (-2000000001)
  else
  if p3 ≤ (M 1 0) then
  xl (M 1 0) fun x_14 =>
  L_X8_firstFree_70 (fun x_25 =>
  some (-2000000004)) M p1 p2 p4 100000 x_14
  else
  L_X8_firstFree_70a (fun x_36 =>
  some (-2000000004)) M p1 p2 p4 100000 p3
def f_X8_isSeries (M : xV) (p1 : Int32) (p2 : Int32) (p3 : Int32) (p4 : Int32) : Option (Int32) :=
  xb (f_X8_in (p1.toInt64) ((M 1 0).toInt64) 364) fun r_1 =>
  if r_1 = 0 then
  some 0
  else
  xb (f_X8_areHours p2) fun r_4 =>
  if r_4 = 0 then
  some 0
  else
  xb (f_X8_in (p3.toInt64) 1 20) fun r_7 =>
  if r_7 = 0 then
  some 0
  else
  xb (f_X8_in (p4.toInt64) 1 60) fun r_10 =>
  if r_10 = 0 then
  some 0
  else
  some 1
def f_X8_hire (M : xV) (p1 : Int32) (p2 : Int32) (p3 : Int32) (p4 : Int32) (p5 : Int32) (p6 : Int32) : Option (Int32 × xV) :=
  xb (f_X8_isHirer M p1) fun r_1 =>
  if r_1 = 0 then
  some ((-2000000001), M)
  else
  xb (f_X8_in (p2.toInt64) 1 7) fun r_4 =>
  if r_4 = 0 then
  some ((-2000000001), M)
  else
  xb (f_X8_isSeries M p3 p4 p5 p6) fun r_7 =>
  if r_7 = 0 then
  some ((-2000000001), M)
  else
  if (p3 + ((p5 - 1) * p6)) ≤ 364 then
  xb (f_X8_clashOfAll M p1 p2 p3 (p4 / 100) (p4 - p4 / 100 * 100) p5 p6) fun r_11 =>
  if r_11 = (-1) then
  if (M 1 10) = 12 then
  some ((-2000000003), M)
  else
  xb (f_X8_save M) fun M_15 =>
  xb (f_X8_makes M_15 p1 p2 p3 (p4 / 100) (p4 - p4 / 100 * 100) p5 p6) fun M_17 =>
  some (((M_17 1 10) - 1), M_17)
  else
  xl (upd2 M 0 4 r_11) fun M_19 =>
  some ((-2000000002), M_19)
  else
  some ((-2000000002), M)
def f_X8_hireInfo (M : xV) (p1 : Int32) (p2 : Int32) : Option (Int32) :=
  xb (f_X8_isHire M p1) fun r_1 =>
  if r_1 = 0 then
  some (-2000000001)
  else
  xb (f_X8_in (p2.toInt64) 0 15) fun r_4 =>
  if r_4 = 0 then
  some (-2000000001)
  else
  if p2 = 9 then
  xb (f_X8_manyOf M p1 0) fun r_8 =>
  some r_8
  else if p2 = 10 then
  xb (f_X8_manyOf M p1 1) fun r_11 =>
  some r_11
  else if p2 = 11 then
  xb (f_X8_manyOf M p1 2) fun r_14 =>
  some r_14
  else if p2 = 12 then
  xb (f_X8_of M p1 9) fun r_17 =>
  some r_17
  else if p2 = 13 then
  xb (f_X8_of M p1 11) fun r_20 =>
  some r_20
  else if p2 = 14 then
  xb (f_X8_keysOf M p1) fun r_23 =>
  some r_23
  else if p2 = 15 then
  xb (f_X8_of M p1 10) fun r_26 =>
  some r_26
  else 
  xb (f_X8_of M p1 p2) fun r_28 =>
  some r_28
def f_X8_hirer (M : xV) (p1 : Int32) (p2 : Int32) : Option (Int32) :=
  xb (f_X8_isHirer M p1) fun r_1 =>
  if r_1 = 0 then
  some (-2000000001)
  else
  xb (f_X8_in (p2.toInt64) 0 6) fun r_4 =>
  if r_4 = 0 then
  some (-2000000001)
  else
  xg (xin (20 + (2 * p1)) 820) <|
  xl (M 1 (20 + (2 * p1)).toNatClampNeg) fun x_8 =>
  xg (xin ((20 + (2 * p1)) + 1) 820) <|
  xl (M 1 ((20 + (2 * p1)) + 1).toNatClampNeg) fun x_10 =>
  if p2 = 0 then
  some x_8
  else
  if p2 = 1 then
  some x_10
  else
  if p2 = 2 then
  some (x_8 - x_10)
  else
  xb (f_X8_countHires M p1 p2) fun r_14 =>
  some r_14
def L_X8_holdsToday_4 (K_4 : Int32 → Int32 → xV → Option (Int32 × xV)) : Nat → Int32 → Int32 → xV → Option (Int32 × xV)
  | 0, _, _, _ => none
  | n + 1, x_1, x_2, M_3 =>
  if (20 * (M_3 1 10)) ≤ x_2 then
  K_4 x_1 x_2 M_3
  else
  xb (f_X8_isSession M_3 x_2) fun r_5 =>
  if r_5 = 0 then
  xl (x_2 + 1) fun x_8 =>
  L_X8_holdsToday_4 K_4  n x_1 x_8 M_3
  else
  xb (f_X8_stateOf M_3 x_2) fun r_9 =>
  if r_9 = 0 then
  xb (f_X8_dayOf M_3 x_2) fun r_13 =>
  if r_13 = (M_3 1 0) then
  xb (f_X8_at (x_2 / 20) (12 + (x_2 - x_2 / 20 * 20))) fun r_17 =>
  xg (xin r_17 820) <|
  xl (upd2 M_3 1 r_17.toNatClampNeg 1) fun M_20 =>
  xl (x_1 + 1) fun x_21 =>
  xl (x_2 + 1) fun x_22 =>
  L_X8_holdsToday_4 K_4  n x_21 x_22 M_20
  else
  xl (x_2 + 1) fun x_16 =>
  L_X8_holdsToday_4 K_4  n x_1 x_16 M_3
  else
  xl (x_2 + 1) fun x_12 =>
  L_X8_holdsToday_4 K_4  n x_1 x_12 M_3
def f_X8_holdsToday (M : xV) : Option (Int32 × xV) :=
  L_X8_holdsToday_4 (fun x_23 x_24 M_25 =>
  some (x_23, M_25)) 100000 0 0 M
def f_X8_isAhead (M : xV) (p1 : Int32) (p2 : Int32) : Option (Int32) :=
  xb (f_X8_dayOf M p1) fun r_1 =>
  xb (f_X8_dayOf M p2) fun r_3 =>
  xl (r_1 - r_3) fun x_5 =>
  if x_5 = 0 then
  xb (f_X8_of M (p1 / 20) 2) fun r_10 =>
  xb (f_X8_of M (p2 / 20) 2) fun r_12 =>
  xl (r_10 - r_12) fun x_14 =>
  if x_14 < 0 then
  some 1
  else
  if x_14 = 0 then
  if p2 ≤ p1 then
  some 0
  else
  some 1
  else
  some 0
  else
  if x_5 < 0 then
  some 1
  else
  if x_5 = 0 then
  if p2 ≤ p1 then
  some 0
  else
  some 1
  else
  some 0
def L_X8_placeOf_4 (K_4 : Int32 → Int32 → Option Int32) (M : xV) (p1 : Int32) : Nat → Int32 → Int32 → Option Int32
  | 0, _, _ => none
  | n + 1, x_1, x_2 =>
  if (20 * (M 1 10)) ≤ x_2 then
  K_4 x_1 x_2
  else
  xb (f_X8_isSession M x_2) fun r_4 =>
  if r_4 = 0 then
  xl (x_1 + 0) fun x_7 =>
  xl (x_2 + 1) fun x_8 =>
  L_X8_placeOf_4 K_4 M p1 n x_7 x_8
  else
  xb (f_X8_stateOf M x_2) fun r_9 =>
  if r_9 = 2 then
  xl (x_1 + 0) fun x_12 =>
  xl (x_2 + 1) fun x_13 =>
  L_X8_placeOf_4 K_4 M p1 n x_12 x_13
  else
  xb (f_X8_isAhead M x_2 p1) fun r_14 =>
  if r_14 = 0 then
  xl (x_1 + 0) fun x_17 =>
  xl (x_2 + 1) fun x_18 =>
  L_X8_placeOf_4 K_4 M p1 n x_17 x_18
  else
  xl (x_1 + 1) fun x_19 =>
  xl (x_2 + 1) fun x_20 =>
  L_X8_placeOf_4 K_4 M p1 n x_19 x_20
def f_X8_placeOf (M : xV) (p1 : Int32) : Option (Int32) :=
  L_X8_placeOf_4 (fun x_21 x_22 =>
  some x_21) M p1 100000 0 0
def L_X8_inOrder_9 (K_9 : Int32 → Option Int32) (M : xV) (p1 : Int32) : Nat → Int32 → Option Int32
  | 0, _ => none
  | n + 1, x_2 =>
  if (20 * (M 1 10)) ≤ x_2 then
  K_9 x_2
  else
  xb (f_X8_isSession M x_2) fun r_4 =>
  if r_4 = 0 then
  xl (x_2 + 1) fun x_7 =>
  L_X8_inOrder_9 K_9 M p1 n x_7
  else
  xb (f_X8_stateOf M x_2) fun r_8 =>
  if r_8 = 2 then
  xl (x_2 + 1) fun x_11 =>
  L_X8_inOrder_9 K_9 M p1 n x_11
  else
  xb (f_X8_placeOf M x_2) fun r_12 =>
  if r_12 = p1 then
  some x_2
  else
  xl (x_2 + 1) fun x_15 =>
  L_X8_inOrder_9 K_9 M p1 n x_15
def f_X8_inOrder (M : xV) (p1 : Int32) : Option (Int32) :=
  if 0 ≤ p1 then
  L_X8_inOrder_9 (fun x_16 =>
  some (-2000000004)) M p1 100000 0
  else
  some (-2000000001)
def f_X8_key (M : xV) (p1 : Int32) (p2 : Int32) : Option (Int32) :=
  xb (f_X8_isKey p1) fun r_1 =>
  if r_1 = 0 then
  some (-2000000001)
  else
  xb (f_X8_in (p2.toInt64) 0 4) fun r_4 =>
  if r_4 = 0 then
  some (-2000000001)
  else
  if p2 = 0 then
  some (p1 - p1 / 3 * 3)
  else
  xg (xin (40 + (2 * p1)) 820) <|
  xl (M 1 (40 + (2 * p1)).toNatClampNeg) fun x_9 =>
  if x_9 = (-1) then
  some (-2000000004)
  else
  if p2 = 1 then
  xb (f_X8_of M x_9 0) fun r_17 =>
  some r_17
  else
  if p2 = 2 then
  some x_9
  else
  if p2 = 3 then
  xg (xin ((40 + (2 * p1)) + 1) 820) <|
  some (M 1 ((40 + (2 * p1)) + 1).toNatClampNeg)
  else
  xb (f_X8_lateBy M p1) fun r_14 =>
  some r_14
def L_X8_lastPlanned_4 (K_4 : Int32 → Int32 → Option Int32) (M : xV) (p1 : Int32) : Nat → Int32 → Int32 → Option Int32
  | 0, _, _ => none
  | n + 1, x_1, x_2 =>
  xb (f_X8_of M p1 4) fun r_3 =>
  if r_3 ≤ x_2 then
  K_4 x_1 x_2
  else
  xb (f_X8_of M p1 (12 + x_2)) fun r_6 =>
  if r_6 = 0 then
  xl (x_2 + 1) fun x_10 =>
  L_X8_lastPlanned_4 K_4 M p1 n x_2 x_10
  else
  xl (x_2 + 1) fun x_9 =>
  L_X8_lastPlanned_4 K_4 M p1 n x_1 x_9
def f_X8_lastPlanned (M : xV) (p1 : Int32) : Option (Int32) :=
  L_X8_lastPlanned_4 (fun x_11 x_12 =>
  some x_11) M p1 100000 (-1) 0
def f_X8_lend (M : xV) (p1 : Int32) (p2 : Int32) : Option (Int32 × xV) :=
  xb (f_X8_isKey p1) fun r_1 =>
  if r_1 = 0 then
  some ((-2000000001), M)
  else
  xb (f_X8_isHire M p2) fun r_4 =>
  if r_4 = 0 then
  some ((-2000000001), M)
  else
  xb (f_X8_lastPlanned M p2) fun r_7 =>
  xg (xin (40 + (2 * p1)) 820) <|
  if (M 1 (40 + (2 * p1)).toNatClampNeg) = (-1) then
  if r_7 = (-1) then
  some ((-2000000002), M)
  else
  xb (f_X8_of M p2 1) fun r_12 =>
  if ((r_12 >>> ((p1 - p1 / 3 * 3) &&& 31)) &&& 1) = 0 then
  some ((-2000000002), M)
  else
  xb (f_X8_save M) fun M_15 =>
  xg (xin (40 + (2 * p1)) 820) <|
  xl (upd2 M_15 1 (40 + (2 * p1)).toNatClampNeg p2) fun M_18 =>
  xb (f_X8_dayOf M_18 ((20 * p2) + r_7)) fun r_19 =>
  xg (xin ((40 + (2 * p1)) + 1) 820) <|
  xl (upd2 M_18 1 ((40 + (2 * p1)) + 1).toNatClampNeg (r_19 + (M_18 1 8))) fun M_22 =>
  xg (xin ((40 + (2 * p1)) + 1) 820) <|
  some ((M_22 1 ((40 + (2 * p1)) + 1).toNatClampNeg), M_22)
  else
  some ((-2000000002), M)
def f_X8_mostOf (p1 : Int32) : Option (Int32) :=
  if p1 = 3 then
  some 100
  else if p1 = 4 then
  some 3
  else if p1 = 5 then
  some 50000
  else if p1 = 6 then
  some 5000
  else if p1 = 7 then
  some 30
  else 
  some 5000
def f_X8_takes (M : xV) (p1 : Int32) (p2 : Int32) (p3 : Int32) : Option (Int32 × xV) :=
  xb (f_X8_of M p1 9) fun r_1 =>
  if r_1 ≤ p2 then
  xb (f_X8_of M p1 9) fun r_4 =>
  xb (f_X8_at p1 9) fun r_6 =>
  xg (xin r_6 820) <|
  xg (xin r_6 820) <|
  xl (upd2 M 1 r_6.toNatClampNeg ((M 1 r_6.toNatClampNeg) - r_4)) fun M_10 =>
  xl (upd2 M_10 1 14 ((M_10 1 14) - r_4)) fun M_11 =>
  xg (xin (11 + p3) 820) <|
  xg (xin (11 + p3) 820) <|
  xl (upd2 M_11 1 (11 + p3).toNatClampNeg ((M_11 1 (11 + p3).toNatClampNeg) + r_4)) fun M_14 =>
  xl (upd2 M_14 1 18 ((M_14 1 18) + (p2 - r_4))) fun M_15 =>
  xb (f_X8_of M_15 p1 0) fun r_16 =>
  xb (f_X8_charges M_15 r_16 (p2 - r_4)) fun M_18 =>
  some (r_4, M_18)
  else
  xb (f_X8_at p1 9) fun r_20 =>
  xg (xin r_20 820) <|
  xg (xin r_20 820) <|
  xl (upd2 M 1 r_20.toNatClampNeg ((M 1 r_20.toNatClampNeg) - p2)) fun M_24 =>
  xl (upd2 M_24 1 14 ((M_24 1 14) - p2)) fun M_25 =>
  xg (xin (11 + p3) 820) <|
  xg (xin (11 + p3) 820) <|
  xl (upd2 M_25 1 (11 + p3).toNatClampNeg ((M_25 1 (11 + p3).toNatClampNeg) + p2)) fun M_28 =>
  xl (upd2 M_28 1 18 ((M_28 1 18) + (p2 - p2))) fun M_29 =>
  xb (f_X8_of M_29 p1 0) fun r_30 =>
  xb (f_X8_charges M_29 r_30 (p2 - p2)) fun M_32 =>
  some (p2, M_32)
def L_X8_pass_69 (K_69 : Int32 → Int32 → xV → Option (Int32 × xV)) : Nat → Int32 → Int32 → xV → Option (Int32 × xV)
  | 0, _, _, _ => none
  | n + 1, x_17, x_18, M_19 =>
  if 6 ≤ x_18 then
  K_69 x_17 x_18 M_19
  else
  xb (f_X8_lateBy M_19 x_18) fun r_21 =>
  if r_21 ≤ 0 then
  xl (x_18 + 1) fun x_24 =>
  L_X8_pass_69 K_69  n x_17 x_24 M_19
  else
  xg (xin (40 + (2 * x_18)) 820) <|
  xb2 (f_X8_takes M_19 (M_19 1 (40 + (2 * x_18)).toNatClampNeg) (M_19 1 7) 5) fun r_26 M_27 =>
  xl (x_17 + r_26) fun x_29 =>
  xl (x_18 + 1) fun x_30 =>
  L_X8_pass_69 K_69  n x_29 x_30 M_27
def L_X8_pass_43 (K_43 : Int32 → Int32 → Int32 → xV → Option (Int32 × xV)) (p1 : Int32) : Nat → Int32 → Int32 → Int32 → xV → Option (Int32 × xV)
  | 0, _, _, _, _ => none
  | n + 1, x_7, x_8, x_9, M_10 =>
  if p1 ≤ x_9 then
  K_43 x_7 x_8 x_9 M_10
  else
  xb2 (f_X8_holdsToday M_10) fun r_12 M_13 =>
  xl (x_7 + r_12) fun x_15 =>
  xl (upd2 M_13 1 0 ((M_13 1 0) + 1)) fun M_16 =>
  L_X8_pass_69 (fun x_31 x_32 M_33 =>
  xl (x_9 + 1) fun x_34 =>
  L_X8_pass_43 K_43 p1 n x_15 x_31 x_34 M_33) 100000 x_8 0 M_16
def f_X8_pass (M : xV) (p1 : Int32) : Option (Int32 × xV) :=
  xb (f_X8_in (p1.toInt64) 1 60) fun r_1 =>
  if r_1 = 0 then
  some ((-2000000001), M)
  else
  if ((M 1 0) + p1) ≤ 400 then
  xb (f_X8_save M) fun M_5 =>
  L_X8_pass_43 (fun x_35 x_36 x_37 M_38 =>
  if 0 ≤ x_36 then
  some (x_35, M_38)
  else
  some (0, M_38)) p1 100000 0 0 0 M_5
  else
  some ((-2000000003), M)
def f_X8_pay (M : xV) (p1 : Int32) (p2 : Int32) : Option (Int32 × xV) :=
  xb (f_X8_isHirer M p1) fun r_1 =>
  if r_1 = 0 then
  some ((-2000000001), M)
  else
  xb (f_X8_in (p2.toInt64) 1 1000000) fun r_4 =>
  if r_4 = 0 then
  some ((-2000000001), M)
  else
  xg (xin ((20 + (2 * p1)) + 1) 820) <|
  if ((M 1 ((20 + (2 * p1)) + 1).toNatClampNeg) + p2) ≤ 100000000 then
  xb (f_X8_save M) fun M_9 =>
  xb (f_X8_pays M_9 p1 p2) fun M_11 =>
  xl (upd2 M_11 1 19 ((M_11 1 19) + p2)) fun M_13 =>
  xg (xin (20 + (2 * p1)) 820) <|
  xg (xin ((20 + (2 * p1)) + 1) 820) <|
  some (((M_13 1 (20 + (2 * p1)).toNatClampNeg) - (M_13 1 ((20 + (2 * p1)) + 1).toNatClampNeg)), M_13)
  else
  some ((-2000000003), M)
def f_X8_price (M : xV) (p1 : Int32) (p2 : Int32) (p3 : Int32) : Option (Int32) :=
  xb (f_X8_in (p1.toInt64) 1 7) fun r_1 =>
  if r_1 = 0 then
  some (-2000000001)
  else
  xb (f_X8_areHours p2) fun r_4 =>
  if r_4 = 0 then
  some (-2000000001)
  else
  xb (f_X8_in (p3.toInt64) 1 20) fun r_7 =>
  if r_7 = 0 then
  some (-2000000001)
  else
  xb (f_X8_priceOf M p1 (p2 / 100) (p2 - p2 / 100 * 100) p3) fun r_10 =>
  some r_10
def f_X8_report (M : xV) (p1 : Int32) (p2 : Int32) : Option (Int32 × xV) :=
  xb (f_X8_isSession M p1) fun r_1 =>
  if r_1 = 0 then
  some ((-2000000001), M)
  else
  xb (f_X8_in (p2.toInt64) 0 3) fun r_4 =>
  if r_4 = 0 then
  some ((-2000000001), M)
  else
  xl (p1 / 20) fun x_7 =>
  if p2 = 1 then
  xb (f_X8_of M x_7 1) fun r_46 =>
  if (r_46 &&& 2) = 0 then
  xb (f_X8_stateOf M p1) fun r_49 =>
  if r_49 = 1 then
  xb (f_X8_of M x_7 10) fun r_52 =>
  if r_52 = 1 then
  some ((-2000000002), M)
  else
  some ((-2000000002), M)
  else
  some ((-2000000002), M)
  else
  xb (f_X8_stateOf M p1) fun r_55 =>
  if r_55 = 1 then
  xb (f_X8_of M x_7 10) fun r_58 =>
  if r_58 = 1 then
  some ((-2000000002), M)
  else
  xb (f_X8_of M x_7 11) fun r_61 =>
  if r_61 = 8 then
  some ((-2000000003), M)
  else
  xb (f_X8_save M) fun M_64 =>
  xb (f_X8_costOf M_64 x_7 p2) fun r_66 =>
  xb (f_X8_at x_7 (32 + (4 * r_61))) fun r_68 =>
  xg (xin r_68 820) <|
  xl (upd2 M_64 1 r_68.toNatClampNeg p2) fun M_71 =>
  xb (f_X8_at x_7 ((32 + (4 * r_61)) + 1)) fun r_72 =>
  xg (xin r_72 820) <|
  xl (upd2 M_71 1 r_72.toNatClampNeg p1) fun M_75 =>
  xb (f_X8_at x_7 ((32 + (4 * r_61)) + 2)) fun r_76 =>
  xg (xin r_76 820) <|
  xl (upd2 M_75 1 r_76.toNatClampNeg r_66) fun M_79 =>
  xb (f_X8_at x_7 ((32 + (4 * r_61)) + 3)) fun r_80 =>
  xb2 (f_X8_takes M_79 x_7 r_66 4) fun r_82 M_83 =>
  xg (xin r_80 820) <|
  xl (upd2 M_83 1 r_80.toNatClampNeg r_82) fun M_86 =>
  xb (f_X8_at x_7 11) fun r_87 =>
  xg (xin r_87 820) <|
  xg (xin r_87 820) <|
  xl (upd2 M_86 1 r_87.toNatClampNeg ((M_86 1 r_87.toNatClampNeg) + 1)) fun M_91 =>
  some (r_66, M_91)
  else
  some ((-2000000002), M)
  else
  xb (f_X8_stateOf M p1) fun r_9 =>
  if r_9 = 1 then
  xb (f_X8_of M x_7 10) fun r_12 =>
  if r_12 = 1 then
  some ((-2000000002), M)
  else
  xb (f_X8_of M x_7 11) fun r_15 =>
  if r_15 = 8 then
  some ((-2000000003), M)
  else
  xb (f_X8_save M) fun M_18 =>
  xb (f_X8_costOf M_18 x_7 p2) fun r_20 =>
  xb (f_X8_at x_7 (32 + (4 * r_15))) fun r_22 =>
  xg (xin r_22 820) <|
  xl (upd2 M_18 1 r_22.toNatClampNeg p2) fun M_25 =>
  xb (f_X8_at x_7 ((32 + (4 * r_15)) + 1)) fun r_26 =>
  xg (xin r_26 820) <|
  xl (upd2 M_25 1 r_26.toNatClampNeg p1) fun M_29 =>
  xb (f_X8_at x_7 ((32 + (4 * r_15)) + 2)) fun r_30 =>
  xg (xin r_30 820) <|
  xl (upd2 M_29 1 r_30.toNatClampNeg r_20) fun M_33 =>
  xb (f_X8_at x_7 ((32 + (4 * r_15)) + 3)) fun r_34 =>
  xb2 (f_X8_takes M_33 x_7 r_20 4) fun r_36 M_37 =>
  xg (xin r_34 820) <|
  xl (upd2 M_37 1 r_34.toNatClampNeg r_36) fun M_40 =>
  xb (f_X8_at x_7 11) fun r_41 =>
  xg (xin r_41 820) <|
  xg (xin r_41 820) <|
  xl (upd2 M_40 1 r_41.toNatClampNeg ((M_40 1 r_41.toNatClampNeg) + 1)) fun M_45 =>
  some (r_20, M_45)
  else
  some ((-2000000002), M)
def f_X8_session (M : xV) (p1 : Int32) (p2 : Int32) : Option (Int32) :=
  xb (f_X8_isSession M p1) fun r_1 =>
  if r_1 = 0 then
  some (-2000000001)
  else
  xb (f_X8_in (p2.toInt64) 0 3) fun r_4 =>
  if r_4 = 0 then
  some (-2000000001)
  else
  if p2 = 3 then
  xb (f_X8_stateOf M p1) fun r_16 =>
  if r_16 = 0 then
  xb (f_X8_refundOf M p1) fun r_19 =>
  some r_19
  else
  some (-2000000004)
  else
  if p2 = 0 then
  xb (f_X8_dayOf M p1) fun r_14 =>
  some r_14
  else
  if p2 = 1 then
  xb (f_X8_stateOf M p1) fun r_12 =>
  some r_12
  else
  xb (f_X8_shareOf M p1) fun r_10 =>
  some r_10
def f_X8_set (M : xV) (p1 : Int32) (p2 : Int32) : Option (Int32 × xV) :=
  xb (f_X8_in (p1.toInt64) 0 7) fun r_1 =>
  if r_1 = 0 then
  some ((-2000000001), M)
  else
  xb (f_X8_mostOf p1) fun r_4 =>
  xb (f_X8_in (p2.toInt64) 0 (r_4.toInt64)) fun r_6 =>
  if r_6 = 0 then
  some ((-2000000001), M)
  else
  xb (f_X8_save M) fun M_9 =>
  xg (xin (1 + p1) 820) <|
  xl (M_9 1 (1 + p1).toNatClampNeg) fun x_12 =>
  xg (xin (1 + p1) 820) <|
  xl (upd2 M_9 1 (1 + p1).toNatClampNeg p2) fun M_14 =>
  some (x_12, M_14)
def f_X8_settle (M : xV) (p1 : Int32) : Option (Int32 × xV) :=
  xb (f_X8_isHire M p1) fun r_1 =>
  if r_1 = 0 then
  some ((-2000000001), M)
  else
  xb (f_X8_of M p1 10) fun r_4 =>
  if r_4 = 1 then
  some ((-2000000002), M)
  else
  xb (f_X8_manyOf M p1 0) fun r_7 =>
  if 0 < r_7 then
  some ((-2000000002), M)
  else
  xb (f_X8_keysOf M p1) fun r_10 =>
  if r_10 ≤ 0 then
  xb (f_X8_save M) fun M_13 =>
  xb (f_X8_of M_13 p1 9) fun r_15 =>
  xb (f_X8_at p1 9) fun r_17 =>
  xg (xin r_17 820) <|
  xl (upd2 M_13 1 r_17.toNatClampNeg 0) fun M_20 =>
  xb (f_X8_at p1 10) fun r_21 =>
  xg (xin r_21 820) <|
  xl (upd2 M_20 1 r_21.toNatClampNeg 1) fun M_24 =>
  xl (upd2 M_24 1 14 ((M_24 1 14) - r_15)) fun M_25 =>
  xl (upd2 M_25 1 17 ((M_25 1 17) + r_15)) fun M_26 =>
  xb (f_X8_of M_26 p1 0) fun r_27 =>
  xb (f_X8_pays M_26 r_27 r_15) fun M_29 =>
  some (r_15, M_29)
  else
  some ((-2000000002), M)
def L_X8_taken_118 (K_118 : Int32 → Int32 → Option Int32) (M : xV) (x_8 : Int32) : Nat → Int32 → Int32 → Option Int32
  | 0, _, _ => none
  | n + 1, x_20, x_21 =>
  xb (f_X8_of M x_8 3) fun r_22 =>
  if r_22 ≤ x_21 then
  K_118 x_20 x_21
  else
  K_118 x_20 x_21
def L_X8_taken_118a (K_118 : Int32 → Int32 → Option Int32) (M : xV) (x_8 : Int32) : Nat → Int32 → Int32 → Option Int32
  | 0, _, _ => none
  | n + 1, x_33, x_34 =>
  xb (f_X8_of M x_8 3) fun r_35 =>
  if r_35 ≤ x_34 then
  K_118 x_33 x_34
  else
  K_118 x_33 x_34
def L_X8_taken_118b (K_118 : Int32 → Int32 → Option Int32) (M : xV) (x_8 : Int32) : Nat → Int32 → Int32 → Option Int32
  | 0, _, _ => none
  | n + 1, x_46, x_47 =>
  xb (f_X8_of M x_8 3) fun r_48 =>
  if r_48 ≤ x_47 then
  K_118 x_46 x_47
  else
  K_118 x_46 x_47
def L_X8_taken_118c (K_118 : Int32 → Int32 → Option Int32) (M : xV) (x_8 : Int32) : Nat → Int32 → Int32 → Option Int32
  | 0, _, _ => none
  | n + 1, x_56, x_57 =>
  xb (f_X8_of M x_8 3) fun r_58 =>
  if r_58 ≤ x_57 then
  K_118 x_56 x_57
  else
  xl (x_56 ||| ((1 : Int32) <<< (x_57 &&& 31))) fun x_61 =>
  xl (x_57 + 1) fun x_62 =>
  L_X8_taken_118c K_118 M x_8 n x_61 x_62
def L_X8_taken_47 (K_47 : Int32 → Int32 → Option Int32) (M : xV) (p1 : Int32) (p2 : Int32) (x_8 : Int32) : Nat → Int32 → Int32 → Option Int32
  | 0, _, _ => none
  | n + 1, x_10, x_11 =>
  xb (f_X8_of M x_8 4) fun r_12 =>
  if r_12 ≤ x_11 then
  K_47 x_10 x_11
  else
  xb (f_X8_of M x_8 (12 + x_11)) fun r_15 =>
  if r_15 = 2 then
  xb (f_X8_of M x_8 2) fun r_18 =>
  L_X8_taken_118 (fun x_25 x_26 =>
  xl (x_11 + 1) fun x_27 =>
  L_X8_taken_47 K_47 M p1 p2 x_8 n x_25 x_27) M x_8 100000 x_10 r_18
  else
  xb (f_X8_dayOf M ((20 * x_8) + x_11)) fun r_28 =>
  if r_28 = p1 then
  xb (f_X8_of M x_8 1) fun r_41 =>
  if (r_41 &&& p2) = 0 then
  xb (f_X8_of M x_8 2) fun r_44 =>
  L_X8_taken_118b (fun x_51 x_52 =>
  xl (x_11 + 1) fun x_53 =>
  L_X8_taken_47 K_47 M p1 p2 x_8 n x_51 x_53) M x_8 100000 x_10 r_44
  else
  xb (f_X8_of M x_8 2) fun r_54 =>
  L_X8_taken_118c (fun x_63 x_64 =>
  xl (x_11 + 1) fun x_65 =>
  L_X8_taken_47 K_47 M p1 p2 x_8 n x_63 x_65) M x_8 100000 x_10 r_54
  else
  xb (f_X8_of M x_8 2) fun r_31 =>
  L_X8_taken_118a (fun x_38 x_39 =>
  xl (x_11 + 1) fun x_40 =>
  L_X8_taken_47 K_47 M p1 p2 x_8 n x_38 x_40) M x_8 100000 x_10 r_31
def L_X8_taken_32 (K_32 : Int32 → Int32 → Option Int32) (M : xV) (p1 : Int32) (p2 : Int32) : Nat → Int32 → Int32 → Option Int32
  | 0, _, _ => none
  | n + 1, x_7, x_8 =>
  if (M 1 10) ≤ x_8 then
  K_32 x_7 x_8
  else
  L_X8_taken_47 (fun x_66 x_67 =>
  xl (x_8 + 1) fun x_68 =>
  L_X8_taken_32 K_32 M p1 p2 n x_66 x_68) M p1 p2 x_8 100000 x_7 0
def f_X8_taken (M : xV) (p1 : Int32) (p2 : Int32) : Option (Int32) :=
  xb (f_X8_in (p1.toInt64) 0 364) fun r_1 =>
  if r_1 = 0 then
  some (-2000000001)
  else
  xb (f_X8_in (p2.toInt64) 1 7) fun r_4 =>
  if r_4 = 0 then
  some (-2000000001)
  else
  L_X8_taken_32 (fun x_69 x_70 =>
  some x_69) M p1 p2 100000 0 0
def f_X8_textFault (M : xV) (p1 : Int32) : Option (Int32 × xV) :=
  xb (f_X8_in (p1.toInt64) 0 1) fun r_1 =>
  if r_1 = 0 then
  some ((-2000000001), M)
  else
  xb (f_X8_laysAside M) fun M_4 =>
  xb2 (f_X8_makesAll M_4) fun r_6 M_7 =>
  xb (f_X8_takesBack M_7) fun M_9 =>
  if r_6 = (-1) then
  some ((-2000000004), M_9)
  else
  if p1 = 0 then
  some (r_6, M_9)
  else
  some ((M_9 0 15), M_9)
def f_X8_type (M : xV) (p1 : Int32) : Option (Int32 × xV) :=
  xb (f_X8_in (p1.toInt64) 32 126) fun r_1 =>
  if r_1 = 0 then
  some ((-2000000001), M)
  else
  if (M 0 6) = 80 then
  some ((-2000000003), M)
  else
  xg (xin (M 0 6) 80) <|
  xl (upd2 M 4 (M 0 6).toNatClampNeg p1) fun M_6 =>
  xl (upd2 M_6 0 6 ((M_6 0 6) + 1)) fun M_7 =>
  some ((M_7 0 6), M_7)
def L_X8_undo_22 (K_22 : Int32 → xV → Option (Int32 × xV)) : Nat → Int32 → xV → Option (Int32 × xV)
  | 0, _, _ => none
  | n + 1, x_3, M_4 =>
  if 820 ≤ x_3 then
  K_22 x_3 M_4
  else
  xg (xin ((820 * (M_4 0 3)) + x_3) 3280) <|
  xg (xin x_3 820) <|
  xl (upd2 M_4 1 x_3.toNatClampNeg (M_4 2 ((820 * (M_4 0 3)) + x_3).toNatClampNeg)) fun M_8 =>
  xl (x_3 + 1) fun x_9 =>
  L_X8_undo_22 K_22  n x_9 M_8
def f_X8_undo (M : xV) : Option (Int32 × xV) :=
  if (M 0 3) = 0 then
  some ((-2000000002), M)
  else
  xl (upd2 M 0 3 ((M 0 3) - 1)) fun M_2 =>
  L_X8_undo_22 (fun x_10 M_11 =>
  some ((M_11 0 3), M_11)) 100000 0 M_2
