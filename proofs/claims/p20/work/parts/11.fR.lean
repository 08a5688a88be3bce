def fB_X2_clear_L59  (k59 : Int32 → Tr → Option (Tr)) (x1 : Int32) (P : Tr) : Option (Tr) :=
  if 3 ≤ x1 then (some P) else (ck (okI x1 3) (lt (st P (30 + 3 * x1.toNatClampNeg) 1 0) fun P_11 => lt (x1 + 1) fun y12 => k59 y12 P_11))
def fL_X2_clear_L59  : Int32 → Tr → Option (Tr) := lpF (fun _ _ => none) (fB_X2_clear_L59 ) 2000
def fB_X2_clear_L37  (k37 : Int32 → Tr → Option (Tr)) (x1 : Int32) (P : Tr) : Option (Tr) :=
  if 20 < x1 then (fL_X2_clear_L59  0 P) else (ck (okI x1 21) (lt (st P 18 x1.toNatClampNeg 60) fun P_14 => lt (x1 + 1) fun y15 => k37 y15 P_14))
def fL_X2_clear_L37  : Int32 → Tr → Option (Tr) := lpF (fun _ _ => none) (fB_X2_clear_L37 ) 2000
def f_X2_clear (P : Tr) : Option (Tr) :=
  lt (st P 0 0 0) fun P_1 => lt (st P_1 0 1 0) fun P_2 => lt (st P_2 0 2 0) fun P_3 => lt (st P_3 0 3 0) fun P_4 => lt (st P_4 0 4 0) fun P_5 => lt (st P_5 0 5 0) fun P_6 => lt (st P_6 0 6 0) fun P_7 => fL_X2_clear_L37  0 P_7
def f_X5_at (K : Tr) (x1 : Int32) : Option (Int32) :=
  if x1 < 0 then (some (-1)) else (if (K 0 6) ≤ x1 then (some (-1)) else (if 700 ≤ x1 then (some (-1)) else (ck (okI x1 700) (some ((K 5 x1.toNatClampNeg) &&& 255)))))
def f_X5_isBlank (x0 : Int32) : Option (Int32) :=
  if x0 = 10 then (some 1) else (if x0 = 32 then (some 1) else (some 0))
def f_X5_isLetter (x0 : Int32) : Option (Int32) :=
  if x0 < 97 then (some 0) else (if 122 < x0 then (some 0) else (some 1))
def fB_X5_readWord_L115  (k115 : Int32 → Tr → Option (Tr)) (x3 : Int32) (K : Tr) : Option (Tr) :=
  if 29 ≤ x3 then (some K) else (ck (okI x3 29) (if (K 6 x3.toNatClampNeg) = (K 0 3) then (lt (st K 0 1 x3) fun K_10 => lt (x3 + 1) fun y11 => k115 y11 K_10) else (lt (x3 + 1) fun y9 => k115 y9 K)))
def fL_X5_readWord_L115  : Int32 → Tr → Option (Tr) := lpF (fun _ _ => none) (fB_X5_readWord_L115 ) 2000
def fJ_X5_readWord_J72  (x1 : Int32) (K : Tr) : Option (Tr) :=
  lt ((K 0 7) - (K 0 2)) fun y2 => if y2 ≤ 6 then (lt (st K 0 3 (x1 <<< (((5 : Int32) * ((6 : Int32) - y2)) &&& 31))) fun K_4 => lt (st K_4 0 1 43) fun K_5 => fL_X5_readWord_L115  0 K_5) else (lt (st K 0 1 44) fun K_12 => some K_12)
def fJ_X5_readWord_J59 (k2 : Int32 → Tr → Option (Tr)) (x1 : Int32) (K : Tr) : Option (Tr) :=
  lt (st K 0 7 ((K 0 7) + 1)) fun K_21 => k2 x1 K_21
def fB_X5_readWord_L2  (k2 : Int32 → Tr → Option (Tr)) (x1 : Int32) (K : Tr) : Option (Tr) :=
  if (K 0 6) ≤ (K 0 7) then (fJ_X5_readWord_J72  x1 K) else (bd (f_X5_at K (K 0 7)) fun r13 => bd (f_X5_isLetter r13) fun r16 => if r16 = 0 then (fJ_X5_readWord_J72  x1 K) else (if 6 ≤ ((K 0 7) - (K 0 2)) then (fJ_X5_readWord_J59 k2 x1 K) else (bd (f_X5_at K (K 0 7)) fun r22 => lt ((x1 <<< (5 &&& 31)) ||| ((r22 - 97) + 1)) fun y25 => fJ_X5_readWord_J59 k2 y25 K)))
def fL_X5_readWord_L2  : Int32 → Tr → Option (Tr) := lpF (fun _ _ => none) (fB_X5_readWord_L2 ) 2000
def f_X5_readWord (K : Tr) : Option (Tr) :=
  fL_X5_readWord_L2  0 K
def f_X5_isDigit (x0 : Int32) : Option (Int32) :=
  if x0 < 48 then (some 0) else (if 57 < x0 then (some 0) else (some 1))
def fJ_X5_readNumber_J75  (K : Tr) : Option (Tr) :=
  lt (st K 0 1 42) fun K_3 => some K_3
def fJ_X5_readNumber_J62 (k5 : Tr → Option (Tr)) (K : Tr) : Option (Tr) :=
  lt (st K 0 7 ((K 0 7) + 1)) fun K_12 => k5 K_12
def fB_X5_readNumber_L5  (k5 : Tr → Option (Tr)) (K : Tr) : Option (Tr) :=
  if (K 0 6) ≤ (K 0 7) then (fJ_X5_readNumber_J75  K) else (bd (f_X5_at K (K 0 7)) fun r4 => bd (f_X5_isDigit r4) fun r7 => if r7 = 0 then (fJ_X5_readNumber_J75  K) else (if 1000000 ≤ (K 0 3) then (fJ_X5_readNumber_J62 k5 K) else (bd (f_X5_at K (K 0 7)) fun r13 => lt (st K 0 3 ((((K 0 3) * 10) + r13) - 48)) fun K_16 => fJ_X5_readNumber_J62 k5 K_16)))
def fL_X5_readNumber_L5  : Tr → Option (Tr) := lpF (fun _ => none) (fB_X5_readNumber_L5 ) 2000
def f_X5_readNumber (K : Tr) : Option (Tr) :=
  lt (st K 0 3 0) fun K_1 => fL_X5_readNumber_L5  K_1
def f_X5_sign (x0 : Int32) (x1 : Int32) : Option (Int32) :=
  if x0 = 40 then (some 39) else (if x0 = 41 then (some 40) else (if x0 = 42 then (some 37) else (if x0 = 43 then (some 35) else (if x0 = 45 then (some 36) else (if x0 = 47 then (some 38) else (if x0 = 59 then (some 41) else (if x0 = 60 then (if x1 = 61 then (some 30) else (if x1 = 62 then (some 32) else (some 29))) else (if x0 = 61 then (some 31) else (if x0 = 62 then (if x1 = 61 then (some 33) else (some 34)) else (some 44))))))))))
def fJ_X5_advance_J149  (K : Tr) : Option (Tr) :=
  lt (st K 0 7 ((K 0 7) + 1)) fun K_24 => some K_24
def fJ_X5_advance_J38  (K : Tr) : Option (Tr) :=
  lt (st K 0 2 (K 0 7)) fun K_2 => bd (f_X5_at K_2 (K_2 0 7)) fun r3 => if 0 ≤ r3 then (bd (f_X5_isLetter r3) fun r7 => if r7 = 0 then (bd (f_X5_isDigit r3) fun r11 => if r11 = 0 then (lt (st K_2 0 7 ((K_2 0 7) + 1)) fun K_15 => bd (f_X5_at K_15 (K_15 0 7)) fun r16 => bd (f_X5_sign r3 r16) fun r19 => lt (st K_15 0 1 r19) fun K_22 => if (K_22 0 1) = 30 then (fJ_X5_advance_J149  K_22) else (if (K_22 0 1) = 32 then (fJ_X5_advance_J149  K_22) else (if (K_22 0 1) = 33 then (fJ_X5_advance_J149  K_22) else (some K_22)))) else (bd (f_X5_readNumber K_2) fun K_27 => some K_27)) else (bd (f_X5_readWord K_2) fun K_30 => some K_30)) else (lt (st K_2 0 1 45) fun K_33 => some K_33)
def fB_X5_advance_L0  (k0 : Tr → Option (Tr)) (K : Tr) : Option (Tr) :=
  if (K 0 6) ≤ (K 0 7) then (fJ_X5_advance_J38  K) else (bd (f_X5_at K (K 0 7)) fun r34 => bd (f_X5_isBlank r34) fun r37 => if r37 = 0 then (fJ_X5_advance_J38  K) else (lt (st K 0 7 ((K 0 7) + 1)) fun K_41 => k0 K_41))
def fL_X5_advance_L0  : Tr → Option (Tr) := lpF (fun _ => none) (fB_X5_advance_L0 ) 2000
def f_X5_advance (K : Tr) : Option (Tr) :=
  fL_X5_advance_L0  K
def f_X5_begin (K : Tr) (x1 : Int32) : Option (Tr) :=
  lt (st K 0 6 x1) fun K_1 => lt (st K_1 0 7 0) fun K_2 => bd (f_X5_advance K_2) fun K_3 => some K_3
def f_X3_expect (K : Tr) (R : Tr) (x1 : Int32) (x2 : Int32) : Option (Int32 × Tr) :=
  if x1 = 0 then (lt (st R 0 1 x2) fun R_3 => lt (st R_3 0 2 (K 0 2)) fun R_4 => ck (okB x1) (some (x1, R_4))) else (ck (okB x1) (some (x1, R)))
def f_X3_openSign (R : Tr) (x1 : Int32) : Option (Int32 × Tr) :=
  if 72 ≤ (R 0 8) then (some (1, R)) else (ck (okI (R 0 8) 72) (lt (st R 8 ((R 0 8).toNatClampNeg) x1) fun R_3 => lt (st R_3 0 8 ((R_3 0 8) + 1)) fun R_4 => some (1, R_4)))
def f_X3_openBracket (R : Tr) : Option (Int32 × Tr) :=
  lt (st R 0 9 ((R 0 9) + 1)) fun R_1 => bd (f_X3_openSign R_1 (39 : Int32)) fun q => lt q.1 fun r2 => lt q.2 fun R_3 => ck (okB r2) (some (r2, R_3))
def f_X3_latestBinds (R : Tr) : Option (Int32) :=
  if (R 0 8) = 0 then (some (-1)) else (ck (okI ((R 0 8) - 1) 72) (ck (okI (R 8 ((R 0 8) - 1).toNatClampNeg) 40) (some (bindsF (R 8 ((R 0 8) - 1).toNatClampNeg).toNatClampNeg))))
def fJ_X3_countKnot_J18 (K : Tr) (s0 : Int32) (R : Tr) (P : Tr) : Option (Int32 × Tr × Tr) :=
  bd (f_X3_expect K R s0 (2 : Int32)) fun q => lt q.1 fun r2 => lt q.2 fun R_3 => if r2 = 0 then (some (0, R_3, P)) else (lt (st P 0 3 ((P 0 3) + 1)) fun P_7 => some (1, R_3, P_7))
def f_X3_countKnot (K : Tr) (R : Tr) (P : Tr) : Option (Int32 × Tr × Tr) :=
  if 64 ≤ (P 0 3) then (fJ_X3_countKnot_J18 K 0 R P) else (fJ_X3_countKnot_J18 K 1 R P)
def f_X1_append (j : Nat) (P : Tr) (x1 : Int32) : Option (Tr) :=
  if 64 ≤ (P (30 + 3 * j) 1) then (some P) else (ck (okI (P (30 + 3 * j) 1) 64) (lt (st P (31 + 3 * j) ((P (30 + 3 * j) 1).toNatClampNeg) x1) fun P_3 => lt (st P_3 (30 + 3 * j) 1 ((P_3 (30 + 3 * j) 1) + 1)) fun P_4 => some P_4))
def f_X3_put (j : Nat) (P : Tr) (x1 : Int32) : Option (Int32 × Tr) :=
  bd (f_X1_append j P x1) fun P_1 => some (1, P_1)
def f_X3_isFact (x0 : Int32) : Option (Int32) :=
  if x0 < 22 then (some 0) else (if 28 < x0 then (some 0) else (some 1))
def fJ_X3_readOperand_J126 (j : Nat) (K : Tr) (s0 : Int32) (R : Tr) (P : Tr) : Option (Int32 × Tr × Tr) :=
  bd (f_X3_expect K R s0 (2 : Int32)) fun q => lt q.1 fun r25 => lt q.2 fun R_26 => if r25 = 0 then (some (0, R_26, P)) else (bd (f_X3_countKnot K R_26 P) fun q => lt q.1 fun r30 => lt q.2.1 fun R_31 => lt q.2.2 fun P_32 => if r30 = 0 then (some (0, R_31, P_32)) else (bd (f_X3_put j P_32 (K 0 3)) fun q => lt q.1 fun r36 => lt q.2 fun P_37 => if r36 = 0 then (some (0, R_31, P_37)) else (some (1, R_31, P_37))))
def fJ_X3_readOperand_J73 (j : Nat) (K : Tr) (x2 : Int32) (s0 : Int32) (R : Tr) (P : Tr) : Option (Int32 × Tr × Tr) :=
  bd (f_X3_expect K R s0 (1 : Int32)) fun q => lt q.1 fun r46 => lt q.2 fun R_47 => if r46 = 0 then (some (0, R_47, P)) else (bd (f_X3_countKnot K R_47 P) fun q => lt q.1 fun r51 => lt q.2.1 fun R_52 => lt q.2.2 fun P_53 => if r51 = 0 then (some (0, R_52, P_53)) else (bd (f_X3_openSign R_52 x2) fun q => lt q.1 fun r57 => lt q.2 fun R_58 => if r57 = 0 then (some (0, R_58, P_53)) else (some (1, R_58, P_53))))
def fJ_X3_readOperand_J29 (j : Nat) (K : Tr) (s0 : Int32) (R : Tr) (P : Tr) : Option (Int32 × Tr × Tr) :=
  bd (f_X3_expect K R s0 (2 : Int32)) fun q => lt q.1 fun r63 => lt q.2 fun R_64 => if r63 = 0 then (some (0, R_64, P)) else (bd (f_X3_openBracket R_64) fun q => lt q.1 fun r68 => lt q.2 fun R_69 => if r68 = 0 then (some (0, R_69, P)) else (some (1, R_69, P)))
def f_X3_readOperand (j : Nat) (K : Tr) (R : Tr) (P : Tr) : Option (Int32 × Tr × Tr) :=
  lt (K 0 1) fun y1 => if y1 = 39 then (if 8 ≤ (R 0 9) then (fJ_X3_readOperand_J29 j K 0 R P) else (fJ_X3_readOperand_J29 j K 1 R P)) else (if y1 = 21 then (bd (f_X3_latestBinds R) fun r41 => ck (okI y1 40) (if (bindsF y1.toNatClampNeg) < r41 then (fJ_X3_readOperand_J73 j K y1 0 R P) else (fJ_X3_readOperand_J73 j K y1 1 R P))) else (if y1 = 42 then (if 10000 ≤ (K 0 3) then (fJ_X3_readOperand_J126 j K 0 R P) else (fJ_X3_readOperand_J126 j K 1 R P)) else (bd (f_X3_isFact y1) fun r5 => bd (f_X3_expect K R r5 (1 : Int32)) fun q => lt q.1 fun r8 => lt q.2 fun R_9 => if r8 = 0 then (some (0, R_9, P)) else (bd (f_X3_countKnot K R_9 P) fun q => lt q.1 fun r13 => lt q.2.1 fun R_14 => lt q.2.2 fun P_15 => if r13 = 0 then (some (0, R_14, P_15)) else (bd (f_X3_put j P_15 ((10000 : Int32) + y1)) fun q => lt q.1 fun r19 => lt q.2 fun P_20 => if r19 = 0 then (some (0, R_14, P_20)) else (some (1, R_14, P_20)))))))
def f_X3_isJoining (x0 : Int32) : Option (Int32) :=
  if x0 = 19 then (some 1) else (if x0 = 20 then (some 1) else (if x0 < 29 then (some 0) else (if 38 < x0 then (some 0) else (some 1))))
def fB_X3_closeSigns_L0 (j : Nat) (x2 : Int32) (k0 : Tr → Tr → Option (Tr × Tr)) (R : Tr) (P : Tr) : Option (Tr × Tr) :=
  if (R 0 8) ≤ 0 then (some (R, P)) else (bd (f_X3_latestBinds R) fun r2 => if r2 < x2 then (some (R, P)) else (lt (st R 0 8 ((R 0 8) - 1)) fun R_6 => ck (okI (R_6 0 8) 72) (bd (f_X1_append j P ((10000 : Int32) + (R_6 8 (R_6 0 8).toNatClampNeg))) fun P_8 => k0 R_6 P_8)))
def fL_X3_closeSigns_L0 (j : Nat) (x2 : Int32) : Tr → Tr → Option (Tr × Tr) := lpF (fun _ _ => none) (fB_X3_closeSigns_L0 j x2) 2000
def f_X3_closeSigns (j : Nat) (R : Tr) (P : Tr) (x2 : Int32) : Option (Tr × Tr) :=
  fL_X3_closeSigns_L0 j x2 R P
def fJ_X3_readJoining_J57 (j : Nat) (K : Tr) (s0 : Int32) (R : Tr) (P : Tr) : Option (Int32 × Tr × Tr) :=
  bd (f_X3_expect K R s0 (1 : Int32)) fun q => lt q.1 fun r10 => lt q.2 fun R_11 => if r10 = 0 then (some (0, R_11, P)) else (bd (f_X3_countKnot K R_11 P) fun q => lt q.1 fun r15 => lt q.2.1 fun R_16 => lt q.2.2 fun P_17 => if r15 = 0 then (some (0, R_16, P_17)) else (bd (f_X3_openSign R_16 (K 0 1)) fun q => lt q.1 fun r21 => lt q.2 fun R_22 => if r21 = 0 then (some (0, R_22, P_17)) else (some (1, R_22, P_17))))
def fJ_X3_readJoining_J52 (j : Nat) (K : Tr) (R : Tr) (P : Tr) : Option (Int32 × Tr × Tr) :=
  fJ_X3_readJoining_J57 j K 1 R P
def fJ_X3_readJoining_J36 (j : Nat) (K : Tr) (x2 : Int32) (x3 : Int32) (s0 : Int32) (R : Tr) (P : Tr) : Option (Int32 × Tr × Tr) :=
  bd (f_X3_closeSigns j R P s0) fun q => lt q.1 fun R_5 => lt q.2 fun P_6 => if x3 = 0 then (fJ_X3_readJoining_J52 j K R_5 P_6) else (bd (f_X3_latestBinds R_5) fun r26 => if x2 ≤ r26 then (fJ_X3_readJoining_J57 j K 0 R_5 P_6) else (fJ_X3_readJoining_J52 j K R_5 P_6))
def fJ_X3_readJoining_J22 (j : Nat) (K : Tr) (x2 : Int32) (s0 : Int32) (R : Tr) (P : Tr) : Option (Int32 × Tr × Tr) :=
  if s0 = 0 then (fJ_X3_readJoining_J36 j K x2 s0 x2 R P) else (fJ_X3_readJoining_J36 j K x2 s0 (x2 + 1) R P)
def f_X3_readJoining (j : Nat) (K : Tr) (R : Tr) (P : Tr) : Option (Int32 × Tr × Tr) :=
  ck (okI (K 0 1) 40) (lt (bindsF (K 0 1).toNatClampNeg) fun y2 => if y2 = 4 then (fJ_X3_readJoining_J22 j K y2 1 R P) else (fJ_X3_readJoining_J22 j K y2 0 R P))
def f_X3_closeBracket (j : Nat) (R : Tr) (P : Tr) : Option (Tr × Tr) :=
  bd (f_X3_closeSigns j R P (1 : Int32)) fun q => lt q.1 fun R_1 => lt q.2 fun P_2 => lt (st R_1 0 8 ((R_1 0 8) - 1)) fun R_5 => lt (st R_5 0 9 ((R_5 0 9) - 1)) fun R_6 => some (R_6, P_2)
def fJ_X3_readFormula_J173 (j : Nat) (s0 : Int32) (K : Tr) (R : Tr) (P : Tr) : Option (Int32 × Tr × Tr × Tr) :=
  bd (f_X3_expect K R s0 (1 : Int32)) fun q => lt q.1 fun r10 => lt q.2 fun R_11 => if r10 = 0 then (some (0, K, R_11, P)) else (some (1, K, R_11, P))
def fJ_X3_readFormula_J147 (j : Nat) (K : Tr) (R : Tr) (P : Tr) : Option (Int32 × Tr × Tr × Tr) :=
  bd (f_X3_closeSigns j R P (1 : Int32)) fun q => lt q.1 fun R_4 => lt q.2 fun P_5 => if (R_4 0 1) = 0 then (if (R_4 0 9) = 0 then (fJ_X3_readFormula_J173 j 1 K R_4 P_5) else (fJ_X3_readFormula_J173 j 0 K R_4 P_5)) else (some (0, K, R_4, P_5))
def fJ_X3_readFormula_J130 (k17 : Int32 → Int32 → Int32 → Tr → Tr → Tr → Option (Int32 × Tr × Tr × Tr)) (j : Nat) (x2 : Int32) (x3 : Int32) (x4 : Int32) (K : Tr) (R : Tr) (P : Tr) : Option (Int32 × Tr × Tr × Tr) :=
  if x3 = 0 then (lt (x4 + 1) fun y24 => k17 x2 x3 y24 K R P) else (bd (f_X5_advance K) fun K_25 => lt (x4 + 1) fun y28 => k17 x2 x3 y28 K_25 R P)
def fJ_X3_readFormula_J120 (k17 : Int32 → Int32 → Int32 → Tr → Tr → Tr → Option (Int32 × Tr × Tr × Tr)) (j : Nat) (x2 : Int32) (x4 : Int32) (s0 : Int32) (K : Tr) (R : Tr) (P : Tr) : Option (Int32 × Tr × Tr × Tr) :=
  if s0 = 0 then (fJ_X3_readFormula_J130 k17 j x2 s0 x4 K R P) else (bd (f_X3_closeBracket j R P) fun q => lt q.1 fun R_29 => lt q.2 fun P_30 => fJ_X3_readFormula_J130 k17 j x2 s0 x4 K R_29 P_30)
def fJ_X3_readFormula_J119 (k17 : Int32 → Int32 → Int32 → Tr → Tr → Tr → Option (Int32 × Tr × Tr × Tr)) (j : Nat) (x2 : Int32) (x4 : Int32) (K : Tr) (R : Tr) (P : Tr) : Option (Int32 × Tr × Tr × Tr) :=
  fJ_X3_readFormula_J120 k17 j x2 x4 0 K R P
def fJ_X3_readFormula_J62 (k17 : Int32 → Int32 → Int32 → Tr → Tr → Tr → Option (Int32 × Tr × Tr × Tr)) (j : Nat) (x4 : Int32) (s0 : Int32) (K : Tr) (R : Tr) (P : Tr) : Option (Int32 × Tr × Tr × Tr) :=
  bd (f_X3_readOperand j K R P) fun q => lt q.1 fun r40 => lt q.2.1 fun R_41 => lt q.2.2 fun P_42 => fJ_X3_readFormula_J130 k17 j s0 r40 x4 K R_41 P_42
def fJ_X3_readFormula_J57 (k17 : Int32 → Int32 → Int32 → Tr → Tr → Tr → Option (Int32 × Tr × Tr × Tr)) (j : Nat) (x4 : Int32) (K : Tr) (R : Tr) (P : Tr) : Option (Int32 × Tr × Tr × Tr) :=
  fJ_X3_readFormula_J62 k17 j x4 1 K R P
def fB_X3_readFormula_L17 (j : Nat) (k17 : Int32 → Int32 → Int32 → Tr → Tr → Tr → Option (Int32 × Tr × Tr × Tr)) (x2 : Int32) (x3 : Int32) (x4 : Int32) (K : Tr) (R : Tr) (P : Tr) : Option (Int32 × Tr × Tr × Tr) :=
  if 700 < x4 then (fJ_X3_readFormula_J147 j K R P) else (if x3 = 0 then (fJ_X3_readFormula_J147 j K R P) else (if x2 = 0 then (bd (f_X3_isJoining (K 0 1)) fun r17 => if r17 = 0 then (if (K 0 1) = 40 then (if (R 0 9) ≤ 0 then (fJ_X3_readFormula_J119 k17 j x2 x4 K R P) else (fJ_X3_readFormula_J120 k17 j x2 x4 1 K R P)) else (fJ_X3_readFormula_J119 k17 j x2 x4 K R P)) else (bd (f_X3_readJoining j K R P) fun q => lt q.1 fun r34 => lt q.2.1 fun R_35 => lt q.2.2 fun P_36 => fJ_X3_readFormula_J130 k17 j 1 r34 x4 K R_35 P_36)) else (if (K 0 1) = 39 then (fJ_X3_readFormula_J57 k17 j x4 K R P) else (if (K 0 1) = 21 then (fJ_X3_readFormula_J57 k17 j x4 K R P) else (fJ_X3_readFormula_J62 k17 j x4 0 K R P)))))
def fL_X3_readFormula_L17 (j : Nat) : Int32 → Int32 → Int32 → Tr → Tr → Tr → Option (Int32 × Tr × Tr × Tr) := lpF (fun _ _ _ _ _ _ => none) (fB_X3_readFormula_L17 j) 2000
def f_X3_readFormula (j : Nat) (K : Tr) (R : Tr) (P : Tr) : Option (Int32 × Tr × Tr × Tr) :=
  lt (st R 0 8 0) fun R_1 => lt (st R_1 0 9 0) fun R_2 => fL_X3_readFormula_L17 j 1 1 0 K R_2 P
def fJ_X3_readLaw_J61  (x1 : Int32) (s0 : Int32) (K : Tr) (R : Tr) (P : Tr) : Option (Int32 × Tr × Tr × Tr) :=
  bd (f_X3_expect K R s0 (3 : Int32)) fun q => lt q.1 fun r13 => lt q.2 fun R_14 => if r13 = 0 then (some (0, K, R_14, P)) else (bd (f_X5_advance K) fun K_18 => ck (okI x1 3) (bd (f_X3_readFormula x1.toNatClampNeg K_18 R_14 P) fun q => lt q.1 fun r22 => lt q.2.1 fun K_23 => lt q.2.2.1 fun R_24 => lt q.2.2.2 fun P_25 => ck (okB r22) (some (r22, K_23, R_24, P_25))))
def fJ_X3_readLaw_J33  (x1 : Int32) (s0 : Int32) (K : Tr) (R : Tr) (P : Tr) : Option (Int32 × Tr × Tr × Tr) :=
  bd (f_X3_expect K R s0 (1 : Int32)) fun q => lt q.1 fun r6 => lt q.2 fun R_7 => if r6 = 0 then (some (0, K, R_7, P)) else (ck (okI x1 3) (if (P (30 + 3 * x1.toNatClampNeg) 1) = 0 then (fJ_X3_readLaw_J61  x1 1 K R_7 P) else (fJ_X3_readLaw_J61  x1 0 K R_7 P)))
def fJ_X3_readLaw_J32  (x1 : Int32) (K : Tr) (R : Tr) (P : Tr) : Option (Int32 × Tr × Tr × Tr) :=
  fJ_X3_readLaw_J33  x1 0 K R P
def f_X3_readLaw (K : Tr) (R : Tr) (P : Tr) : Option (Int32 × Tr × Tr × Tr) :=
  bd (f_X5_advance K) fun K_1 => lt ((K_1 0 1) - 16) fun y4 => if y4 < 0 then (fJ_X3_readLaw_J32  y4 K_1 R P) else (if 2 < y4 then (fJ_X3_readLaw_J32  y4 K_1 R P) else (fJ_X3_readLaw_J33  y4 1 K_1 R P))
def fJ_X3_startOnce_J27  (x1 : Int32) (s0 : Int32) (K : Tr) (R : Tr) : Option (Int32 × Tr × Tr) :=
  bd (f_X3_expect K R s0 (3 : Int32)) fun q => lt q.1 fun r3 => lt q.2 fun R_4 => if r3 = 0 then (some (0, K, R_4)) else (lt (st R_4 0 5 ((R_4 0 5) ||| x1)) fun R_8 => bd (f_X5_advance K) fun K_9 => some (1, K_9, R_8))
def f_X3_startOnce (K : Tr) (R : Tr) : Option (Int32 × Tr × Tr) :=
  lt ((1 : Int32) <<< (((K 0 1) - 4) &&& 31)) fun y1 => if ((R 0 5) &&& y1) = 0 then (fJ_X3_startOnce_J27  y1 1 K R) else (fJ_X3_startOnce_J27  y1 0 K R)
def fJ_X3_takeNumber_J49  (x3 : Int32) (s0 : Int32) (K : Tr) (R : Tr) : Option (Int32 × Tr × Tr) :=
  bd (f_X3_expect K R s0 (2 : Int32)) fun q => lt q.1 fun r9 => lt q.2 fun R_10 => if r9 = 0 then (some ((-1), K, R_10)) else (bd (f_X5_advance K) fun K_14 => some (x3, K_14, R_10))
def fJ_X3_takeNumber_J48  (x3 : Int32) (K : Tr) (R : Tr) : Option (Int32 × Tr × Tr) :=
  fJ_X3_takeNumber_J49  x3 0 K R
def fJ_X3_takeNumber_J26  (x1 : Int32) (x2 : Int32) (x3 : Int32) (s0 : Int32) (K : Tr) (R : Tr) : Option (Int32 × Tr × Tr) :=
  bd (f_X3_expect K R s0 (1 : Int32)) fun q => lt q.1 fun r3 => lt q.2 fun R_4 => if r3 = 0 then (some ((-1), K, R_4)) else (if x3 < x1 then (fJ_X3_takeNumber_J48  x3 K R_4) else (if x2 < x3 then (fJ_X3_takeNumber_J48  x3 K R_4) else (fJ_X3_takeNumber_J49  x3 1 K R_4)))
def f_X3_takeNumber (K : Tr) (R : Tr) (x1 : Int32) (x2 : Int32) : Option (Int32 × Tr × Tr) :=
  lt (K 0 3) fun y1 => if (K 0 1) = 42 then (fJ_X3_takeNumber_J26  x1 x2 y1 1 K R) else (fJ_X3_takeNumber_J26  x1 x2 y1 0 K R)
def f_X3_readSeed (K : Tr) (R : Tr) (P : Tr) : Option (Int32 × Tr × Tr × Tr) :=
  bd (f_X3_startOnce K R) fun q => lt q.1 fun r1 => lt q.2.1 fun K_2 => lt q.2.2 fun R_3 => if r1 = 0 then (some (0, K_2, R_3, P)) else (bd (f_X3_takeNumber K_2 R_3 (0 : Int32) (99999 : Int32)) fun q => lt q.1 fun r7 => lt q.2.1 fun K_8 => lt q.2.2 fun R_9 => lt (st P 0 6 r7) fun P_12 => if (P_12 0 6) < 0 then (some (0, K_8, R_9, P_12)) else (some (1, K_8, R_9, P_12)))
def f_X3_readCurve (K : Tr) (R : Tr) (P : Tr) : Option (Int32 × Tr × Tr × Tr) :=
  bd (f_X3_startOnce K R) fun q => lt q.1 fun r1 => lt q.2.1 fun K_2 => lt q.2.2 fun R_3 => if r1 = 0 then (some (0, K_2, R_3, P)) else (bd (f_X3_takeNumber K_2 R_3 (0 : Int32) (99 : Int32)) fun q => lt q.1 fun r7 => lt q.2.1 fun K_8 => lt q.2.2 fun R_9 => lt (st P 0 5 r7) fun P_12 => if (P_12 0 5) < 0 then (some (0, K_8, R_9, P_12)) else (some (1, K_8, R_9, P_12)))
def fJ_X3_takeWord_J24  (x1 : Int32) (x3 : Int32) (s0 : Int32) (K : Tr) (R : Tr) : Option (Int32 × Tr × Tr) :=
  bd (f_X3_expect K R s0 (1 : Int32)) fun q => lt q.1 fun r3 => lt q.2 fun R_4 => if r3 = 0 then (some ((-1), K, R_4)) else (bd (f_X5_advance K) fun K_8 => some ((x3 - x1), K_8, R_4))
def fJ_X3_takeWord_J23  (x1 : Int32) (x3 : Int32) (K : Tr) (R : Tr) : Option (Int32 × Tr × Tr) :=
  fJ_X3_takeWord_J24  x1 x3 0 K R
def f_X3_takeWord (K : Tr) (R : Tr) (x1 : Int32) (x2 : Int32) : Option (Int32 × Tr × Tr) :=
  lt (K 0 1) fun y1 => if y1 < x1 then (fJ_X3_takeWord_J23  x1 y1 K R) else (if x2 < y1 then (fJ_X3_takeWord_J23  x1 y1 K R) else (fJ_X3_takeWord_J24  x1 y1 1 K R))
def f_X3_readRule (K : Tr) (R : Tr) (P : Tr) : Option (Int32 × Tr × Tr × Tr) :=
  bd (f_X3_startOnce K R) fun q => lt q.1 fun r1 => lt q.2.1 fun K_2 => lt q.2.2 fun R_3 => if r1 = 0 then (some (0, K_2, R_3, P)) else (bd (f_X3_takeWord K_2 R_3 (13 : Int32) (15 : Int32)) fun q => lt q.1 fun r7 => lt q.2.1 fun K_8 => lt q.2.2 fun R_9 => lt (st P 0 4 r7) fun P_12 => if (P_12 0 4) < 0 then (some (0, K_8, R_9, P_12)) else (some (1, K_8, R_9, P_12)))
def f_J6_bitCount_0f7a4 (x0 : Int32) : Option (Int32) :=
  lt (x0 - (((x0.toUInt32 >>> ((1 : Int32).toUInt32 &&& Int32.toUInt32 31)).toInt32) &&& 1431655765)) fun y1 => lt ((y1 &&& 858993459) + (((y1.toUInt32 >>> ((2 : Int32).toUInt32 &&& Int32.toUInt32 31)).toInt32) &&& 858993459)) fun y2 => lt ((y2 + ((y2.toUInt32 >>> ((4 : Int32).toUInt32 &&& Int32.toUInt32 31)).toInt32)) &&& 252645135) fun y3 => lt (y3 + ((y3.toUInt32 >>> ((8 : Int32).toUInt32 &&& Int32.toUInt32 31)).toInt32)) fun y4 => lt (y4 + ((y4.toUInt32 >>> ((16 : Int32).toUInt32 &&& Int32.toUInt32 31)).toInt32)) fun y5 => some (y5 &&& 63)
def fJ_X3_readWait_J103  (x1 : Int32) (s0 : Int32) (K : Tr) (R : Tr) (P : Tr) : Option (Int32 × Tr × Tr × Tr) :=
  bd (f_X3_expect K R s0 (3 : Int32)) fun q => lt q.1 fun r27 => lt q.2 fun R_28 => if r27 = 0 then (some (0, K, R_28, P)) else (bd (f_X5_advance K) fun K_32 => bd (f_X3_takeNumber K_32 R_28 (0 : Int32) (999 : Int32)) fun q => lt q.1 fun r35 => lt q.2.1 fun K_36 => lt q.2.2 fun R_37 => if 0 ≤ r35 then (lt (st R_37 0 6 ((R_37 0 6) ||| ((1 : Int32) <<< (x1 &&& 31)))) fun R_41 => ck (okI x1 21) (lt (st P 18 x1.toNatClampNeg r35) fun P_43 => some (1, K_36, R_41, P_43))) else (some (0, K_36, R_37, P)))
def fJ_X3_readWait_J79  (x1 : Int32) (s0 : Int32) (K : Tr) (R : Tr) (P : Tr) : Option (Int32 × Tr × Tr × Tr) :=
  bd (f_X3_expect K R s0 (2 : Int32)) fun q => lt q.1 fun r21 => lt q.2 fun R_22 => if r21 = 0 then (some (0, K, R_22, P)) else (if (((R_22 0 6) >>> (x1 &&& 31)) &&& 1) = 0 then (fJ_X3_readWait_J103  x1 1 K R_22 P) else (fJ_X3_readWait_J103  x1 0 K R_22 P))
def fJ_X3_readWait_J60  (x1 : Int32) (s0 : Int32) (K : Tr) (R : Tr) (P : Tr) : Option (Int32 × Tr × Tr × Tr) :=
  bd (f_X3_expect K R s0 (1 : Int32)) fun q => lt q.1 fun r15 => lt q.2 fun R_16 => if r15 = 0 then (some (0, K, R_16, P)) else (if 20 ≤ x1 then (fJ_X3_readWait_J79  x1 0 K R_16 P) else (fJ_X3_readWait_J79  x1 1 K R_16 P))
def fJ_X3_readWait_J18  (s0 : Int32) (K : Tr) (R : Tr) (P : Tr) : Option (Int32 × Tr × Tr × Tr) :=
  bd (f_X3_expect K R s0 (2 : Int32)) fun q => lt q.1 fun r5 => lt q.2 fun R_6 => if r5 = 0 then (some (0, K, R_6, P)) else (bd (f_X5_advance K) fun K_10 => lt (K_10 0 3) fun y13 => if (K_10 0 1) = 42 then (fJ_X3_readWait_J60  y13 1 K_10 R_6 P) else (fJ_X3_readWait_J60  y13 0 K_10 R_6 P))
def f_X3_readWait (K : Tr) (R : Tr) (P : Tr) : Option (Int32 × Tr × Tr × Tr) :=
  bd (f_J6_bitCount_0f7a4 (R 0 6)) fun r1 => if 10 ≤ r1 then (fJ_X3_readWait_J18  0 K R P) else (fJ_X3_readWait_J18  1 K R P)
def fB_X2_personNamed_L2 (P : Tr) (x1 : Int32) (k2 : Int32 → Option (Int32)) (x2 : Int32) : Option (Int32) :=
  if (P 0 1) ≤ x2 then (some (-1)) else (ck (okI x2 6) (if (P 10 x2.toNatClampNeg) = x1 then (some x2) else (lt (x2 + 1) fun y4 => k2 y4)))
def fL_X2_personNamed_L2 (P : Tr) (x1 : Int32) : Int32 → Option (Int32) := lpF (fun _ => none) (fB_X2_personNamed_L2 P x1) 2000
def f_X2_personNamed (P : Tr) (x1 : Int32) : Option (Int32) :=
  fL_X2_personNamed_L2 P x1 0
def fJ_X3_readPiece_J192  (x1 : Int32) (x2 : Int32) (x3 : Int32) (x4 : Int32) (x5 : Int32) (K : Tr) (R : Tr) (P : Tr) : Option (Int32 × Tr × Tr × Tr) :=
  ck (okI x1 10) (lt (st P 14 x1.toNatClampNeg x2) fun P_43 => lt (st P_43 15 x1.toNatClampNeg x3) fun P_44 => lt (st P_44 16 x1.toNatClampNeg x4) fun P_45 => lt (st P_45 17 x1.toNatClampNeg x5) fun P_46 => lt (st P_46 0 2 ((P_46 0 2) + 1)) fun P_47 => some (1, K, R, P_47))
def fJ_X3_readPiece_J176  (x1 : Int32) (x2 : Int32) (x3 : Int32) (x4 : Int32) (x5 : Int32) (s0 : Int32) (K : Tr) (R : Tr) (P : Tr) : Option (Int32 × Tr × Tr × Tr) :=
  bd (f_X3_expect K R s0 (4 : Int32)) fun q => lt q.1 fun r50 => lt q.2 fun R_51 => if r50 = 0 then (some (0, K, R_51, P)) else (bd (f_X5_advance K) fun K_55 => fJ_X3_readPiece_J192  x1 x2 x3 x4 x5 K_55 R_51 P)
def fJ_X3_readPiece_J125  (x1 : Int32) (x2 : Int32) (x3 : Int32) (s0 : Int32) (K : Tr) (R : Tr) (P : Tr) : Option (Int32 × Tr × Tr × Tr) :=
  if 0 ≤ s0 then (if (K 0 1) = 42 then (lt (K 0 3) fun y48 => if (P 0 0) ≤ y48 then (fJ_X3_readPiece_J176  x1 x2 x3 s0 y48 0 K R P) else (fJ_X3_readPiece_J176  x1 x2 x3 s0 y48 1 K R P)) else (fJ_X3_readPiece_J192  x1 x2 x3 s0 (-1) K R P)) else (some (0, K, R, P))
def fJ_X3_readPiece_J86  (x1 : Int32) (x2 : Int32) (s0 : Int32) (K : Tr) (R : Tr) (P : Tr) : Option (Int32 × Tr × Tr × Tr) :=
  bd (f_X3_expect K R s0 (4 : Int32)) fun q => lt q.1 fun r21 => lt q.2 fun R_22 => if r21 = 0 then (some (0, K, R_22, P)) else (bd (f_X5_advance K) fun K_26 => bd (f_X3_takeNumber K_26 R_22 (1 : Int32) (99 : Int32)) fun q => lt q.1 fun r29 => lt q.2.1 fun K_30 => lt q.2.2 fun R_31 => if 0 ≤ r29 then (bd (f_X3_takeNumber K_30 R_31 (0 : Int32) (9 : Int32)) fun q => lt q.1 fun r35 => lt q.2.1 fun K_36 => lt q.2.2 fun R_37 => fJ_X3_readPiece_J125  x1 x2 r29 r35 K_36 R_37 P) else (fJ_X3_readPiece_J125  x1 x2 r29 (-1) K_30 R_31 P))
def fJ_X3_readPiece_J69  (x1 : Int32) (x2 : Int32) (s0 : Int32) (K : Tr) (R : Tr) (P : Tr) : Option (Int32 × Tr × Tr × Tr) :=
  bd (f_X3_expect K R s0 (1 : Int32)) fun q => lt q.1 fun r15 => lt q.2 fun R_16 => if r15 = 0 then (some (0, K, R_16, P)) else (if x2 < 0 then (fJ_X3_readPiece_J86  x1 x2 0 K R_16 P) else (fJ_X3_readPiece_J86  x1 x2 1 K R_16 P))
def fJ_X3_readPiece_J20  (x1 : Int32) (s0 : Int32) (K : Tr) (R : Tr) (P : Tr) : Option (Int32 × Tr × Tr × Tr) :=
  bd (f_X3_expect K R s0 (2 : Int32)) fun q => lt q.1 fun r3 => lt q.2 fun R_4 => if r3 = 0 then (some (0, K, R_4, P)) else (bd (f_X5_advance K) fun K_8 => bd (f_X2_personNamed P (K_8 0 3)) fun r11 => if (K_8 0 1) = 43 then (fJ_X3_readPiece_J69  x1 r11 1 K_8 R_4 P) else (fJ_X3_readPiece_J69  x1 r11 0 K_8 R_4 P))
def f_X3_readPiece (K : Tr) (R : Tr) (P : Tr) : Option (Int32 × Tr × Tr × Tr) :=
  lt (P 0 2) fun y1 => if 10 ≤ y1 then (fJ_X3_readPiece_J20  y1 0 K R P) else (fJ_X3_readPiece_J20  y1 1 K R P)
def fJ_X3_readPerson_J145  (x1 : Int32) (x2 : Int32) (x3 : Int32) (x4 : Int32) (s0 : Int32) (K : Tr) (R : Tr) (P : Tr) : Option (Int32 × Tr × Tr × Tr) :=
  if 0 ≤ s0 then (ck (okI x1 6) (lt (st P 10 x1.toNatClampNeg x2) fun P_49 => lt (st P_49 11 x1.toNatClampNeg x3) fun P_50 => lt (st P_50 12 x1.toNatClampNeg x4) fun P_51 => lt (st P_51 13 x1.toNatClampNeg s0) fun P_52 => lt (st P_52 0 1 ((P_52 0 1) + 1)) fun P_53 => some (1, K, R, P_53))) else (some (0, K, R, P))
def fJ_X3_readPerson_J127  (x1 : Int32) (x2 : Int32) (x3 : Int32) (s0 : Int32) (K : Tr) (R : Tr) (P : Tr) : Option (Int32 × Tr × Tr × Tr) :=
  if 0 ≤ s0 then (bd (f_X3_takeNumber K R (1 : Int32) (99 : Int32)) fun q => lt q.1 fun r42 => lt q.2.1 fun K_43 => lt q.2.2 fun R_44 => fJ_X3_readPerson_J145  x1 x2 x3 s0 r42 K_43 R_44 P) else (fJ_X3_readPerson_J145  x1 x2 x3 s0 (-1) K R P)
def fJ_X3_readPerson_J86  (x1 : Int32) (x2 : Int32) (s0 : Int32) (K : Tr) (R : Tr) (P : Tr) : Option (Int32 × Tr × Tr × Tr) :=
  bd (f_X3_expect K R s0 (3 : Int32)) fun q => lt q.1 fun r22 => lt q.2 fun R_23 => if r22 = 0 then (some (0, K, R_23, P)) else (bd (f_X5_advance K) fun K_27 => bd (f_X3_takeNumber K_27 R_23 (0 : Int32) (19 : Int32)) fun q => lt q.1 fun r30 => lt q.2.1 fun K_31 => lt q.2.2 fun R_32 => if 0 ≤ r30 then (bd (f_X3_takeNumber K_31 R_32 (r30 + 1) (20 : Int32)) fun q => lt q.1 fun r36 => lt q.2.1 fun K_37 => lt q.2.2 fun R_38 => fJ_X3_readPerson_J127  x1 x2 r30 r36 K_37 R_38 P) else (fJ_X3_readPerson_J127  x1 x2 r30 (-1) K_31 R_32 P))
def fJ_X3_readPerson_J62  (x1 : Int32) (x2 : Int32) (s0 : Int32) (K : Tr) (R : Tr) (P : Tr) : Option (Int32 × Tr × Tr × Tr) :=
  bd (f_X3_expect K R s0 (1 : Int32)) fun q => lt q.1 fun r13 => lt q.2 fun R_14 => if r13 = 0 then (some (0, K, R_14, P)) else (bd (f_X2_personNamed P x2) fun r18 => if 0 ≤ r18 then (fJ_X3_readPerson_J86  x1 x2 0 K R_14 P) else (fJ_X3_readPerson_J86  x1 x2 1 K R_14 P))
def fJ_X3_readPerson_J20  (x1 : Int32) (s0 : Int32) (K : Tr) (R : Tr) (P : Tr) : Option (Int32 × Tr × Tr × Tr) :=
  bd (f_X3_expect K R s0 (2 : Int32)) fun q => lt q.1 fun r3 => lt q.2 fun R_4 => if r3 = 0 then (some (0, K, R_4, P)) else (bd (f_X5_advance K) fun K_8 => lt (K_8 0 3) fun y11 => if (K_8 0 1) = 43 then (fJ_X3_readPerson_J62  x1 y11 1 K_8 R_4 P) else (fJ_X3_readPerson_J62  x1 y11 0 K_8 R_4 P))
def f_X3_readPerson (K : Tr) (R : Tr) (P : Tr) : Option (Int32 × Tr × Tr × Tr) :=
  lt (P 0 1) fun y1 => if 6 ≤ y1 then (fJ_X3_readPerson_J20  y1 0 K R P) else (fJ_X3_readPerson_J20  y1 1 K R P)
def fJ_X3_readPlace_J60  (x1 : Int32) (x2 : Int32) (s0 : Int32) (K : Tr) (R : Tr) (P : Tr) : Option (Int32 × Tr × Tr × Tr) :=
  if 0 ≤ s0 then (ck (okI x1 5) (lt (st P 8 x1.toNatClampNeg x2) fun P_24 => lt (st P_24 9 x1.toNatClampNeg s0) fun P_25 => lt (st P_25 0 0 ((P_25 0 0) + 1)) fun P_26 => some (1, K, R, P_26))) else (some (0, K, R, P))
def fJ_X3_readPlace_J19  (x1 : Int32) (s0 : Int32) (K : Tr) (R : Tr) (P : Tr) : Option (Int32 × Tr × Tr × Tr) :=
  bd (f_X3_expect K R s0 (2 : Int32)) fun q => lt q.1 fun r3 => lt q.2 fun R_4 => if r3 = 0 then (some (0, K, R_4, P)) else (bd (f_X5_advance K) fun K_8 => bd (f_X3_takeWord K_8 R_4 (8 : Int32) (12 : Int32)) fun q => lt q.1 fun r11 => lt q.2.1 fun K_12 => lt q.2.2 fun R_13 => if 0 ≤ r11 then (bd (f_X3_takeNumber K_12 R_13 (0 : Int32) (999 : Int32)) fun q => lt q.1 fun r17 => lt q.2.1 fun K_18 => lt q.2.2 fun R_19 => fJ_X3_readPlace_J60  x1 r11 r17 K_18 R_19 P) else (fJ_X3_readPlace_J60  x1 r11 (-1) K_12 R_13 P))
def f_X3_readPlace (K : Tr) (R : Tr) (P : Tr) : Option (Int32 × Tr × Tr × Tr) :=
  lt (P 0 0) fun y1 => if 5 ≤ y1 then (fJ_X3_readPlace_J19  y1 0 K R P) else (fJ_X3_readPlace_J19  y1 1 K R P)
def f_X3_readLine (K : Tr) (R : Tr) (P : Tr) : Option (Int32 × Tr × Tr × Tr) :=
  lt (K 0 1) fun y1 => if y1 = 0 then (bd (f_X3_readPlace K R P) fun q => lt q.1 fun r3 => lt q.2.1 fun K_4 => lt q.2.2.1 fun R_5 => lt q.2.2.2 fun P_6 => ck (okB r3) (some (r3, K_4, R_5, P_6))) else (if y1 = 1 then (bd (f_X3_readPerson K R P) fun q => lt q.1 fun r11 => lt q.2.1 fun K_12 => lt q.2.2.1 fun R_13 => lt q.2.2.2 fun P_14 => ck (okB r11) (some (r11, K_12, R_13, P_14))) else (if y1 = 2 then (bd (f_X3_readPiece K R P) fun q => lt q.1 fun r19 => lt q.2.1 fun K_20 => lt q.2.2.1 fun R_21 => lt q.2.2.2 fun P_22 => ck (okB r19) (some (r19, K_20, R_21, P_22))) else (if y1 = 3 then (bd (f_X3_readWait K R P) fun q => lt q.1 fun r27 => lt q.2.1 fun K_28 => lt q.2.2.1 fun R_29 => lt q.2.2.2 fun P_30 => ck (okB r27) (some (r27, K_28, R_29, P_30))) else (if y1 = 4 then (bd (f_X3_readRule K R P) fun q => lt q.1 fun r35 => lt q.2.1 fun K_36 => lt q.2.2.1 fun R_37 => lt q.2.2.2 fun P_38 => ck (okB r35) (some (r35, K_36, R_37, P_38))) else (if y1 = 5 then (bd (f_X3_readCurve K R P) fun q => lt q.1 fun r43 => lt q.2.1 fun K_44 => lt q.2.2.1 fun R_45 => lt q.2.2.2 fun P_46 => ck (okB r43) (some (r43, K_44, R_45, P_46))) else (if y1 = 6 then (bd (f_X3_readSeed K R P) fun q => lt q.1 fun r51 => lt q.2.1 fun K_52 => lt q.2.2.1 fun R_53 => lt q.2.2.2 fun P_54 => ck (okB r51) (some (r51, K_52, R_53, P_54))) else (if y1 = 7 then (bd (f_X3_readLaw K R P) fun q => lt q.1 fun r59 => lt q.2.1 fun K_60 => lt q.2.2.1 fun R_61 => lt q.2.2.2 fun P_62 => ck (okB r59) (some (r59, K_60, R_61, P_62))) else (bd (f_X3_expect K R (0 : Int32) (1 : Int32)) fun q => lt q.1 fun r66 => lt q.2 fun R_67 => ck (okB r66) (some (r66, K, R_67, P))))))))))
def fJ_X3_readText_J123  (K : Tr) (R : Tr) (P : Tr) : Option (Int32 × Tr × Tr × Tr) :=
  if (R 0 1) = 0 then (some (1, K, R, P)) else (some (0, K, R, P))
def fJ_X3_readText_J93 (k42 : Int32 → Tr → Tr → Tr → Option (Int32 × Tr × Tr × Tr)) (x2 : Int32) (s0 : Int32) (K : Tr) (R : Tr) (P : Tr) : Option (Int32 × Tr × Tr × Tr) :=
  bd (f_X3_expect K R s0 (1 : Int32)) fun q => lt q.1 fun r25 => lt q.2 fun R_26 => if r25 = 0 then (lt (x2 + 1) fun y30 => k42 y30 K R_26 P) else (bd (f_X5_advance K) fun K_31 => lt (st R_26 0 3 ((R_26 0 3) + 1)) fun R_34 => lt (x2 + 1) fun y35 => k42 y35 K_31 R_34 P)
def fB_X3_readText_L42  (k42 : Int32 → Tr → Tr → Tr → Option (Int32 × Tr × Tr × Tr)) (x2 : Int32) (K : Tr) (R : Tr) (P : Tr) : Option (Int32 × Tr × Tr × Tr) :=
  if 700 < x2 then (fJ_X3_readText_J123  K R P) else (if (R 0 1) = 0 then (if (K 0 1) = 45 then (fJ_X3_readText_J123  K R P) else (bd (f_X3_readLine K R P) fun q => lt q.1 fun r16 => lt q.2.1 fun K_17 => lt q.2.2.1 fun R_18 => lt q.2.2.2 fun P_19 => if r16 = 0 then (lt (x2 + 1) fun y23 => k42 y23 K_17 R_18 P_19) else (if (K_17 0 1) = 41 then (fJ_X3_readText_J93 k42 x2 1 K_17 R_18 P_19) else (fJ_X3_readText_J93 k42 x2 0 K_17 R_18 P_19)))) else (fJ_X3_readText_J123  K R P))
def fL_X3_readText_L42  : Int32 → Tr → Tr → Tr → Option (Int32 × Tr × Tr × Tr) := lpF (fun _ _ _ _ => none) (fB_X3_readText_L42 ) 2000
def f_X3_readText (K : Tr) (R : Tr) (P : Tr) (x1 : Int32) : Option (Int32 × Tr × Tr × Tr) :=
  bd (f_X2_clear P) fun P_1 => lt (st R 0 1 0) fun R_4 => lt (st R_4 0 2 (-1)) fun R_5 => lt (st R_5 0 3 0) fun R_6 => lt (st R_6 0 5 0) fun R_7 => lt (st R_7 0 6 0) fun R_8 => bd (f_X5_begin K x1) fun K_9 => fL_X3_readText_L42  0 K_9 R_8 P_1
