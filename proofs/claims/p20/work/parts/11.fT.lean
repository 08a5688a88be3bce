def fB_X6_level_L13 (T : Tr) (x1 : Int32) (x2 : Int32) (k13 : Int32 → Option (Int32)) (x3 : Int32) : Option (Int32) :=
  ck (okI x2 5) (if (T 17 x2.toNatClampNeg) ≤ x3 then (some (-1)) else (ck (okI ((x2 * 10) + x3) 50) (if (T 16 ((x2 * 10) + x3).toNatClampNeg) = x1 then (some x3) else (lt (x3 + 1) fun y8 => k13 y8))))
def fL_X6_level_L13 (T : Tr) (x1 : Int32) (x2 : Int32) : Int32 → Option (Int32) := lpF (fun _ => none) (fB_X6_level_L13 T x1 x2) 2000
def f_X6_level (T : Tr) (x1 : Int32) : Option (Int32) :=
  ck (okI x1 10) (lt (T 15 x1.toNatClampNeg) fun y2 => if y2 < 0 then (some (-1)) else (fL_X6_level_L13 T x1 y2 0))
def f_X6_above (T : Tr) (x1 : Int32) : Option (Int32) :=
  ck (okI x1 10) (lt (T 15 x1.toNatClampNeg) fun y2 => if 0 ≤ y2 then (ck (okI y2 5) (bd (f_X6_level T x1) fun r5 => some (((T 17 y2.toNatClampNeg) - 1) - r5))) else (some 0))
def f_X6_top (T : Tr) (x1 : Int32) : Option (Int32) :=
  ck (okI x1 5) (if (T 17 x1.toNatClampNeg) = 0 then (some (-1)) else (ck (okI (((x1 * 10) + (T 17 x1.toNatClampNeg)) - 1) 50) (some (T 16 (((x1 * 10) + (T 17 x1.toNatClampNeg)) - 1).toNatClampNeg))))
def f_X6_isRack (P : Tr) (x1 : Int32) : Option (Int32) :=
  ck (okI x1 5) (if (P 8 x1.toNatClampNeg) = 0 then (some 1) else (if (P 8 x1.toNatClampNeg) = 1 then (some 1) else (some 0)))
def fJ_X1_joined_J231  (x1 : Int64) (x3 : Int64) (s0 : Int64) (s1 : Int64) : Option (Int64) :=
  ck (!(s0 == 0)) (lt (s1 / s0) fun y25 => if 0 < (lg_cmp x3 y25) then (some (-9223372036854775808)) else (if 0 ≤ (lg_cmp x3 (-y25)) then (some (x1 * x3)) else (some (-9223372036854775808))))
def f_X1_joined (x0 : Int32) (x1 : Int64) (x3 : Int64) : Option (Int64) :=
  if x0 = 19 then (if (lg_cmp x1 0) = 0 then (if (lg_cmp x3 0) = 0 then (some 0) else (some 1)) else (some 1)) else (if x0 = 20 then (if (lg_cmp x1 0) = 0 then (some 0) else (if (lg_cmp x3 0) = 0 then (some 0) else (some 1))) else (if x0 = 29 then (if 0 ≤ (lg_cmp x1 x3) then (some 0) else (some 1)) else (if x0 = 30 then (if 0 < (lg_cmp x1 x3) then (some 0) else (some 1)) else (if x0 = 31 then (if (lg_cmp x1 x3) = 0 then (some 1) else (some 0)) else (if x0 = 32 then (if (lg_cmp x1 x3) = 0 then (some 0) else (some 1)) else (if x0 = 33 then (if (lg_cmp x1 x3) < 0 then (some 0) else (some 1)) else (if x0 = 34 then (if (lg_cmp x1 x3) ≤ 0 then (some 0) else (some 1)) else (if x0 = 35 then (some (x1 + x3)) else (if x0 = 36 then (some (x1 - x3)) else (if x0 = 37 then (if (lg_cmp x1 0) = 0 then (some 0) else (if 0 ≤ (lg_cmp x1 0) then (fJ_X1_joined_J231  x1 x3 x1 1000000000000) else (fJ_X1_joined_J231  x1 x3 (-x1) 1000000000000))) else (if (lg_cmp x3 0) = 0 then (some (-9223372036854775808)) else (ck (!(x3 == 0)) (some (x1 / x3))))))))))))))
def fJ_X1_value_J190 (j : Nat) (T : Tr) (P : Tr) (x2 : Int32) (L : Lo) : Option (Int64 × Lo) :=
  if x2 = 1 then (some ((L (32 + 3 * j) 0), L)) else (some ((-9223372036854775808), L))
def fJ_X1_value_J123 (k4 : Int32 → Int32 → Lo → Option (Int64 × Lo)) (j : Nat) (T : Tr) (P : Tr) (x2 : Int32) (x3 : Int32) (x5 : Int32) (L : Lo) : Option (Int64 × Lo) :=
  if x2 < 2 then (lt (x3 + 1) fun y10 => k4 x2 y10 L) else (lt (x2 + (-1)) fun y11 => ck (okI (y11 - 1) 64) (ck (okI y11 64) (bd (f_X1_joined x5 (L (32 + 3 * j) (y11 - 1).toNatClampNeg) (L (32 + 3 * j) y11.toNatClampNeg)) fun r14 => if (lg_cmp r14 (-1000000000000)) < 0 then (some ((-9223372036854775808), L)) else (if (lg_cmp r14 1000000000000) ≤ 0 then (lt (stL L (32 + 3 * j) ((y11 - 1).toNatClampNeg) r14) fun L_19 => lt (x3 + 1) fun y20 => k4 y11 y20 L_19) else (some ((-9223372036854775808), L))))))
def fJ_X1_value_J119 (k4 : Int32 → Int32 → Lo → Option (Int64 × Lo)) (j : Nat) (T : Tr) (P : Tr) (x2 : Int32) (x3 : Int32) (s0 : Int64) (s1 : Int32) (L : Lo) : Option (Int64 × Lo) :=
  ck (okI s1 64) (lt (stL L (32 + 3 * j) s1.toNatClampNeg s0) fun L_25 => lt (x3 + 1) fun y26 => k4 x2 y26 L_25)
def fJ_X1_value_J82 (k4 : Int32 → Int32 → Lo → Option (Int64 × Lo)) (j : Nat) (T : Tr) (P : Tr) (x2 : Int32) (x3 : Int32) (x5 : Int32) (L : Lo) : Option (Int64 × Lo) :=
  if x5 = 21 then (if x2 < 1 then (fJ_X1_value_J123 k4 j T P x2 x3 x5 L) else (ck (okI (x2 - 1) 64) (if (lg_cmp (L (32 + 3 * j) (x2 - 1).toNatClampNeg) 0) = 0 then (fJ_X1_value_J119 k4 j T P x2 x3 1 (x2 - 1) L) else (fJ_X1_value_J119 k4 j T P x2 x3 0 (x2 - 1) L)))) else (fJ_X1_value_J123 k4 j T P x2 x3 x5 L)
def fB_X1_value_L4 (j : Nat) (T : Tr) (P : Tr) (k4 : Int32 → Int32 → Lo → Option (Int64 × Lo)) (x2 : Int32) (x3 : Int32) (L : Lo) : Option (Int64 × Lo) :=
  if (P (30 + 3 * j) 1) ≤ x3 then (fJ_X1_value_J190 j T P x2 L) else (ck (okI x3 64) (lt (P (31 + 3 * j) x3.toNatClampNeg) fun y4 => lt (y4 - 10000) fun y5 => if 0 ≤ y5 then (if y5 < 22 then (fJ_X1_value_J82 k4 j T P x2 x3 y5 L) else (if 28 < y5 then (fJ_X1_value_J82 k4 j T P x2 x3 y5 L) else (ck (okI (y5 - 22) 7) (ck (okI x2 64) (lt (stL L (32 + 3 * j) x2.toNatClampNeg ((T 19 (y5 - 22).toNatClampNeg).toInt64)) fun L_30 => lt (x2 + 1) fun y31 => lt (x3 + 1) fun y32 => k4 y31 y32 L_30))))) else (ck (okI x2 64) (lt (stL L (32 + 3 * j) x2.toNatClampNeg y4.toInt64) fun L_34 => lt (x2 + 1) fun y35 => lt (x3 + 1) fun y36 => k4 y35 y36 L_34))))
def fL_X1_value_L4 (j : Nat) (T : Tr) (P : Tr) : Int32 → Int32 → Lo → Option (Int64 × Lo) := lpF (fun _ _ _ => none) (fB_X1_value_L4 j T P) 2000
def f_X1_value (j : Nat) (T : Tr) (P : Tr) (L : Lo) : Option (Int64 × Lo) :=
  fL_X1_value_L4 j T P 0 0 L
def f_X6_worked (T : Tr) (P : Tr) (L : Lo) (x1 : Int32) (x2 : Int32) (x3 : Int32) : Option (Int64 × Tr × Lo) :=
  ck (okI x2 10) (lt (T 15 x2.toNatClampNeg) fun y2 => ck (okI x1 3) (if (P (30 + 3 * x1.toNatClampNeg) 1) = 0 then (some ((-9223372036854775808), T, L)) else (if 0 ≤ y2 then (lt (st T 19 0 (P 15 x2.toNatClampNeg)) fun T_6 => lt (st T_6 19 1 (P 16 x2.toNatClampNeg)) fun T_7 => ck (okI y2 5) (bd (f_X6_level T_7 x2) fun r9 => lt (st T_7 19 2 (((T_7 17 y2.toNatClampNeg) - 1) - r9)) fun T_12 => lt (st T_12 19 3 (P 8 y2.toNatClampNeg)) fun T_13 => lt (st T_13 19 4 x3) fun T_14 => lt (st T_14 19 5 (T_14 0 0)) fun T_15 => lt (st T_15 19 6 (T_15 18 y2.toNatClampNeg)) fun T_16 => bd (f_X1_value x1.toNatClampNeg T_16 P L) fun q => lt q.1 fun r17 => lt q.2 fun L_18 => some (r17, T_16, L_18))) else (some ((-9223372036854775808), T, L)))))
def f_X6_within (x0 : Int64) (x2 : Int32) : Option (Int32) :=
  if 0 ≤ (lg_cmp x0 0) then (if (lg_cmp x0 x2.toInt64) ≤ 0 then (some x0.toInt32) else (some x2)) else (some 0)
def fJ_X6_fallPercent_J57 (P : Tr) (s0 : Int64) (T : Tr) (L : Lo) : Option (Int32 × Tr × Lo) :=
  bd (f_X6_within s0 (100 : Int32)) fun r12 => some (r12, T, L)
def f_X6_fallPercent (T : Tr) (P : Tr) (L : Lo) (x1 : Int32) : Option (Int32 × Tr × Lo) :=
  ck (okI x1 10) (ck (okI (P 14 x1.toNatClampNeg) 6) (bd (f_X6_worked T P L (1 : Int32) x1 (T 10 (P 14 x1.toNatClampNeg).toNatClampNeg)) fun q => lt q.1 fun r3 => lt q.2.1 fun T_4 => lt q.2.2 fun L_5 => if (lg_cmp r3 (-9223372036854775808)) = 0 then (bd (f_X6_level T_4 x1) fun r9 => fJ_X6_fallPercent_J57 P ((((T_4 0 4) + ((10 : Int32) * r9)) - (P 15 x1.toNatClampNeg)).toInt64) T_4 L_5) else (fJ_X6_fallPercent_J57 P r3 T_4 L_5)))
def f_X6_happens (T : Tr) (x1 : Int32) : Option (Int32 × Tr) :=
  if (T 0 5) = 0 then (if x1 < 50 then (some (0, T)) else (some (1, T))) else (lt (st T 0 2 ((((T 0 2) * 1103515245) + 12345) &&& 2147483647)) fun T_2 => if x1 ≤ ((((T_2 0 2).toUInt32 >>> ((16 : Int32).toUInt32 &&& Int32.toUInt32 31)).toInt32) - (((T_2 0 2).toUInt32 >>> ((16 : Int32).toUInt32 &&& Int32.toUInt32 31)).toInt32) / 100 * 100) then (some (0, T_2)) else (some (1, T_2)))
def fJ_X6_takeAway_J70 (P : Tr) (x1 : Int32) (x2 : Int32) (x4 : Int32) (T : Tr) : Option (Tr) :=
  ck (okI x4 5) (lt (st T 17 x4.toNatClampNeg ((T 17 x4.toNatClampNeg) - 1)) fun T_10 => ck (okI x1 10) (lt (st T_10 18 x4.toNatClampNeg ((T_10 18 x4.toNatClampNeg) - (P 15 x1.toNatClampNeg))) fun T_12 => lt (st T_12 15 x1.toNatClampNeg (-1)) fun T_13 => lt (st T_13 14 x1.toNatClampNeg x2) fun T_14 => some T_14))
def fB_X6_takeAway_L22 (P : Tr) (x1 : Int32) (x2 : Int32) (x4 : Int32) (k22 : Int32 → Tr → Option (Tr)) (x5 : Int32) (T : Tr) : Option (Tr) :=
  ck (okI x4 5) (if (T 17 x4.toNatClampNeg) ≤ (x5 + 1) then (fJ_X6_takeAway_J70 P x1 x2 x4 T) else (ck (okI (((x4 * 10) + x5) + 1) 50) (ck (okI ((x4 * 10) + x5) 50) (lt (st T 16 (((x4 * 10) + x5).toNatClampNeg) (T 16 (((x4 * 10) + x5) + 1).toNatClampNeg)) fun T_17 => lt (x5 + 1) fun y18 => k22 y18 T_17))))
def fL_X6_takeAway_L22 (P : Tr) (x1 : Int32) (x2 : Int32) (x4 : Int32) : Int32 → Tr → Option (Tr) := lpF (fun _ _ => none) (fB_X6_takeAway_L22 P x1 x2 x4) 2000
def f_X6_takeAway (T : Tr) (P : Tr) (x1 : Int32) (x2 : Int32) : Option (Tr) :=
  bd (f_X6_level T x1) fun r1 => if 0 ≤ r1 then (ck (okI x1 10) (lt (T 15 x1.toNatClampNeg) fun y6 => fL_X6_takeAway_L22 P x1 x2 y6 r1 T)) else (some T)
def fB_X6_fallOff_L4 (P : Tr) (k4 : Int32 → Int32 → Tr → Lo → Option (Int32 × Tr × Lo)) (x1 : Int32) (x2 : Int32) (T : Tr) (L : Lo) : Option (Int32 × Tr × Lo) :=
  if (P 0 0) ≤ x2 then (some (x1, T, L)) else (if (T 0 6) = 0 then (some (x1, T, L)) else (bd (f_X6_top T x2) fun r3 => if r3 < 0 then (lt (x2 + 1) fun y7 => k4 x1 y7 T L) else (bd (f_X6_isRack P x2) fun r8 => if r8 = 0 then (lt (x2 + 1) fun y12 => k4 x1 y12 T L) else (bd (f_X6_fallPercent T P L r3) fun q => lt q.1 fun r13 => lt q.2.1 fun T_14 => lt q.2.2 fun L_15 => bd (f_X6_happens T_14 r13) fun q => lt q.1 fun r18 => lt q.2 fun T_19 => if r18 = 0 then (lt (x2 + 1) fun y23 => k4 x1 y23 T_19 L_15) else (bd (f_X6_takeAway T_19 P r3 (3 : Int32)) fun T_24 => lt (x1 ||| ((1 : Int32) <<< (r3 &&& 31))) fun y27 => lt (x2 + 1) fun y28 => k4 y27 y28 T_24 L_15)))))
def fL_X6_fallOff_L4 (P : Tr) : Int32 → Int32 → Tr → Lo → Option (Int32 × Tr × Lo) := lpF (fun _ _ _ _ => none) (fB_X6_fallOff_L4 P) 2000
def f_X6_fallOff (T : Tr) (P : Tr) (L : Lo) : Option (Int32 × Tr × Lo) :=
  fL_X6_fallOff_L4 P 0 0 T L
def fB_X6_firstLate_L2 (T : Tr) (P : Tr) (k2 : Int32 → Option (Int32)) (x1 : Int32) : Option (Int32) :=
  if (P 0 1) ≤ x1 then (some (-1)) else (ck (okI x1 6) (if (T 11 x1.toNatClampNeg) = 1 then (if (P 12 x1.toNatClampNeg) = (T 0 0) then (some x1) else (lt (x1 + 1) fun y6 => k2 y6)) else (lt (x1 + 1) fun y4 => k2 y4)))
def fL_X6_firstLate_L2 (T : Tr) (P : Tr) : Int32 → Option (Int32) := lpF (fun _ => none) (fB_X6_firstLate_L2 T P) 2000
def f_X6_firstLate (T : Tr) (P : Tr) : Option (Int32) :=
  fL_X6_firstLate_L2 T P 0
def f_X6_hasRoom (T : Tr) (P : Tr) (x1 : Int32) (x2 : Int32) : Option (Int32) :=
  ck (okI x1 5) (ck (okI x2 10) (if (P 9 x1.toNatClampNeg) < ((T 18 x1.toNatClampNeg) + (P 15 x2.toNatClampNeg)) then (some 0) else (some 1)))
def fJ_X6_placeByRule_J75 (k4 : Int32 → Int32 → Option (Int32)) (T : Tr) (P : Tr) (x1 : Int32) (x2 : Int32) (x3 : Int32) (s0 : Int32) : Option (Int32) :=
  if s0 = 0 then (lt (x3 + 1) fun y10 => k4 x2 y10) else (lt (x3 + 1) fun y11 => k4 x3 y11)
def fJ_X6_placeByRule_J70 (k4 : Int32 → Int32 → Option (Int32)) (T : Tr) (P : Tr) (x1 : Int32) (x2 : Int32) (x3 : Int32) : Option (Int32) :=
  fJ_X6_placeByRule_J75 k4 T P x1 x2 x3 1
def fB_X6_placeByRule_L4 (T : Tr) (P : Tr) (x1 : Int32) (k4 : Int32 → Int32 → Option (Int32)) (x2 : Int32) (x3 : Int32) : Option (Int32) :=
  if (P 0 0) ≤ x3 then (some x2) else (bd (f_X6_hasRoom T P x3 x1) fun r2 => if r2 = 0 then (lt (x3 + 1) fun y6 => k4 x2 y6) else (if (T 0 3) = 0 then (if 0 ≤ x2 then (fJ_X6_placeByRule_J75 k4 T P x1 x2 x3 0) else (fJ_X6_placeByRule_J75 k4 T P x1 x2 x3 1)) else (if (T 0 3) = 1 then (if x2 < 0 then (fJ_X6_placeByRule_J70 k4 T P x1 x2 x3) else (ck (okI x3 5) (ck (okI x2 5) (if (T 18 x2.toNatClampNeg) ≤ (T 18 x3.toNatClampNeg) then (fJ_X6_placeByRule_J75 k4 T P x1 x2 x3 0) else (fJ_X6_placeByRule_J70 k4 T P x1 x2 x3))))) else (fJ_X6_placeByRule_J70 k4 T P x1 x2 x3))))
def fL_X6_placeByRule_L4 (T : Tr) (P : Tr) (x1 : Int32) : Int32 → Int32 → Option (Int32) := lpF (fun _ _ => none) (fB_X6_placeByRule_L4 T P x1) 2000
def f_X6_placeByRule (T : Tr) (P : Tr) (x1 : Int32) : Option (Int32) :=
  fL_X6_placeByRule_L4 T P x1 (-1) 0
def f_X6_putOn (T : Tr) (P : Tr) (x1 : Int32) (x2 : Int32) : Option (Tr) :=
  ck (okI x1 5) (lt (T 17 x1.toNatClampNeg) fun y2 => if 10 ≤ y2 then (some T) else (ck (okI ((x1 * 10) + y2) 50) (lt (st T 16 (((x1 * 10) + y2).toNatClampNeg) x2) fun T_5 => lt (st T_5 17 x1.toNatClampNeg (y2 + 1)) fun T_6 => ck (okI x2 10) (lt (st T_6 18 x1.toNatClampNeg ((T_6 18 x1.toNatClampNeg) + (P 15 x2.toNatClampNeg))) fun T_8 => lt (st T_8 15 x2.toNatClampNeg x1) fun T_9 => lt (st T_9 14 x2.toNatClampNeg 1) fun T_10 => some T_10))))
def fJ_X6_stow_J31 (P : Tr) (x1 : Int32) (x2 : Int32) (T : Tr) : Option (Tr) :=
  if 0 ≤ x2 then (bd (f_X6_putOn T P x2 x1) fun T_9 => some T_9) else (ck (okI x1 10) (lt (st T 14 x1.toNatClampNeg 5) fun T_13 => some T_13))
def f_X6_stow (T : Tr) (P : Tr) (x1 : Int32) : Option (Tr) :=
  ck (okI x1 10) (lt (T 13 x1.toNatClampNeg) fun y2 => if 0 ≤ y2 then (bd (f_X6_hasRoom T P y2 x1) fun r4 => if r4 = 0 then (fJ_X6_stow_J31 P x1 (-1) T) else (fJ_X6_stow_J31 P x1 y2 T)) else (bd (f_X6_placeByRule T P x1) fun r14 => fJ_X6_stow_J31 P x1 r14 T))
def fB_X6_getIn_L47 (k2 : Int32 → Tr → Option (Tr)) (P : Tr) (x1 : Int32) (k47 : Int32 → Tr → Option (Tr)) (x2 : Int32) (T : Tr) : Option (Tr) :=
  if (P 0 2) ≤ x2 then (lt (x1 + 1) fun y8 => k2 y8 T) else (ck (okI x2 10) (if (P 14 x2.toNatClampNeg) = x1 then (bd (f_X6_stow T P x2) fun T_12 => lt (x2 + 1) fun y15 => k47 y15 T_12) else (lt (x2 + 1) fun y11 => k47 y11 T)))
def fL_X6_getIn_L47 (k2 : Int32 → Tr → Option (Tr)) (P : Tr) (x1 : Int32) : Int32 → Tr → Option (Tr) := lpF (fun _ _ => none) (fB_X6_getIn_L47 k2 P x1) 2000
def fB_X6_getIn_L2 (P : Tr) (k2 : Int32 → Tr → Option (Tr)) (x1 : Int32) (T : Tr) : Option (Tr) :=
  if (P 0 1) ≤ x1 then (some T) else (ck (okI x1 6) (if (T 11 x1.toNatClampNeg) = 0 then (if (T 9 x1.toNatClampNeg) = (T 0 0) then (lt (st T 11 x1.toNatClampNeg 1) fun T_6 => fL_X6_getIn_L47 k2 P x1 0 T_6) else (lt (x1 + 1) fun y16 => k2 y16 T)) else (lt (x1 + 1) fun y4 => k2 y4 T)))
def fL_X6_getIn_L2 (P : Tr) : Int32 → Tr → Option (Tr) := lpF (fun _ _ => none) (fB_X6_getIn_L2 P) 2000
def f_X6_getIn (T : Tr) (P : Tr) : Option (Tr) :=
  fL_X6_getIn_L2 P 0 T
def f_X6_goesAbove (P : Tr) (x1 : Int32) (x2 : Int32) : Option (Int32) :=
  ck (okI x1 10) (ck (okI (P 14 x1.toNatClampNeg) 6) (lt (P 12 (P 14 x1.toNatClampNeg).toNatClampNeg) fun y3 => ck (okI x2 10) (ck (okI (P 14 x2.toNatClampNeg) 6) (lt (P 12 (P 14 x2.toNatClampNeg).toNatClampNeg) fun y6 => if y3 = y6 then (if x2 ≤ x1 then (some 0) else (some 1)) else (if y6 ≤ y3 then (some 0) else (some 1))))))
def fB_X6_hasPlaced_L2 (T : Tr) (P : Tr) (x1 : Int32) (k2 : Int32 → Option (Int32)) (x2 : Int32) : Option (Int32) :=
  if (P 0 2) ≤ x2 then (some 0) else (ck (okI x2 10) (if (P 14 x2.toNatClampNeg) = x1 then (if (T 14 x2.toNatClampNeg) = 1 then (some 1) else (lt (x2 + 1) fun y6 => k2 y6)) else (lt (x2 + 1) fun y4 => k2 y4)))
def fL_X6_hasPlaced_L2 (T : Tr) (P : Tr) (x1 : Int32) : Int32 → Option (Int32) := lpF (fun _ => none) (fB_X6_hasPlaced_L2 T P x1) 2000
def f_X6_hasPlaced (T : Tr) (P : Tr) (x1 : Int32) : Option (Int32) :=
  fL_X6_hasPlaced_L2 T P x1 0
def fB_X6_isBusy_L2 (T : Tr) (P : Tr) (k2 : Int32 → Option (Int32)) (x1 : Int32) : Option (Int32) :=
  if (P 0 1) ≤ x1 then (some 0) else (ck (okI x1 6) (if (T 11 x1.toNatClampNeg) = 2 then (lt (x1 + 1) fun y4 => k2 y4) else (some 1)))
def fL_X6_isBusy_L2 (T : Tr) (P : Tr) : Int32 → Option (Int32) := lpF (fun _ => none) (fB_X6_isBusy_L2 T P) 2000
def f_X6_isBusy (T : Tr) (P : Tr) : Option (Int32) :=
  fL_X6_isBusy_L2 T P 0
def fB_X6_secondsFor_L26 (P : Tr) (x2 : Int32) (x4 : Int32) (k26 : Int32 → Int32 → Tr → Lo → Option (Int32 × Tr × Lo)) (x5 : Int32) (x6 : Int32) (T : Tr) (L : Lo) : Option (Int32 × Tr × Lo) :=
  ck (okI x4 5) (if (T 17 x4.toNatClampNeg) ≤ x6 then (some (x5, T, L)) else (ck (okI ((x4 * 10) + x6) 50) (lt (T 16 ((x4 * 10) + x6).toNatClampNeg) fun y10 => bd (f_X6_worked T P L (0 : Int32) y10 x2) fun q => lt q.1 fun r11 => lt q.2.1 fun T_12 => lt q.2.2 fun L_13 => if (lg_cmp r11 (-9223372036854775808)) = 0 then (if x2 ≤ 0 then (lt (x6 + 1) fun y18 => k26 x5 y18 T_12 L_13) else (ck (okI y10 10) (ck (!(x2 == 0)) (lt (x5 + (((P 15 y10.toNatClampNeg) / x2) + 1)) fun y21 => lt (x6 + 1) fun y22 => k26 y21 y22 T_12 L_13)))) else (bd (f_X6_within r11 (99 : Int32)) fun r23 => lt (x5 + r23) fun y26 => lt (x6 + 1) fun y27 => k26 y26 y27 T_12 L_13))))
def fL_X6_secondsFor_L26 (P : Tr) (x2 : Int32) (x4 : Int32) : Int32 → Int32 → Tr → Lo → Option (Int32 × Tr × Lo) := lpF (fun _ _ _ _ => none) (fB_X6_secondsFor_L26 P x2 x4) 2000
def f_X6_secondsFor (T : Tr) (P : Tr) (L : Lo) (x1 : Int32) (x2 : Int32) : Option (Int32 × Tr × Lo) :=
  bd (f_X6_level T x1) fun r1 => if 0 ≤ r1 then (ck (okI x1 10) (lt (T 15 x1.toNatClampNeg) fun y6 => fL_X6_secondsFor_L26 P x2 y6 0 r1 T L)) else (some (0, T, L))
def fB_X6_setFree_L2 (P : Tr) (x1 : Int32) (x2 : Int32) (k2 : Int32 → Tr → Option (Tr)) (x3 : Int32) (T : Tr) : Option (Tr) :=
  if (P 0 2) ≤ x3 then (some T) else (ck (okI x3 10) (if (P 14 x3.toNatClampNeg) = x1 then (if (T 14 x3.toNatClampNeg) = 1 then (bd (f_X6_takeAway T P x3 x2) fun T_7 => lt (x3 + 1) fun y10 => k2 y10 T_7) else (lt (x3 + 1) fun y6 => k2 y6 T)) else (lt (x3 + 1) fun y4 => k2 y4 T)))
def fL_X6_setFree_L2 (P : Tr) (x1 : Int32) (x2 : Int32) : Int32 → Tr → Option (Tr) := lpF (fun _ _ => none) (fB_X6_setFree_L2 P x1 x2) 2000
def f_X6_setFree (T : Tr) (P : Tr) (x1 : Int32) (x2 : Int32) : Option (Tr) :=
  fL_X6_setFree_L2 P x1 x2 0 T
def fJ_X6_takeDown_J192 (k7 : Int32 → Int32 → Int32 → Tr → Lo → Option (Int32 × Tr × Lo)) (P : Tr) (x1 : Int32) (x2 : Int32) (x3 : Int32) (x4 : Int32) (T : Tr) (L : Lo) : Option (Int32 × Tr × Lo) :=
  bd (f_X6_hasPlaced T P x4) fun r8 => if r8 = 0 then (ck (okI x4 6) (lt (st T 11 x4.toNatClampNeg 2) fun T_14 => lt (x4 + 1) fun y15 => k7 x2 x3 y15 T_14 L)) else (lt (x4 + 1) fun y12 => k7 x2 x3 y12 T L)
def fJ_X6_takeDown_J176 (k7 : Int32 → Int32 → Int32 → Tr → Lo → Option (Int32 × Tr × Lo)) (P : Tr) (x1 : Int32) (x2 : Int32) (x3 : Int32) (x4 : Int32) (T : Tr) (L : Lo) : Option (Int32 × Tr × Lo) :=
  if (T 0 0) = 20 then (bd (f_X6_setFree T P x4 (5 : Int32)) fun T_16 => fJ_X6_takeDown_J192 k7 P x1 x2 x3 x4 T_16 L) else (fJ_X6_takeDown_J192 k7 P x1 x2 x3 x4 T L)
def fJ_X6_takeDown_J126 (k7 : Int32 → Int32 → Int32 → Tr → Lo → Option (Int32 × Tr × Lo)) (k53 : Int32 → Int32 → Int32 → Tr → Lo → Option (Int32 × Tr × Lo)) (P : Tr) (x1 : Int32) (x4 : Int32) (x2 : Int32) (x5 : Int32) (x6 : Int32) (s0 : Int32) (T : Tr) (L : Lo) : Option (Int32 × Tr × Lo) :=
  if s0 = 0 then (lt (x5 + 1) fun y32 => k53 x2 s0 y32 T L) else (lt (x2 + x6) fun y33 => ck (okI x4 6) (lt (st T 12 x4.toNatClampNeg ((T 12 x4.toNatClampNeg) + x6)) fun T_35 => bd (f_X6_above T_35 x5) fun r36 => lt (st T_35 0 1 ((T_35 0 1) + r36)) fun T_39 => bd (f_X6_takeAway T_39 P x5 (2 : Int32)) fun T_40 => lt (x5 + 1) fun y43 => k53 y33 s0 y43 T_40 L))
def fB_X6_takeDown_L53 (k7 : Int32 → Int32 → Int32 → Tr → Lo → Option (Int32 × Tr × Lo)) (P : Tr) (x1 : Int32) (x4 : Int32) (k53 : Int32 → Int32 → Int32 → Tr → Lo → Option (Int32 × Tr × Lo)) (x2 : Int32) (x3 : Int32) (x5 : Int32) (T : Tr) (L : Lo) : Option (Int32 × Tr × Lo) :=
  if (P 0 2) ≤ x5 then (fJ_X6_takeDown_J176 k7 P x1 x2 x3 x4 T L) else (if x3 = 0 then (fJ_X6_takeDown_J176 k7 P x1 x2 x3 x4 T L) else (ck (okI x5 10) (if (P 14 x5.toNatClampNeg) = x4 then (if (T 14 x5.toNatClampNeg) = 1 then (ck (okI x4 6) (bd (f_X6_secondsFor T P L x5 (T 10 x4.toNatClampNeg)) fun q => lt q.1 fun r25 => lt q.2.1 fun T_26 => lt q.2.2 fun L_27 => if x1 < (x2 + r25) then (fJ_X6_takeDown_J126 k7 k53 P x1 x4 x2 x5 r25 0 T_26 L_27) else (fJ_X6_takeDown_J126 k7 k53 P x1 x4 x2 x5 r25 1 T_26 L_27))) else (lt (x5 + 1) fun y44 => k53 x2 x3 y44 T L)) else (lt (x5 + 1) fun y22 => k53 x2 x3 y22 T L))))
def fL_X6_takeDown_L53 (k7 : Int32 → Int32 → Int32 → Tr → Lo → Option (Int32 × Tr × Lo)) (P : Tr) (x1 : Int32) (x4 : Int32) : Int32 → Int32 → Int32 → Tr → Lo → Option (Int32 × Tr × Lo) := lpF (fun _ _ _ _ _ => none) (fB_X6_takeDown_L53 k7 P x1 x4) 2000
def fB_X6_takeDown_L7 (P : Tr) (x1 : Int32) (k7 : Int32 → Int32 → Int32 → Tr → Lo → Option (Int32 × Tr × Lo)) (x2 : Int32) (x3 : Int32) (x4 : Int32) (T : Tr) (L : Lo) : Option (Int32 × Tr × Lo) :=
  if (P 0 1) ≤ x4 then (some (x2, T, L)) else (ck (okI x4 6) (if (T 11 x4.toNatClampNeg) = 1 then (if (P 12 x4.toNatClampNeg) ≤ (T 0 0) then (fL_X6_takeDown_L53 k7 P x1 x4 x2 x3 0 T L) else (lt (x4 + 1) fun y45 => k7 x2 x3 y45 T L)) else (lt (x4 + 1) fun y4 => k7 x2 x3 y4 T L)))
def fL_X6_takeDown_L7 (P : Tr) (x1 : Int32) : Int32 → Int32 → Int32 → Tr → Lo → Option (Int32 × Tr × Lo) := lpF (fun _ _ _ _ _ => none) (fB_X6_takeDown_L7 P x1) 2000
def f_X6_takeDown (T : Tr) (P : Tr) (L : Lo) (x1 : Int32) : Option (Int32 × Tr × Lo) :=
  fL_X6_takeDown_L7 P x1 0 1 0 T L
def f_X6_stealPercent (T : Tr) (P : Tr) (L : Lo) (x1 : Int32) : Option (Int32 × Tr × Lo) :=
  ck (okI x1 10) (ck (okI (P 14 x1.toNatClampNeg) 6) (bd (f_X6_worked T P L (2 : Int32) x1 (T 10 (P 14 x1.toNatClampNeg).toNatClampNeg)) fun q => lt q.1 fun r3 => lt q.2.1 fun T_4 => lt q.2.2 fun L_5 => if (lg_cmp r3 (-9223372036854775808)) = 0 then (some (10, T_4, L_5)) else (bd (f_X6_within r3 (100 : Int32)) fun r9 => some (r9, T_4, L_5))))
def fB_X6_stealAway_L2 (P : Tr) (k2 : Int32 → Tr → Lo → Option (Tr × Lo)) (x1 : Int32) (T : Tr) (L : Lo) : Option (Tr × Lo) :=
  if (P 0 2) ≤ x1 then (some (T, L)) else (if (T 0 7) = 0 then (some (T, L)) else (ck (okI x1 10) (lt (T 15 x1.toNatClampNeg) fun y4 => if y4 < 0 then (lt (x1 + 1) fun y6 => k2 y6 T L) else (ck (okI y4 5) (if (P 8 y4.toNatClampNeg) = 4 then (bd (f_X6_stealPercent T P L x1) fun q => lt q.1 fun r10 => lt q.2.1 fun T_11 => lt q.2.2 fun L_12 => bd (f_X6_happens T_11 r10) fun q => lt q.1 fun r15 => lt q.2 fun T_16 => if r15 = 0 then (lt (x1 + 1) fun y20 => k2 y20 T_16 L_12) else (bd (f_X6_takeAway T_16 P x1 (4 : Int32)) fun T_21 => lt (x1 + 1) fun y24 => k2 y24 T_21 L_12)) else (lt (x1 + 1) fun y9 => k2 y9 T L))))))
def fL_X6_stealAway_L2 (P : Tr) : Int32 → Tr → Lo → Option (Tr × Lo) := lpF (fun _ _ _ => none) (fB_X6_stealAway_L2 P) 2000
def f_X6_stealAway (T : Tr) (P : Tr) (L : Lo) : Option (Tr × Lo) :=
  fL_X6_stealAway_L2 P 0 T L
def f_X6_wayOn (T : Tr) (P : Tr) (L : Lo) : Option (Tr × Lo) :=
  bd (f_X6_fallOff T P L) fun q => lt q.1 fun r1 => lt q.2.1 fun T_2 => lt q.2.2 fun L_3 => bd (f_X6_stealAway T_2 P L_3) fun q => lt q.1 fun T_6 => lt q.2 fun L_7 => lt (st T_6 0 0 ((T_6 0 0) + 1)) fun T_10 => some (T_10, L_7)
def f_X6_passStop (T : Tr) (P : Tr) (L : Lo) : Option (Tr × Lo) :=
  if 20 < (T 0 0) then (some (T, L)) else (ck (okI (T 0 0) 21) (bd (f_X6_takeDown T P L (P 18 (T 0 0).toNatClampNeg)) fun q => lt q.1 fun r3 => lt q.2.1 fun T_4 => lt q.2.2 fun L_5 => bd (f_X6_getIn T_4 P) fun T_8 => bd (f_X6_wayOn T_8 P L_5) fun q => lt q.1 fun T_11 => lt q.2 fun L_12 => some (T_11, L_12)))
def fB_X6_personsAboard_L4 (T : Tr) (P : Tr) (k4 : Int32 → Int32 → Option (Int32)) (x1 : Int32) (x2 : Int32) : Option (Int32) :=
  if (P 0 1) ≤ x2 then (some x1) else (ck (okI x2 6) (if (T 11 x2.toNatClampNeg) = 1 then (lt (x1 + 1) fun y5 => lt (x2 + 1) fun y6 => k4 y5 y6) else (lt (x2 + 1) fun y4 => k4 x1 y4)))
def fL_X6_personsAboard_L4 (T : Tr) (P : Tr) : Int32 → Int32 → Option (Int32) := lpF (fun _ _ => none) (fB_X6_personsAboard_L4 T P) 2000
def f_X6_personsAboard (T : Tr) (P : Tr) : Option (Int32) :=
  fL_X6_personsAboard_L4 T P 0 0
def fB_X6_piecesThatAre_L4 (T : Tr) (P : Tr) (x1 : Int32) (k4 : Int32 → Int32 → Option (Int32)) (x2 : Int32) (x3 : Int32) : Option (Int32) :=
  if (P 0 2) ≤ x3 then (some x2) else (ck (okI x3 10) (if (T 14 x3.toNatClampNeg) = x1 then (lt (x2 + 1) fun y5 => lt (x3 + 1) fun y6 => k4 y5 y6) else (lt (x3 + 1) fun y4 => k4 x2 y4)))
def fL_X6_piecesThatAre_L4 (T : Tr) (P : Tr) (x1 : Int32) : Int32 → Int32 → Option (Int32) := lpF (fun _ _ => none) (fB_X6_piecesThatAre_L4 T P x1) 2000
def f_X6_piecesThatAre (T : Tr) (P : Tr) (x1 : Int32) : Option (Int32) :=
  fL_X6_piecesThatAre_L4 T P x1 0 0
def fB_X6_runToEnd_L0 (P : Tr) (k0 : Tr → Lo → Option (Tr × Lo)) (T : Tr) (L : Lo) : Option (Tr × Lo) :=
  if 20 < (T 0 0) then (some (T, L)) else (bd (f_X6_isBusy T P) fun r2 => if r2 = 0 then (some (T, L)) else (ck (okI (T 0 0) 21) (bd (f_X6_takeDown T P L (P 18 (T 0 0).toNatClampNeg)) fun q => lt q.1 fun r7 => lt q.2.1 fun T_8 => lt q.2.2 fun L_9 => bd (f_X6_getIn T_8 P) fun T_12 => bd (f_X6_fallOff T_12 P L_9) fun q => lt q.1 fun r15 => lt q.2.1 fun T_16 => lt q.2.2 fun L_17 => bd (f_X6_stealAway T_16 P L_17) fun q => lt q.1 fun T_20 => lt q.2 fun L_21 => lt (st T_20 0 0 ((T_20 0 0) + 1)) fun T_24 => k0 T_24 L_21)))
def fL_X6_runToEnd_L0 (P : Tr) : Tr → Lo → Option (Tr × Lo) := lpF (fun _ _ => none) (fB_X6_runToEnd_L0 P) 2000
def f_X6_runToEnd (T : Tr) (P : Tr) (L : Lo) : Option (Tr × Lo) :=
  fL_X6_runToEnd_L0 P T L
def fJ_X6_sendAway_J16 (P : Tr) (x1 : Int32) (T : Tr) : Option (Tr) :=
  ck (okI x1 6) (lt (st T 11 x1.toNatClampNeg 2) fun T_4 => some T_4)
def f_X6_sendAway (T : Tr) (P : Tr) (x1 : Int32) : Option (Tr) :=
  ck (okI x1 6) (if (T 11 x1.toNatClampNeg) = 1 then (bd (f_X6_setFree T P x1 (2 : Int32)) fun T_5 => fJ_X6_sendAway_J16 P x1 T_5) else (fJ_X6_sendAway_J16 P x1 T))
def fB_X6_strengthenAll_L2  (k2 : Int32 → Tr → Option (Tr)) (x1 : Int32) (T : Tr) : Option (Tr) :=
  if 6 ≤ x1 then (some T) else (ck (okI x1 6) (lt (st T 10 x1.toNatClampNeg 99) fun T_3 => lt (x1 + 1) fun y4 => k2 y4 T_3))
def fL_X6_strengthenAll_L2  : Int32 → Tr → Option (Tr) := lpF (fun _ _ => none) (fB_X6_strengthenAll_L2 ) 2000
def f_X6_strengthenAll (T : Tr) : Option (Tr) :=
  fL_X6_strengthenAll_L2  0 T
def fB_X6_turnedLevel_L5 (T : Tr) (P : Tr) (x1 : Int32) (x2 : Int32) (k5 : Int32 → Int32 → Option (Int32)) (x3 : Int32) (x4 : Int32) : Option (Int32) :=
  ck (okI x1 5) (if (T 17 x1.toNatClampNeg) ≤ x4 then (some x3) else (ck (okI ((x1 * 10) + x4) 50) (bd (f_X6_goesAbove P x2 (T 16 ((x1 * 10) + x4).toNatClampNeg)) fun r4 => if r4 = 0 then (lt (x4 + 1) fun y8 => k5 x3 y8) else (lt (x3 + 1) fun y9 => lt (x4 + 1) fun y10 => k5 y9 y10))))
def fL_X6_turnedLevel_L5 (T : Tr) (P : Tr) (x1 : Int32) (x2 : Int32) : Int32 → Int32 → Option (Int32) := lpF (fun _ _ => none) (fB_X6_turnedLevel_L5 T P x1 x2) 2000
def f_X6_turnedLevel (T : Tr) (P : Tr) (x1 : Int32) (x2 : Int32) : Option (Int32) :=
  fL_X6_turnedLevel_L5 T P x1 x2 0 0
def fJ_X6_turnOver_J129 (k52 : Int32 → Tr → Option (Int32 × Tr)) (P : Tr) (x1 : Int32) (x2 : Int32) (x3 : Int32) (x4 : Int32) (x5 : Int32) (x6 : Int32) (T : Tr) : Option (Int32 × Tr) :=
  ck (okI (x2 + x6) 50) (lt (st T 16 ((x2 + x6).toNatClampNeg) x5) fun T_10 => lt (x4 + 1) fun y11 => k52 y11 T_10)
def fB_X6_turnOver_L78 (k52 : Int32 → Tr → Option (Int32 × Tr)) (P : Tr) (x1 : Int32) (x2 : Int32) (x3 : Int32) (x4 : Int32) (x5 : Int32) (k78 : Int32 → Tr → Option (Int32 × Tr)) (x6 : Int32) (T : Tr) : Option (Int32 × Tr) :=
  if x6 ≤ 0 then (fJ_X6_turnOver_J129 k52 P x1 x2 x3 x4 x5 x6 T) else (ck (okI ((x2 + x6) - 1) 50) (bd (f_X6_goesAbove P (T 16 ((x2 + x6) - 1).toNatClampNeg) x5) fun r13 => if r13 = 0 then (fJ_X6_turnOver_J129 k52 P x1 x2 x3 x4 x5 x6 T) else (ck (okI (x2 + x6) 50) (lt (st T 16 ((x2 + x6).toNatClampNeg) (T 16 ((x2 + x6) - 1).toNatClampNeg)) fun T_18 => lt (x6 + (-1)) fun y19 => k78 y19 T_18))))
def fL_X6_turnOver_L78 (k52 : Int32 → Tr → Option (Int32 × Tr)) (P : Tr) (x1 : Int32) (x2 : Int32) (x3 : Int32) (x4 : Int32) (x5 : Int32) : Int32 → Tr → Option (Int32 × Tr) := lpF (fun _ _ => none) (fB_X6_turnOver_L78 k52 P x1 x2 x3 x4 x5) 2000
def fB_X6_turnOver_L52 (P : Tr) (x1 : Int32) (x2 : Int32) (x3 : Int32) (k52 : Int32 → Tr → Option (Int32 × Tr)) (x4 : Int32) (T : Tr) : Option (Int32 × Tr) :=
  ck (okI x1 5) (if (T 17 x1.toNatClampNeg) ≤ x4 then (some (x3, T)) else (ck (okI (x2 + x4) 50) (lt (T 16 (x2 + x4).toNatClampNeg) fun y7 => fL_X6_turnOver_L78 k52 P x1 x2 x3 x4 y7 x4 T)))
def fL_X6_turnOver_L52 (P : Tr) (x1 : Int32) (x2 : Int32) (x3 : Int32) : Int32 → Tr → Option (Int32 × Tr) := lpF (fun _ _ => none) (fB_X6_turnOver_L52 P x1 x2 x3) 2000
def fB_X6_turnOver_L10 (T : Tr) (P : Tr) (x1 : Int32) (x2 : Int32) (k10 : Int32 → Int32 → Option (Int32 × Tr)) (x3 : Int32) (x4 : Int32) : Option (Int32 × Tr) :=
  ck (okI x1 5) (if (T 17 x1.toNatClampNeg) ≤ x4 then (fL_X6_turnOver_L52 P x1 x2 x3 1 T) else (ck (okI (x2 + x4) 50) (bd (f_X6_turnedLevel T P x1 (T 16 (x2 + x4).toNatClampNeg)) fun r21 => if r21 = x4 then (lt (x4 + 1) fun y25 => k10 x3 y25) else (lt (x3 + 1) fun y26 => lt (x4 + 1) fun y27 => k10 y26 y27))))
def fL_X6_turnOver_L10 (T : Tr) (P : Tr) (x1 : Int32) (x2 : Int32) : Int32 → Int32 → Option (Int32 × Tr) := lpF (fun _ _ => none) (fB_X6_turnOver_L10 T P x1 x2) 2000
def f_X6_turnOver (T : Tr) (P : Tr) (x1 : Int32) : Option (Int32 × Tr) :=
  lt (x1 * 10) fun y1 => fL_X6_turnOver_L10 T P x1 y1 0 0
