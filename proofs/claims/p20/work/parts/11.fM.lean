def f_X8_ableOf (S : Tr) (x1 : Int32) (x2 : Int32) : Option (Int32) :=
  if (S 0 69) = 0 then (ck (okI (((6 : Int32) * x1) + x2) 12) (some (S 58 (((6 : Int32) * x1) + x2).toNatClampNeg))) else (some 99)
def f_X8_stackAt (S : Tr) (x1 : Int32) (x2 : Int32) (x3 : Int32) : Option (Int32) :=
  ck (okI ((((50 : Int32) * x1) + ((10 : Int32) * x2)) + x3) 100) (some (S 55 ((((50 : Int32) * x1) + ((10 : Int32) * x2)) + x3).toNatClampNeg))
def fB_X8_belowOf_L2 (S : Tr) (x1 : Int32) (x2 : Int32) (k2 : Int32 → Option (Int32)) (x3 : Int32) : Option (Int32) :=
  ck (okI (((10 : Int32) * x1) + x2) 20) (bd (f_X8_stackAt S x1 (S 54 (((10 : Int32) * x1) + x2).toNatClampNeg) x3) fun r2 => if r2 = x2 then (some x3) else (lt (x3 + 1) fun y6 => k2 y6))
def fL_X8_belowOf_L2 (S : Tr) (x1 : Int32) (x2 : Int32) : Int32 → Option (Int32) := lpF (fun _ => none) (fB_X8_belowOf_L2 S x1 x2) 2000
def f_X8_belowOf (S : Tr) (x1 : Int32) (x2 : Int32) : Option (Int32) :=
  fL_X8_belowOf_L2 S x1 x2 0
def f_X8_aboveOf (S : Tr) (x1 : Int32) (x2 : Int32) : Option (Int32) :=
  ck (okI (((10 : Int32) * x1) + x2) 20) (if 0 ≤ (S 54 (((10 : Int32) * x1) + x2).toNatClampNeg) then (ck (okI (((5 : Int32) * x1) + (S 54 (((10 : Int32) * x1) + x2).toNatClampNeg)) 10) (bd (f_X8_belowOf S x1 x2) fun r4 => some (((S 56 (((5 : Int32) * x1) + (S 54 (((10 : Int32) * x1) + x2).toNatClampNeg)).toNatClampNeg) - 1) - r4))) else (some 0))
def f_X8_isPiece (S : Tr) (x1 : Int32) : Option (Int32) :=
  if x1 < 0 then (some 0) else (if (S 0 14) ≤ x1 then (some 0) else (some 1))
def f_X8_isComing (S : Tr) (x1 : Int32) : Option (Int32) :=
  ck (okI x1 20) (if (S 53 x1.toNatClampNeg) = 0 then (ck (okI (S 30 x1.toNatClampNeg) 12) (if (S 57 (S 30 x1.toNatClampNeg).toNatClampNeg) = (S 62 0) then (if (S 59 (S 30 x1.toNatClampNeg).toNatClampNeg) = 0 then (some 1) else (some 0)) else (some 0))) else (some 0))
def f_X8_areTwo (S : Tr) (x1 : Int32) (x2 : Int32) : Option (Int32) :=
  bd (f_X8_isPiece S x1) fun r1 => if r1 = 0 then (some 0) else (bd (f_X8_isPiece S x2) fun r5 => if r5 = 0 then (some 0) else (if x1 = x2 then (some 0) else (ck (okI x1 20) (ck (okI x2 20) (if (S 30 x1.toNatClampNeg) = (S 30 x2.toNatClampNeg) then (some 0) else (if 21 ≤ (S 62 0) then (some 0) else (bd (f_X8_isComing S x1) fun r14 => if r14 = 0 then (some 0) else (bd (f_X8_isComing S x2) fun r18 => if r18 = 0 then (some 0) else (if (S 0 12) ≤ 0 then (some 0) else (some 1))))))))))
def fB_X8_plainTried_L42  (k42 : Int32 → Tr → Option (Tr)) (x1 : Int32) (S : Tr) : Option (Tr) :=
  if 10 ≤ x1 then (some S) else (ck (okI x1 10) (lt (st S 72 x1.toNatClampNeg (-1)) fun S_10 => lt (x1 + 1) fun y11 => k42 y11 S_10))
def fL_X8_plainTried_L42  : Int32 → Tr → Option (Tr) := lpF (fun _ _ => none) (fB_X8_plainTried_L42 ) 2000
def f_X8_plainTried (S : Tr) : Option (Tr) :=
  lt (st S 0 64 (S 23 0)) fun S_1 => lt (st S_1 0 65 0) fun S_2 => lt (st S_2 0 66 0) fun S_3 => lt (st S_3 0 67 0) fun S_4 => lt (st S_4 0 68 0) fun S_5 => lt (st S_5 0 69 0) fun S_6 => lt (st S_6 0 70 0) fun S_7 => fL_X8_plainTried_L42  0 S_7
def fJ_X8_layTried_J174  (S : Tr) : Option (Tr) :=
  lt (st S 61 1 (S 61 0)) fun S_5 => lt (st S_5 62 1 (S_5 62 0)) fun S_6 => lt (st S_6 63 1 0) fun S_7 => bd (f_X8_plainTried S_7) fun S_8 => some S_8
def fB_X8_layTried_L102  (k102 : Int32 → Tr → Option (Tr)) (x1 : Int32) (S : Tr) : Option (Tr) :=
  if 6 ≤ x1 then (fJ_X8_layTried_J174  S) else (ck (okI x1 12) (ck (okI ((6 : Int32) + x1) 12) (lt (st S 57 (((6 : Int32) + x1).toNatClampNeg) (S 57 x1.toNatClampNeg)) fun S_13 => lt (st S_13 58 (((6 : Int32) + x1).toNatClampNeg) (S_13 58 x1.toNatClampNeg)) fun S_14 => lt (st S_14 59 (((6 : Int32) + x1).toNatClampNeg) (S_14 59 x1.toNatClampNeg)) fun S_15 => lt (st S_15 60 (((6 : Int32) + x1).toNatClampNeg) (S_15 60 x1.toNatClampNeg)) fun S_16 => lt (x1 + 1) fun y17 => k102 y17 S_16)))
def fL_X8_layTried_L102  : Int32 → Tr → Option (Tr) := lpF (fun _ _ => none) (fB_X8_layTried_L102 ) 2000
def fB_X8_layTried_L75  (k75 : Int32 → Tr → Option (Tr)) (x1 : Int32) (S : Tr) : Option (Tr) :=
  if 5 ≤ x1 then (fL_X8_layTried_L102  0 S) else (ck (okI x1 10) (ck (okI ((5 : Int32) + x1) 10) (lt (st S 56 (((5 : Int32) + x1).toNatClampNeg) (S 56 x1.toNatClampNeg)) fun S_20 => lt (x1 + 1) fun y21 => k75 y21 S_20)))
def fL_X8_layTried_L75  : Int32 → Tr → Option (Tr) := lpF (fun _ _ => none) (fB_X8_layTried_L75 ) 2000
def fB_X8_layTried_L46  (k46 : Int32 → Tr → Option (Tr)) (x1 : Int32) (S : Tr) : Option (Tr) :=
  if 50 ≤ x1 then (fL_X8_layTried_L75  0 S) else (ck (okI x1 100) (ck (okI ((50 : Int32) + x1) 100) (lt (st S 55 (((50 : Int32) + x1).toNatClampNeg) (S 55 x1.toNatClampNeg)) fun S_24 => lt (x1 + 1) fun y25 => k46 y25 S_24)))
def fL_X8_layTried_L46  : Int32 → Tr → Option (Tr) := lpF (fun _ _ => none) (fB_X8_layTried_L46 ) 2000
def fB_X8_layTried_L2  (k2 : Int32 → Tr → Option (Tr)) (x1 : Int32) (S : Tr) : Option (Tr) :=
  if 10 ≤ x1 then (fL_X8_layTried_L46  0 S) else (ck (okI x1 20) (ck (okI ((10 : Int32) + x1) 20) (lt (st S 53 (((10 : Int32) + x1).toNatClampNeg) (S 53 x1.toNatClampNeg)) fun S_28 => lt (st S_28 54 (((10 : Int32) + x1).toNatClampNeg) (S_28 54 x1.toNatClampNeg)) fun S_29 => lt (x1 + 1) fun y30 => k2 y30 S_29)))
def fL_X8_layTried_L2  : Int32 → Tr → Option (Tr) := lpF (fun _ _ => none) (fB_X8_layTried_L2 ) 2000
def f_X8_layTried (S : Tr) : Option (Tr) :=
  fL_X8_layTried_L2  0 S
def f_X8_getsOut (S : Tr) (x1 : Int32) (x2 : Int32) : Option (Int32) :=
  ck (okI (((6 : Int32) * x1) + x2) 12) (if (S 59 (((6 : Int32) * x1) + x2).toNatClampNeg) = 1 then (ck (okI x2 12) (ck (okI x1 2) (if (S 28 x2.toNatClampNeg) ≤ (S 62 x1.toNatClampNeg) then (some 1) else (if (S 62 x1.toNatClampNeg) = 20 then (some 1) else (some 0))))) else (some 0))
def fB_X8_weightIn_L5 (S : Tr) (x1 : Int32) (x2 : Int32) (k5 : Int32 → Int32 → Option (Int32)) (x3 : Int32) (x4 : Int32) : Option (Int32) :=
  ck (okI (((5 : Int32) * x1) + x2) 10) (if (S 56 (((5 : Int32) * x1) + x2).toNatClampNeg) ≤ x4 then (some x3) else (bd (f_X8_stackAt S x1 x2 x4) fun r3 => ck (okI r3 20) (lt (x3 + (S 31 r3.toNatClampNeg)) fun y7 => lt (x4 + 1) fun y8 => k5 y7 y8)))
def fL_X8_weightIn_L5 (S : Tr) (x1 : Int32) (x2 : Int32) : Int32 → Int32 → Option (Int32) := lpF (fun _ _ => none) (fB_X8_weightIn_L5 S x1 x2) 2000
def f_X8_weightIn (S : Tr) (x1 : Int32) (x2 : Int32) : Option (Int32) :=
  fL_X8_weightIn_L5 S x1 x2 0 0
def f_X8_layNames (S : Tr) (L : Lo) (x1 : Int32) (x2 : Int32) (x3 : Int32) : Option (Lo) :=
  ck (okI (((10 : Int32) * x1) + x2) 20) (lt (S 54 (((10 : Int32) * x1) + x2).toNatClampNeg) fun y2 => ck (okI x2 20) (lt (stL L 50 0 ((S 31 x2.toNatClampNeg).toInt64)) fun L_4 => lt (stL L_4 50 1 ((S 32 x2.toNatClampNeg).toInt64)) fun L_5 => bd (f_X8_aboveOf S x1 x2) fun r6 => lt (stL L_5 50 2 r6.toInt64) fun L_9 => ck (okI y2 10) (lt (stL L_9 50 3 ((S 24 y2.toNatClampNeg).toInt64)) fun L_11 => bd (f_X8_ableOf S x1 x3) fun r12 => lt (stL L_11 50 4 r12.toInt64) fun L_15 => ck (okI x1 2) (lt (stL L_15 50 5 ((S 62 x1.toNatClampNeg).toInt64)) fun L_17 => bd (f_X8_weightIn S x1 y2) fun r18 => lt (stL L_17 50 6 r18.toInt64) fun L_21 => some L_21))))
def f_X8_compares (x0 : Int32) (x1 : Int64) (x3 : Int64) : Option (Int32) :=
  if x0 = 5 then (if 0 ≤ (lg_cmp x1 x3) then (some 0) else (some 1)) else (if x0 = 6 then (if 0 < (lg_cmp x1 x3) then (some 0) else (some 1)) else (if x0 = 7 then (if (lg_cmp x1 x3) = 0 then (some 1) else (some 0)) else (if x0 = 8 then (if (lg_cmp x1 x3) = 0 then (some 0) else (some 1)) else (if x0 = 9 then (if (lg_cmp x1 x3) < 0 then (some 0) else (some 1)) else (if (lg_cmp x1 x3) ≤ 0 then (some 0) else (some 1))))))
def fJ_X8_times_J69  (x1 : Int64) (x3 : Int64) (s0 : Int32) (S : Tr) : Option (Int64 × Tr) :=
  ck (okB s0) (lt (st S 0 51 s0) fun S_4 => if (S_4 0 51) = 0 then (some ((x1 * x3), S_4)) else (some (0, S_4)))
def fJ_X8_times_J64  (x1 : Int64) (x3 : Int64) (S : Tr) : Option (Int64 × Tr) :=
  fJ_X8_times_J69  x1 x3 1 S
def fJ_X8_times_J49  (x1 : Int64) (x3 : Int64) (s0 : Int32) (S : Tr) : Option (Int64 × Tr) :=
  if (S 0 51) = 0 then (if s0 = 0 then (fJ_X8_times_J69  x1 x3 0 S) else (fJ_X8_times_J64  x1 x3 S)) else (fJ_X8_times_J64  x1 x3 S)
def fJ_X8_times_J48  (x1 : Int64) (x3 : Int64) (S : Tr) : Option (Int64 × Tr) :=
  fJ_X8_times_J49  x1 x3 0 S
def fJ_X8_times_J39  (x1 : Int64) (x3 : Int64) (s0 : Int64) (s1 : Int64) (s2 : Int64) (S : Tr) : Option (Int64 × Tr) :=
  ck (!(s0 == 0)) (if (lg_cmp s2 (s1 / s0)) ≤ 0 then (fJ_X8_times_J48  x1 x3 S) else (fJ_X8_times_J49  x1 x3 1 S))
def fJ_X8_times_J24  (x1 : Int64) (x3 : Int64) (s0 : Int64) (S : Tr) : Option (Int64 × Tr) :=
  if 0 ≤ (lg_cmp x1 0) then (fJ_X8_times_J39  x1 x3 x1 1000000000000 s0 S) else (fJ_X8_times_J39  x1 x3 (-x1) 1000000000000 s0 S)
def f_X8_times (S : Tr) (x1 : Int64) (x3 : Int64) : Option (Int64 × Tr) :=
  if (lg_cmp x1 0) = 0 then (fJ_X8_times_J48  x1 x3 S) else (if (lg_cmp x3 0) = 0 then (fJ_X8_times_J48  x1 x3 S) else (if 0 ≤ (lg_cmp x3 0) then (fJ_X8_times_J24  x1 x3 x3 S) else (fJ_X8_times_J24  x1 x3 (-x3) S)))
def fJ_X8_bounded_J29  (x1 : Int64) (s0 : Int32) (S : Tr) : Option (Int64 × Tr) :=
  ck (okB s0) (lt (st S 0 51 s0) fun S_3 => if (S_3 0 51) = 0 then (some (x1, S_3)) else (some (0, S_3)))
def fJ_X8_bounded_J24  (x1 : Int64) (S : Tr) : Option (Int64 × Tr) :=
  fJ_X8_bounded_J29  x1 1 S
def f_X8_bounded (S : Tr) (x1 : Int64) : Option (Int64 × Tr) :=
  if (S 0 51) = 0 then (if 0 < (lg_cmp x1 1000000000000) then (fJ_X8_bounded_J24  x1 S) else (if 0 ≤ (lg_cmp x1 (-1000000000000)) then (fJ_X8_bounded_J29  x1 0 S) else (fJ_X8_bounded_J24  x1 S))) else (fJ_X8_bounded_J24  x1 S)
def fJ_X8_valueOf_J240 (L : Lo) (x2 : Int64) (x4 : Int64) (s0 : Int32) (S : Tr) : Option (Int64 × Tr) :=
  ck (okB s0) (lt (st S 0 51 s0) fun S_34 => if (S_34 0 51) = 0 then (ck (!(x4 == 0)) (some ((x2 / x4), S_34))) else (some (0, S_34)))
def fJ_X8_valueOf_J235 (L : Lo) (x2 : Int64) (x4 : Int64) (S : Tr) : Option (Int64 × Tr) :=
  fJ_X8_valueOf_J240 L x2 x4 1 S
def f_X8_valueOf (S : Tr) (L : Lo) (x1 : Int32) : Option (Int64 × Tr) :=
  ck (okI x1 128) (if (S 39 x1.toNatClampNeg) = 0 then (some (((S 40 x1.toNatClampNeg).toInt64), S)) else (if (S 39 x1.toNatClampNeg) = 1 then (ck (okI (S 40 x1.toNatClampNeg) 7) (some ((L 50 (S 40 x1.toNatClampNeg).toNatClampNeg), S))) else (ck (okI (S 40 x1.toNatClampNeg) 64) (lt (L 51 (S 40 x1.toNatClampNeg).toNatClampNeg) fun y5 => if (S 39 x1.toNatClampNeg) = 2 then (if (lg_cmp y5 0) = 0 then (some (1, S)) else (some (0, S))) else (ck (okI (S 41 x1.toNatClampNeg) 64) (lt (L 51 (S 41 x1.toNatClampNeg).toNatClampNeg) fun y8 => lt (S 39 x1.toNatClampNeg) fun y9 => if y9 = 3 then (if (lg_cmp y5 0) = 0 then (some (0, S)) else (if (lg_cmp y8 0) = 0 then (some (0, S)) else (some (1, S)))) else (if y9 = 4 then (if (lg_cmp y5 0) = 0 then (if (lg_cmp y8 0) = 0 then (some (0, S)) else (some (1, S))) else (some (1, S))) else (if y9 = 11 then (bd (f_X8_bounded S (y5 + y8)) fun q => lt q.1 fun r17 => lt q.2 fun S_18 => some (r17, S_18)) else (if y9 = 12 then (bd (f_X8_bounded S (y5 - y8)) fun q => lt q.1 fun r22 => lt q.2 fun S_23 => some (r22, S_23)) else (if y9 = 13 then (bd (f_X8_times S y5 y8) fun q => lt q.1 fun r27 => lt q.2 fun S_28 => some (r27, S_28)) else (if y9 = 14 then (if (S 0 51) = 0 then (if (lg_cmp y8 0) = 0 then (fJ_X8_valueOf_J235 L y5 y8 S) else (fJ_X8_valueOf_J240 L y5 y8 0 S)) else (fJ_X8_valueOf_J235 L y5 y8 S)) else (bd (f_X8_compares (S 39 x1.toNatClampNeg) y5 y8) fun r38 => if r38 = 0 then (some (0, S)) else (some (1, S))))))))))))))
def fJ_X8_lawOf_J39  (x1 : Int32) (S : Tr) (L : Lo) : Option (Int64 × Tr × Lo) :=
  if (S 0 51) = 0 then (ck (okI x1 6) (ck (okI ((S 38 x1.toNatClampNeg) - 1) 64) (some ((L 51 ((S 38 x1.toNatClampNeg) - 1).toNatClampNeg), S, L)))) else (some (0, S, L))
def fB_X8_lawOf_L12 (x1 : Int32) (k12 : Int32 → Tr → Lo → Option (Int64 × Tr × Lo)) (x2 : Int32) (S : Tr) (L : Lo) : Option (Int64 × Tr × Lo) :=
  ck (okI x1 6) (if (S 38 x1.toNatClampNeg) ≤ x2 then (fJ_X8_lawOf_J39  x1 S L) else (bd (f_X8_valueOf S L x2) fun q => lt q.1 fun r9 => lt q.2 fun S_10 => ck (okI x2 64) (lt (stL L 51 x2.toNatClampNeg r9) fun L_14 => lt (x2 + 1) fun y15 => k12 y15 S_10 L_14)))
def fL_X8_lawOf_L12 (x1 : Int32) : Int32 → Tr → Lo → Option (Int64 × Tr × Lo) := lpF (fun _ _ _ => none) (fB_X8_lawOf_L12 x1) 2000
def f_X8_lawOf (S : Tr) (L : Lo) (x1 : Int32) : Option (Int64 × Tr × Lo) :=
  lt (st S 0 51 0) fun S_1 => ck (okI x1 6) (lt (S_1 37 x1.toNatClampNeg) fun y3 => fL_X8_lawOf_L12 x1 y3 S_1 L)
def f_X8_boundLaw (S : Tr) (L : Lo) (x1 : Int32) (x2 : Int32) (x3 : Int32) : Option (Int32 × Tr × Lo) :=
  ck (okI x1 6) (if (S 36 x1.toNatClampNeg) = 0 then (some (x2, S, L)) else (bd (f_X8_lawOf S L x1) fun q => lt q.1 fun r3 => lt q.2.1 fun S_4 => lt q.2.2 fun L_5 => if (S_4 0 51) = 0 then (if 0 ≤ (lg_cmp r3 0) then (if (lg_cmp r3 x3.toInt64) ≤ 0 then (some (r3.toInt32, S_4, L_5)) else (some (x3, S_4, L_5))) else (some (0, S_4, L_5))) else (some (x2, S_4, L_5))))
def f_X8_liftOf (S : Tr) (L : Lo) (x1 : Int32) (x2 : Int32) (x3 : Int32) : Option (Int32 × Tr × Lo) :=
  bd (f_X8_layNames S L x1 x2 x3) fun L_1 => ck (okI x2 20) (bd (f_X8_ableOf S x1 x3) fun r5 => ck (!(r5 == 0)) (bd (f_X8_boundLaw S L_1 (0 : Int32) (((S 31 x2.toNatClampNeg) / r5) + 1) (99 : Int32)) fun q => lt q.1 fun r9 => lt q.2.1 fun S_10 => lt q.2.2 fun L_11 => some (r9, S_10, L_11)))
def fB_X8_secondsOf_L23 (x1 : Int32) (x2 : Int32) (x3 : Int32) (k23 : Int32 → Int32 → Tr → Lo → Option (Int32 × Tr × Lo)) (x4 : Int32) (x5 : Int32) (S : Tr) (L : Lo) : Option (Int32 × Tr × Lo) :=
  ck (okI (((5 : Int32) * x1) + x3) 10) (if (S 56 (((5 : Int32) * x1) + x3).toNatClampNeg) ≤ x5 then (some (x4, S, L)) else (bd (f_X8_stackAt S x1 x3 x5) fun r8 => ck (okI x2 20) (bd (f_X8_liftOf S L x1 r8 (S 30 x2.toNatClampNeg)) fun q => lt q.1 fun r12 => lt q.2.1 fun S_13 => lt q.2.2 fun L_14 => lt (x4 + r12) fun y17 => lt (x5 + 1) fun y18 => k23 y17 y18 S_13 L_14)))
def fL_X8_secondsOf_L23 (x1 : Int32) (x2 : Int32) (x3 : Int32) : Int32 → Int32 → Tr → Lo → Option (Int32 × Tr × Lo) := lpF (fun _ _ _ _ => none) (fB_X8_secondsOf_L23 x1 x2 x3) 2000
def f_X8_secondsOf (S : Tr) (L : Lo) (x1 : Int32) (x2 : Int32) : Option (Int32 × Tr × Lo) :=
  ck (okI (((10 : Int32) * x1) + x2) 20) (lt (S 54 (((10 : Int32) * x1) + x2).toNatClampNeg) fun y2 => bd (f_X8_belowOf S x1 x2) fun r3 => fL_X8_secondsOf_L23 x1 x2 y2 0 r3 S L)
def fJ_X8_takes_J96  (x1 : Int32) (x2 : Int32) (x3 : Int32) (S : Tr) : Option (Tr) :=
  ck (okI (((10 : Int32) * x1) + x2) 20) (lt (st S 54 ((((10 : Int32) * x1) + x2).toNatClampNeg) (-1)) fun S_11 => lt (st S_11 53 ((((10 : Int32) * x1) + x2).toNatClampNeg) x3) fun S_12 => some S_12)
def fB_X8_takes_L36 (x1 : Int32) (x2 : Int32) (x3 : Int32) (x4 : Int32) (k36 : Int32 → Tr → Option (Tr)) (x5 : Int32) (S : Tr) : Option (Tr) :=
  ck (okI (((5 : Int32) * x1) + x4) 10) (if (S 56 (((5 : Int32) * x1) + x4).toNatClampNeg) ≤ x5 then (fJ_X8_takes_J96  x1 x2 x3 S) else (ck (okI (((((50 : Int32) * x1) + ((10 : Int32) * x4)) + x5) + 1) 100) (ck (okI ((((50 : Int32) * x1) + ((10 : Int32) * x4)) + x5) 100) (lt (st S 55 (((((50 : Int32) * x1) + ((10 : Int32) * x4)) + x5).toNatClampNeg) (S 55 (((((50 : Int32) * x1) + ((10 : Int32) * x4)) + x5) + 1).toNatClampNeg)) fun S_15 => lt (x5 + 1) fun y16 => k36 y16 S_15))))
def fL_X8_takes_L36 (x1 : Int32) (x2 : Int32) (x3 : Int32) (x4 : Int32) : Int32 → Tr → Option (Tr) := lpF (fun _ _ => none) (fB_X8_takes_L36 x1 x2 x3 x4) 2000
def f_X8_takes (S : Tr) (x1 : Int32) (x2 : Int32) (x3 : Int32) : Option (Tr) :=
  ck (okI (((10 : Int32) * x1) + x2) 20) (lt (S 54 (((10 : Int32) * x1) + x2).toNatClampNeg) fun y2 => bd (f_X8_belowOf S x1 x2) fun r3 => ck (okI (((5 : Int32) * x1) + y2) 10) (lt (st S 56 ((((5 : Int32) * x1) + y2).toNatClampNeg) ((S 56 (((5 : Int32) * x1) + y2).toNatClampNeg) - 1)) fun S_7 => fL_X8_takes_L36 x1 x2 x3 y2 r3 S_7))
def fB_X8_hasAny_L2 (S : Tr) (x1 : Int32) (x2 : Int32) (k2 : Int32 → Option (Int32)) (x3 : Int32) : Option (Int32) :=
  if (S 0 14) ≤ x3 then (some 0) else (ck (okI x3 20) (if (S 30 x3.toNatClampNeg) = x2 then (ck (okI (((10 : Int32) * x1) + x3) 20) (if (S 53 (((10 : Int32) * x1) + x3).toNatClampNeg) = 1 then (some 1) else (lt (x3 + 1) fun y7 => k2 y7))) else (lt (x3 + 1) fun y4 => k2 y4)))
def fL_X8_hasAny_L2 (S : Tr) (x1 : Int32) (x2 : Int32) : Int32 → Option (Int32) := lpF (fun _ => none) (fB_X8_hasAny_L2 S x1 x2) 2000
def f_X8_hasAny (S : Tr) (x1 : Int32) (x2 : Int32) : Option (Int32) :=
  fL_X8_hasAny_L2 S x1 x2 0
def fB_X8_outs_L261 (L : Lo) (x1 : Int32) (k261 : Int32 → Tr → Option (Tr × Lo)) (x3 : Int32) (S : Tr) : Option (Tr × Lo) :=
  if (S 0 13) ≤ x3 then (some (S, L)) else (ck (okI (((6 : Int32) * x1) + x3) 12) (if (S 59 (((6 : Int32) * x1) + x3).toNatClampNeg) = 1 then (lt (st S 59 ((((6 : Int32) * x1) + x3).toNatClampNeg) 2) fun S_10 => lt (x3 + 1) fun y11 => k261 y11 S_10) else (lt (x3 + 1) fun y9 => k261 y9 S)))
def fL_X8_outs_L261 (L : Lo) (x1 : Int32) : Int32 → Tr → Option (Tr × Lo) := lpF (fun _ _ => none) (fB_X8_outs_L261 L x1) 2000
def fB_X8_outs_L223 (L : Lo) (x1 : Int32) (k223 : Int32 → Tr → Option (Tr × Lo)) (x3 : Int32) (S : Tr) : Option (Tr × Lo) :=
  if (S 0 14) ≤ x3 then (fL_X8_outs_L261 L x1 0 S) else (ck (okI (((10 : Int32) * x1) + x3) 20) (if (S 53 (((10 : Int32) * x1) + x3).toNatClampNeg) = 1 then (bd (f_X8_takes S x1 x3 (5 : Int32)) fun S_15 => lt (x3 + 1) fun y18 => k223 y18 S_15) else (lt (x3 + 1) fun y14 => k223 y14 S)))
def fL_X8_outs_L223 (L : Lo) (x1 : Int32) : Int32 → Tr → Option (Tr × Lo) := lpF (fun _ _ => none) (fB_X8_outs_L223 L x1) 2000
def fJ_X8_outs_J209  (x1 : Int32) (S : Tr) (L : Lo) : Option (Tr × Lo) :=
  ck (okI x1 2) (if 20 ≤ (S 62 x1.toNatClampNeg) then (fL_X8_outs_L223 L x1 0 S) else (some (S, L)))
def fJ_X8_outs_J182 (k9 : Int32 → Int32 → Tr → Lo → Option (Tr × Lo)) (x1 : Int32) (x2 : Int32) (x3 : Int32) (S : Tr) (L : Lo) : Option (Tr × Lo) :=
  bd (f_X8_hasAny S x1 x3) fun r24 => if r24 = 0 then (ck (okI (((6 : Int32) * x1) + x3) 12) (lt (st S 59 ((((6 : Int32) * x1) + x3).toNatClampNeg) 2) fun S_30 => lt (x3 + 1) fun y31 => k9 x2 y31 S_30 L)) else (lt (x3 + 1) fun y28 => k9 x2 y28 S L)
def fJ_X8_outs_J117 (k9 : Int32 → Int32 → Tr → Lo → Option (Tr × Lo)) (k32 : Int32 → Int32 → Tr → Lo → Option (Tr × Lo)) (x1 : Int32) (x3 : Int32) (x4 : Int32) (x5 : Int32) (s0 : Int32) (S : Tr) (L : Lo) : Option (Tr × Lo) :=
  if s0 = 0 then (lt (x4 + 1) fun y56 => k32 s0 y56 S L) else (lt (st S 0 72 ((S 0 72) + x5)) fun S_44 => ck (okI (((6 : Int32) * x1) + x3) 12) (lt (st S_44 60 ((((6 : Int32) * x1) + x3).toNatClampNeg) ((S_44 60 (((6 : Int32) * x1) + x3).toNatClampNeg) + x5)) fun S_46 => ck (okI x1 2) (bd (f_X8_aboveOf S_46 x1 x4) fun r48 => lt (st S_46 61 x1.toNatClampNeg ((S_46 61 x1.toNatClampNeg) + r48)) fun S_51 => bd (f_X8_takes S_51 x1 x4 (2 : Int32)) fun S_52 => lt (x4 + 1) fun y55 => k32 s0 y55 S_52 L)))
def fJ_X8_outs_J116 (k9 : Int32 → Int32 → Tr → Lo → Option (Tr × Lo)) (k32 : Int32 → Int32 → Tr → Lo → Option (Tr × Lo)) (x1 : Int32) (x3 : Int32) (x4 : Int32) (x5 : Int32) (S : Tr) (L : Lo) : Option (Tr × Lo) :=
  fJ_X8_outs_J117 k9 k32 x1 x3 x4 x5 0 S L
def fJ_X8_outs_J112 (k9 : Int32 → Int32 → Tr → Lo → Option (Tr × Lo)) (k32 : Int32 → Int32 → Tr → Lo → Option (Tr × Lo)) (x1 : Int32) (x3 : Int32) (x4 : Int32) (x5 : Int32) (S : Tr) (L : Lo) : Option (Tr × Lo) :=
  fJ_X8_outs_J117 k9 k32 x1 x3 x4 x5 1 S L
def fB_X8_outs_L32 (k9 : Int32 → Int32 → Tr → Lo → Option (Tr × Lo)) (x1 : Int32) (x3 : Int32) (k32 : Int32 → Int32 → Tr → Lo → Option (Tr × Lo)) (x2 : Int32) (x4 : Int32) (S : Tr) (L : Lo) : Option (Tr × Lo) :=
  if (S 0 14) ≤ x4 then (fJ_X8_outs_J182 k9 x1 x2 x3 S L) else (ck (okI x4 20) (if (S 30 x4.toNatClampNeg) = x3 then (ck (okI (((10 : Int32) * x1) + x4) 20) (if (S 53 (((10 : Int32) * x1) + x4).toNatClampNeg) = 1 then (bd (f_X8_secondsOf S L x1 x4) fun q => lt q.1 fun r37 => lt q.2.1 fun S_38 => lt q.2.2 fun L_39 => if x2 = 0 then (fJ_X8_outs_J116 k9 k32 x1 x3 x4 r37 S_38 L_39) else (if (S_38 0 70) = 0 then (ck (okI x1 2) (ck (okI (S_38 62 x1.toNatClampNeg) 42) (if (S_38 34 (S_38 62 x1.toNatClampNeg).toNatClampNeg) < ((S_38 0 72) + r37) then (fJ_X8_outs_J116 k9 k32 x1 x3 x4 r37 S_38 L_39) else (fJ_X8_outs_J112 k9 k32 x1 x3 x4 r37 S_38 L_39)))) else (fJ_X8_outs_J112 k9 k32 x1 x3 x4 r37 S_38 L_39))) else (lt (x4 + 1) fun y61 => k32 x2 y61 S L))) else (lt (x4 + 1) fun y34 => k32 x2 y34 S L)))
def fL_X8_outs_L32 (k9 : Int32 → Int32 → Tr → Lo → Option (Tr × Lo)) (x1 : Int32) (x3 : Int32) : Int32 → Int32 → Tr → Lo → Option (Tr × Lo) := lpF (fun _ _ _ _ => none) (fB_X8_outs_L32 k9 x1 x3) 2000
def fB_X8_outs_L9 (x1 : Int32) (k9 : Int32 → Int32 → Tr → Lo → Option (Tr × Lo)) (x2 : Int32) (x3 : Int32) (S : Tr) (L : Lo) : Option (Tr × Lo) :=
  if (S 0 13) ≤ x3 then (fJ_X8_outs_J209  x1 S L) else (bd (f_X8_getsOut S x1 x3) fun r19 => if r19 = 0 then (lt (x3 + 1) fun y62 => k9 x2 y62 S L) else (fL_X8_outs_L32 k9 x1 x3 x2 0 S L))
def fL_X8_outs_L9 (x1 : Int32) : Int32 → Int32 → Tr → Lo → Option (Tr × Lo) := lpF (fun _ _ _ _ => none) (fB_X8_outs_L9 x1) 2000
def f_X8_outs (S : Tr) (L : Lo) (x1 : Int32) : Option (Tr × Lo) :=
  lt (st S 0 72 0) fun S_1 => fL_X8_outs_L9 x1 1 0 S_1 L
def f_X8_doesHold (S : Tr) (x1 : Int32) (x2 : Int32) (x3 : Int32) : Option (Int32) :=
  bd (f_X8_weightIn S x1 x2) fun r1 => ck (okI x3 20) (ck (okI x2 10) (if (S 25 x2.toNatClampNeg) < (r1 + (S 31 x3.toNatClampNeg)) then (some 0) else (some 1)))
def fB_X8_placeFor_L75 (S : Tr) (x1 : Int32) (x2 : Int32) (k75 : Int32 → Int32 → Option (Int32)) (x3 : Int32) (x4 : Int32) : Option (Int32) :=
  if (S 0 12) ≤ x4 then (some x3) else (bd (f_X8_doesHold S x1 x4 x2) fun r6 => if r6 = 0 then (lt (x4 + 1) fun y25 => k75 x3 y25) else (if x3 < 0 then (lt (x4 + 1) fun y11 => k75 x4 y11) else (if (S 0 64) = 2 then (lt (x4 + 1) fun y13 => k75 x4 y13) else (if (S 0 64) = 1 then (bd (f_X8_weightIn S x1 x4) fun r16 => bd (f_X8_weightIn S x1 x3) fun r19 => if r19 ≤ r16 then (lt (x4 + 1) fun y23 => k75 x3 y23) else (lt (x4 + 1) fun y24 => k75 x4 y24)) else (lt (x4 + 1) fun y15 => k75 x3 y15)))))
def fL_X8_placeFor_L75 (S : Tr) (x1 : Int32) (x2 : Int32) : Int32 → Int32 → Option (Int32) := lpF (fun _ _ => none) (fB_X8_placeFor_L75 S x1 x2) 2000
def f_X8_placeFor (S : Tr) (x1 : Int32) (x2 : Int32) : Option (Int32) :=
  ck (okI x2 10) (if (S 72 x2.toNatClampNeg) < 0 then (ck (okI x2 20) (if (S 33 x2.toNatClampNeg) < 0 then (fL_X8_placeFor_L75 S x1 x2 (-1) 0) else (bd (f_X8_doesHold S x1 (S 33 x2.toNatClampNeg) x2) fun r26 => if r26 = 0 then (some (-1)) else (some (S 33 x2.toNatClampNeg))))) else (bd (f_X8_doesHold S x1 (S 72 x2.toNatClampNeg) x2) fun r30 => if r30 = 0 then (some (-1)) else (some (S 72 x2.toNatClampNeg))))
def f_X8_lays (S : Tr) (x1 : Int32) (x2 : Int32) (x3 : Int32) : Option (Tr) :=
  ck (okI (((5 : Int32) * x1) + x2) 10) (ck (okI ((((50 : Int32) * x1) + ((10 : Int32) * x2)) + (S 56 (((5 : Int32) * x1) + x2).toNatClampNeg)) 100) (lt (st S 55 (((((50 : Int32) * x1) + ((10 : Int32) * x2)) + (S 56 (((5 : Int32) * x1) + x2).toNatClampNeg)).toNatClampNeg) x3) fun S_3 => lt (st S_3 56 ((((5 : Int32) * x1) + x2).toNatClampNeg) ((S_3 56 (((5 : Int32) * x1) + x2).toNatClampNeg) + 1)) fun S_4 => ck (okI (((10 : Int32) * x1) + x3) 20) (lt (st S_4 54 ((((10 : Int32) * x1) + x3).toNatClampNeg) x2) fun S_6 => lt (st S_6 53 ((((10 : Int32) * x1) + x3).toNatClampNeg) 1) fun S_7 => some S_7)))
def fJ_X8_ins_J185 (k146 : Int32 → Tr → Option (Tr)) (x1 : Int32) (x2 : Int32) (s0 : Int32) (s1 : Int32) (s2 : Int32) (S : Tr) : Option (Tr) :=
  ck (okI s2 2) (lt (st S 63 s2.toNatClampNeg (s1 + s0)) fun S_7 => lt (x2 + 1) fun y8 => k146 y8 S_7)
def fB_X8_ins_L146 (x1 : Int32) (k146 : Int32 → Tr → Option (Tr)) (x2 : Int32) (S : Tr) : Option (Tr) :=
  if (S 0 12) ≤ x2 then (some S) else (ck (okI x1 2) (ck (okI x2 10) (if (S 24 x2.toNatClampNeg) = 2 then (ck (okI (((5 : Int32) * x1) + x2) 10) (fJ_X8_ins_J185 k146 x1 x2 (S 56 (((5 : Int32) * x1) + x2).toNatClampNeg) (S 63 x1.toNatClampNeg) x1 S)) else (fJ_X8_ins_J185 k146 x1 x2 0 (S 63 x1.toNatClampNeg) x1 S))))
def fL_X8_ins_L146 (x1 : Int32) : Int32 → Tr → Option (Tr) := lpF (fun _ _ => none) (fB_X8_ins_L146 x1) 2000
def fB_X8_ins_L61 (k2 : Int32 → Tr → Option (Tr)) (x1 : Int32) (x2 : Int32) (k61 : Int32 → Tr → Option (Tr)) (x3 : Int32) (S : Tr) : Option (Tr) :=
  if (S 0 14) ≤ x3 then (lt (x2 + 1) fun y17 => k2 y17 S) else (ck (okI x3 20) (if (S 30 x3.toNatClampNeg) = x2 then (ck (okI (((10 : Int32) * x1) + x3) 20) (if (S 53 (((10 : Int32) * x1) + x3).toNatClampNeg) = 0 then (bd (f_X8_placeFor S x1 x3) fun r23 => if 0 ≤ r23 then (bd (f_X8_lays S x1 r23 x3) fun S_27 => lt (x3 + 1) fun y30 => k61 y30 S_27) else (lt (st S 53 ((((10 : Int32) * x1) + x3).toNatClampNeg) 5) fun S_31 => lt (x3 + 1) fun y32 => k61 y32 S_31)) else (lt (x3 + 1) fun y33 => k61 y33 S))) else (lt (x3 + 1) fun y20 => k61 y20 S)))
def fL_X8_ins_L61 (k2 : Int32 → Tr → Option (Tr)) (x1 : Int32) (x2 : Int32) : Int32 → Tr → Option (Tr) := lpF (fun _ _ => none) (fB_X8_ins_L61 k2 x1 x2) 2000
def fB_X8_ins_L2 (x1 : Int32) (k2 : Int32 → Tr → Option (Tr)) (x2 : Int32) (S : Tr) : Option (Tr) :=
  if (S 0 13) ≤ x2 then (fL_X8_ins_L146 x1 0 S) else (ck (okI (((6 : Int32) * x1) + x2) 12) (ck (okI x1 2) (if (S 57 (((6 : Int32) * x1) + x2).toNatClampNeg) = (S 62 x1.toNatClampNeg) then (if (S 59 (((6 : Int32) * x1) + x2).toNatClampNeg) = 0 then (lt (st S 59 ((((6 : Int32) * x1) + x2).toNatClampNeg) 1) fun S_15 => fL_X8_ins_L61 k2 x1 x2 0 S_15) else (lt (x2 + 1) fun y34 => k2 y34 S)) else (lt (x2 + 1) fun y13 => k2 y13 S))))
def fL_X8_ins_L2 (x1 : Int32) : Int32 → Tr → Option (Tr) := lpF (fun _ _ => none) (fB_X8_ins_L2 x1) 2000
def f_X8_ins (S : Tr) (x1 : Int32) : Option (Tr) :=
  fL_X8_ins_L2 x1 0 S
def fJ_X8_fallOf_J58  (s0 : Int32) (s1 : Int32) (S : Tr) (L : Lo) : Option (Int32 × Tr × Lo) :=
  bd (f_X8_boundLaw S L s1 s0 (100 : Int32)) fun q => lt q.1 fun r11 => lt q.2.1 fun S_12 => lt q.2.2 fun L_13 => some (r11, S_12, L_13)
def fJ_X8_fallOf_J17  (x1 : Int32) (x2 : Int32) (s0 : Int32) (S : Tr) (L : Lo) : Option (Int32 × Tr × Lo) :=
  bd (f_X8_belowOf S x1 x2) fun r2 => ck (okI x2 20) (lt ((s0 + ((10 : Int32) * r2)) - (S 31 x2.toNatClampNeg)) fun y6 => bd (f_X8_layNames S L x1 x2 (S 30 x2.toNatClampNeg)) fun L_7 => if 0 ≤ y6 then (fJ_X8_fallOf_J58  y6 1 S L_7) else (fJ_X8_fallOf_J58  0 1 S L_7))
def f_X8_fallOf (S : Tr) (L : Lo) (x1 : Int32) (x2 : Int32) : Option (Int32 × Tr × Lo) :=
  if (S 0 68) = 0 then (fJ_X8_fallOf_J17  x1 x2 (S 23 1) S L) else (fJ_X8_fallOf_J17  x1 x2 0 S L)
def f_X8_number1 (L : Lo) (x1 : Int32) : Option (Int32 × Lo) :=
  lt (stL L 0 63 ((((L 0 63) * 1103515245) + 12345) &&& 2147483647)) fun L_1 => ck (!(x1.toInt64 == 0)) (some (((((L_1 0 63) / 65536) - ((L_1 0 63) / 65536) / x1.toInt64 * x1.toInt64).toInt32), L_1))
def f_X8_isDrawn (S : Tr) (L : Lo) (x1 : Int32) : Option (Int32 × Lo) :=
  if (S 0 65) = 0 then (if x1 < 50 then (some (0, L)) else (some (1, L))) else (bd (f_X8_number1 L (100 : Int32)) fun q => lt q.1 fun r3 => lt q.2 fun L_4 => if x1 ≤ r3 then (some (0, L_4)) else (some (1, L_4)))
def fB_X8_onTheWay_L90 (x1 : Int32) (k90 : Int32 → Tr → Lo → Option (Tr × Lo)) (x2 : Int32) (S : Tr) (L : Lo) : Option (Tr × Lo) :=
  if (S 0 14) ≤ x2 then (some (S, L)) else (if (S 0 67) = 0 then (ck (okI (((10 : Int32) * x1) + x2) 20) (if (S 53 (((10 : Int32) * x1) + x2).toNatClampNeg) = 1 then (ck (okI (S 54 (((10 : Int32) * x1) + x2).toNatClampNeg) 10) (if (S 24 (S 54 (((10 : Int32) * x1) + x2).toNatClampNeg).toNatClampNeg) = 4 then (ck (okI x2 20) (bd (f_X8_layNames S L x1 x2 (S 30 x2.toNatClampNeg)) fun L_10 => bd (f_X8_boundLaw S L_10 (2 : Int32) (10 : Int32) (100 : Int32)) fun q => lt q.1 fun r13 => lt q.2.1 fun S_14 => lt q.2.2 fun L_15 => bd (f_X8_isDrawn S_14 L_15 r13) fun q => lt q.1 fun r18 => lt q.2 fun L_19 => if r18 = 0 then (lt (x2 + 1) fun y23 => k90 y23 S_14 L_19) else (bd (f_X8_takes S_14 x1 x2 (4 : Int32)) fun S_24 => lt (x2 + 1) fun y27 => k90 y27 S_24 L_19))) else (lt (x2 + 1) fun y28 => k90 y28 S L))) else (lt (x2 + 1) fun y6 => k90 y6 S L))) else (some (S, L)))
def fL_X8_onTheWay_L90 (x1 : Int32) : Int32 → Tr → Lo → Option (Tr × Lo) := lpF (fun _ _ _ => none) (fB_X8_onTheWay_L90 x1) 2000
def fB_X8_onTheWay_L2 (x1 : Int32) (k2 : Int32 → Tr → Lo → Option (Tr × Lo)) (x2 : Int32) (S : Tr) (L : Lo) : Option (Tr × Lo) :=
  if (S 0 12) ≤ x2 then (fL_X8_onTheWay_L90 x1 0 S L) else (if (S 0 66) = 0 then (ck (okI x2 10) (if 1 < (S 24 x2.toNatClampNeg) then (lt (x2 + 1) fun y32 => k2 y32 S L) else (ck (okI (((5 : Int32) * x1) + x2) 10) (if (S 56 (((5 : Int32) * x1) + x2).toNatClampNeg) = 0 then (lt (x2 + 1) fun y53 => k2 y53 S L) else (bd (f_X8_stackAt S x1 x2 ((S 56 (((5 : Int32) * x1) + x2).toNatClampNeg) - 1)) fun r35 => bd (f_X8_fallOf S L x1 r35) fun q => lt q.1 fun r38 => lt q.2.1 fun S_39 => lt q.2.2 fun L_40 => bd (f_X8_isDrawn S_39 L_40 r38) fun q => lt q.1 fun r43 => lt q.2 fun L_44 => if r43 = 0 then (lt (x2 + 1) fun y48 => k2 y48 S_39 L_44) else (bd (f_X8_takes S_39 x1 r35 (3 : Int32)) fun S_49 => lt (x2 + 1) fun y52 => k2 y52 S_49 L_44)))))) else (fL_X8_onTheWay_L90 x1 0 S L))
def fL_X8_onTheWay_L2 (x1 : Int32) : Int32 → Tr → Lo → Option (Tr × Lo) := lpF (fun _ _ _ => none) (fB_X8_onTheWay_L2 x1) 2000
def f_X8_onTheWay (S : Tr) (L : Lo) (x1 : Int32) : Option (Tr × Lo) :=
  fL_X8_onTheWay_L2 x1 0 S L
def fJ_X8_goOn_J26  (x1 : Int32) (S : Tr) (L : Lo) : Option (Tr × Lo) :=
  ck (okI x1 2) (lt (st S 62 x1.toNatClampNeg ((S 62 x1.toNatClampNeg) + 1)) fun S_11 => some (S_11, L))
def f_X8_goOn (S : Tr) (L : Lo) (x1 : Int32) : Option (Tr × Lo) :=
  bd (f_X8_outs S L x1) fun q => lt q.1 fun S_1 => lt q.2 fun L_2 => bd (f_X8_ins S_1 x1) fun S_5 => ck (okI x1 2) (if 20 ≤ (S_5 62 x1.toNatClampNeg) then (fJ_X8_goOn_J26  x1 S_5 L_2) else (bd (f_X8_onTheWay S_5 L_2 x1) fun q => lt q.1 fun S_12 => lt q.2 fun L_13 => fJ_X8_goOn_J26  x1 S_12 L_13))
def fB_X8_toEnd_L0  (k0 : Tr → Lo → Option (Tr × Lo)) (S : Tr) (L : Lo) : Option (Tr × Lo) :=
  if 21 ≤ (S 62 1) then (some (S, L)) else (bd (f_X8_goOn S L (1 : Int32)) fun q => lt q.1 fun S_2 => lt q.2 fun L_3 => k0 S_2 L_3)
def fL_X8_toEnd_L0  : Tr → Lo → Option (Tr × Lo) := lpF (fun _ _ => none) (fB_X8_toEnd_L0 ) 2000
def f_X8_toEnd (S : Tr) (L : Lo) : Option (Tr × Lo) :=
  fL_X8_toEnd_L0  S L
def f_X8_more (S : Tr) : Option (Int32) :=
  some ((S 61 1) - (S 61 0))
def f_X8_liftsBy (S : Tr) (L : Lo) (x1 : Int32) : Option (Int32 × Tr × Lo) :=
  bd (f_X8_layTried S) fun S_1 => lt (st S_1 0 64 x1) fun S_4 => bd (f_X8_toEnd S_4 L) fun q => lt q.1 fun S_5 => lt q.2 fun L_6 => bd (f_X8_more S_5) fun r9 => some (r9, S_5, L_6)
def f_X8_isBelow (S : Tr) (x1 : Int32) (x2 : Int32) : Option (Int32) :=
  ck (okI x1 20) (ck (okI (S 30 x1.toNatClampNeg) 12) (lt (S 28 (S 30 x1.toNatClampNeg).toNatClampNeg) fun y3 => ck (okI x2 20) (ck (okI (S 30 x2.toNatClampNeg) 12) (lt (S 28 (S 30 x2.toNatClampNeg).toNatClampNeg) fun y6 => if y6 < y3 then (some 1) else (if y3 = y6 then (if x1 ≤ x2 then (some 0) else (some 1)) else (some 0))))))
def fB_X8_turns_L113 (x1 : Int32) (x2 : Int32) (x3 : Int32) (x4 : Int32) (k113 : Int32 → Tr → Option (Int32 × Tr)) (x5 : Int32) (S : Tr) : Option (Int32 × Tr) :=
  if x3 ≤ x5 then (some (x4, S)) else (ck (okI x5 10) (ck (okI ((((50 : Int32) * x1) + ((10 : Int32) * x2)) + x5) 100) (lt (st S 55 (((((50 : Int32) * x1) + ((10 : Int32) * x2)) + x5).toNatClampNeg) (S 74 x5.toNatClampNeg)) fun S_7 => lt (x5 + 1) fun y8 => k113 y8 S_7)))
def fL_X8_turns_L113 (x1 : Int32) (x2 : Int32) (x3 : Int32) (x4 : Int32) : Int32 → Tr → Option (Int32 × Tr) := lpF (fun _ _ => none) (fB_X8_turns_L113 x1 x2 x3 x4) 2000
def fJ_X8_turns_J78 (k17 : Int32 → Int32 → Tr → Option (Int32 × Tr)) (x1 : Int32) (x2 : Int32) (x3 : Int32) (x4 : Int32) (x5 : Int32) (x6 : Int32) (x7 : Int32) (S : Tr) : Option (Int32 × Tr) :=
  ck (okI x7 10) (lt (st S 74 x7.toNatClampNeg x6) fun S_14 => if x7 = x5 then (lt (x4 + 0) fun y18 => lt (x5 + 1) fun y19 => k17 y18 y19 S_14) else (lt (x4 + 1) fun y16 => lt (x5 + 1) fun y17 => k17 y16 y17 S_14))
def fB_X8_turns_L39 (k17 : Int32 → Int32 → Tr → Option (Int32 × Tr)) (S : Tr) (x1 : Int32) (x2 : Int32) (x3 : Int32) (x4 : Int32) (x5 : Int32) (x6 : Int32) (k39 : Int32 → Int32 → Option (Int32 × Tr)) (x7 : Int32) (x8 : Int32) : Option (Int32 × Tr) :=
  if x3 ≤ x8 then (fJ_X8_turns_J78 k17 x1 x2 x3 x4 x5 x6 x7 S) else (bd (f_X8_stackAt S x1 x2 x8) fun r20 => bd (f_X8_isBelow S r20 x6) fun r23 => if r23 = 0 then (lt (x7 + 0) fun y27 => lt (x8 + 1) fun y28 => k39 y27 y28) else (lt (x7 + 1) fun y29 => lt (x8 + 1) fun y30 => k39 y29 y30))
def fL_X8_turns_L39 (k17 : Int32 → Int32 → Tr → Option (Int32 × Tr)) (S : Tr) (x1 : Int32) (x2 : Int32) (x3 : Int32) (x4 : Int32) (x5 : Int32) (x6 : Int32) : Int32 → Int32 → Option (Int32 × Tr) := lpF (fun _ _ => none) (fB_X8_turns_L39 k17 S x1 x2 x3 x4 x5 x6) 2000
def fB_X8_turns_L17 (x1 : Int32) (x2 : Int32) (x3 : Int32) (k17 : Int32 → Int32 → Tr → Option (Int32 × Tr)) (x4 : Int32) (x5 : Int32) (S : Tr) : Option (Int32 × Tr) :=
  if x3 ≤ x5 then (fL_X8_turns_L113 x1 x2 x3 x4 0 S) else (bd (f_X8_stackAt S x1 x2 x5) fun r9 => fL_X8_turns_L39 k17 S x1 x2 x3 x4 x5 r9 0 0)
def fL_X8_turns_L17 (x1 : Int32) (x2 : Int32) (x3 : Int32) : Int32 → Int32 → Tr → Option (Int32 × Tr) := lpF (fun _ _ _ => none) (fB_X8_turns_L17 x1 x2 x3) 2000
def f_X8_turns (S : Tr) (x1 : Int32) (x2 : Int32) : Option (Int32 × Tr) :=
  ck (okI (((5 : Int32) * x1) + x2) 10) (lt (S 56 (((5 : Int32) * x1) + x2).toNatClampNeg) fun y2 => fL_X8_turns_L17 x1 x2 y2 0 0 S)
def fJ_X8_asking_J76  (x1 : Int32) (S : Tr) (L : Lo) : Option (Int32 × Tr × Lo) :=
  bd (f_X8_more S) fun r11 => if x1 ≤ r11 then (some (0, S, L)) else (bd (f_X8_more S) fun r15 => some ((x1 - r15), S, L))
def fJ_X8_asking_J68 (k20 : Tr → Lo → Option (Int32 × Tr × Lo)) (x1 : Int32) (S : Tr) (L : Lo) : Option (Int32 × Tr × Lo) :=
  bd (f_X8_goOn S L (1 : Int32)) fun q => lt q.1 fun S_19 => lt q.2 fun L_20 => k20 S_19 L_20
def fB_X8_asking_L33 (k20 : Tr → Lo → Option (Int32 × Tr × Lo)) (L : Lo) (x1 : Int32) (k33 : Int32 → Tr → Option (Int32 × Tr × Lo)) (x2 : Int32) (S : Tr) : Option (Int32 × Tr × Lo) :=
  if (S 0 12) ≤ x2 then (fJ_X8_asking_J68 k20 x1 S L) else (ck (okI x2 10) (if 2 ≤ (S 24 x2.toNatClampNeg) then (lt (x2 + 1) fun y25 => k33 y25 S) else (bd (f_X8_turns S (1 : Int32) x2) fun q => lt q.1 fun r26 => lt q.2 fun S_27 => lt (x2 + 1) fun y30 => k33 y30 S_27)))
def fL_X8_asking_L33 (k20 : Tr → Lo → Option (Int32 × Tr × Lo)) (L : Lo) (x1 : Int32) : Int32 → Tr → Option (Int32 × Tr × Lo) := lpF (fun _ _ => none) (fB_X8_asking_L33 k20 L x1) 2000
def fB_X8_asking_L20 (x1 : Int32) (k20 : Tr → Lo → Option (Int32 × Tr × Lo)) (S : Tr) (L : Lo) : Option (Int32 × Tr × Lo) :=
  if 21 ≤ (S 62 1) then (fJ_X8_asking_J76  x1 S L) else (fL_X8_asking_L33 k20 L x1 0 S)
def fL_X8_asking_L20 (x1 : Int32) : Tr → Lo → Option (Int32 × Tr × Lo) := lpF (fun _ _ => none) (fB_X8_asking_L20 x1) 2000
def f_X8_asking (S : Tr) (L : Lo) : Option (Int32 × Tr × Lo) :=
  lt (st S 0 2 0) fun S_1 => bd (f_X8_liftsBy S_1 L (S_1 23 0)) fun q => lt q.1 fun r2 => lt q.2.1 fun S_3 => lt q.2.2 fun L_4 => bd (f_X8_layTried S_3) fun S_7 => fL_X8_asking_L20 r2 S_7 L_4
def fJ_X8_atFirst_J134  (x1 : Int32) (S : Tr) : Option (Tr) :=
  ck (okI x1 2) (lt (st S 61 x1.toNatClampNeg 0) fun S_5 => lt (st S_5 62 x1.toNatClampNeg 0) fun S_6 => lt (st S_6 63 x1.toNatClampNeg 0) fun S_7 => some S_7)
def fB_X8_atFirst_L64 (x1 : Int32) (k64 : Int32 → Tr → Option (Tr)) (x2 : Int32) (S : Tr) : Option (Tr) :=
  if 6 ≤ x2 then (fJ_X8_atFirst_J134  x1 S) else (ck (okI x2 12) (ck (okI (((6 : Int32) * x1) + x2) 12) (lt (st S 57 ((((6 : Int32) * x1) + x2).toNatClampNeg) (S 27 x2.toNatClampNeg)) fun S_10 => lt (st S_10 58 ((((6 : Int32) * x1) + x2).toNatClampNeg) (S_10 29 x2.toNatClampNeg)) fun S_11 => lt (st S_11 59 ((((6 : Int32) * x1) + x2).toNatClampNeg) 0) fun S_12 => lt (st S_12 60 ((((6 : Int32) * x1) + x2).toNatClampNeg) 0) fun S_13 => lt (x2 + 1) fun y14 => k64 y14 S_13)))
def fL_X8_atFirst_L64 (x1 : Int32) : Int32 → Tr → Option (Tr) := lpF (fun _ _ => none) (fB_X8_atFirst_L64 x1) 2000
def fB_X8_atFirst_L40 (x1 : Int32) (k40 : Int32 → Tr → Option (Tr)) (x2 : Int32) (S : Tr) : Option (Tr) :=
  if 5 ≤ x2 then (fL_X8_atFirst_L64 x1 0 S) else (ck (okI (((5 : Int32) * x1) + x2) 10) (lt (st S 56 ((((5 : Int32) * x1) + x2).toNatClampNeg) 0) fun S_16 => lt (x2 + 1) fun y17 => k40 y17 S_16))
def fL_X8_atFirst_L40 (x1 : Int32) : Int32 → Tr → Option (Tr) := lpF (fun _ _ => none) (fB_X8_atFirst_L40 x1) 2000
def fB_X8_atFirst_L2 (x1 : Int32) (k2 : Int32 → Tr → Option (Tr)) (x2 : Int32) (S : Tr) : Option (Tr) :=
  if 10 ≤ x2 then (fL_X8_atFirst_L40 x1 0 S) else (ck (okI (((10 : Int32) * x1) + x2) 20) (lt (st S 53 ((((10 : Int32) * x1) + x2).toNatClampNeg) 0) fun S_19 => lt (st S_19 54 ((((10 : Int32) * x1) + x2).toNatClampNeg) (-1)) fun S_20 => lt (x2 + 1) fun y21 => k2 y21 S_20))
def fL_X8_atFirst_L2 (x1 : Int32) : Int32 → Tr → Option (Tr) := lpF (fun _ _ => none) (fB_X8_atFirst_L2 x1) 2000
def f_X8_atFirst (S : Tr) (x1 : Int32) : Option (Tr) :=
  fL_X8_atFirst_L2 x1 0 S
def fB_X8_take_86_L103  (k103 : Int32 → Tr → Option (Tr)) (x3 : Int32) (S : Tr) : Option (Tr) :=
  if 50 ≤ x3 then (some S) else (ck (okI (x3 / 10) 10) (if (S 56 (x3 / 10).toNatClampNeg) ≤ (x3 - x3 / 10 * 10) then (lt (x3 + 1) fun y8 => k103 y8 S) else (ck (okI x3 100) (ck (okI (S 55 x3.toNatClampNeg) 20) (lt (st S 54 ((S 55 x3.toNatClampNeg).toNatClampNeg) (x3 / 10)) fun S_11 => lt (x3 + 1) fun y12 => k103 y12 S_11)))))
def fL_X8_take_86_L103  : Int32 → Tr → Option (Tr) := lpF (fun _ _ => none) (fB_X8_take_86_L103 ) 2000
def fB_X8_take_86_L82  (k82 : Int32 → Tr → Option (Tr)) (x3 : Int32) (S : Tr) : Option (Tr) :=
  if 10 ≤ x3 then (fL_X8_take_86_L103  0 S) else (ck (okI x3 20) (lt (st S 54 x3.toNatClampNeg (-1)) fun S_14 => lt (x3 + 1) fun y15 => k82 y15 S_14))
def fL_X8_take_86_L82  : Int32 → Tr → Option (Tr) := lpF (fun _ _ => none) (fB_X8_take_86_L82 ) 2000
def fB_X8_take_86_L54 (x2 : Int32) (k54 : Int32 → Tr → Option (Tr)) (x3 : Int32) (S : Tr) : Option (Tr) :=
  if 6 ≤ x3 then (fL_X8_take_86_L82  0 S) else (ck (okI ((x2 + 55) + x3) 61) (ck (okI x3 12) (lt (st S 58 x3.toNatClampNeg (S 86 ((x2 + 55) + x3).toNatClampNeg)) fun S_18 => lt (x3 + 1) fun y19 => k54 y19 S_18)))
def fL_X8_take_86_L54 (x2 : Int32) : Int32 → Tr → Option (Tr) := lpF (fun _ _ => none) (fB_X8_take_86_L54 x2) 2000
def fB_X8_take_86_L27 (x2 : Int32) (k27 : Int32 → Tr → Option (Tr)) (x3 : Int32) (S : Tr) : Option (Tr) :=
  if 5 ≤ x3 then (fL_X8_take_86_L54 x2 0 S) else (ck (okI ((x2 + 50) + x3) 61) (ck (okI x3 10) (lt (st S 56 x3.toNatClampNeg (S 86 ((x2 + 50) + x3).toNatClampNeg)) fun S_22 => lt (x3 + 1) fun y23 => k27 y23 S_22)))
def fL_X8_take_86_L27 (x2 : Int32) : Int32 → Tr → Option (Tr) := lpF (fun _ _ => none) (fB_X8_take_86_L27 x2) 2000
def fB_X8_take_86_L2 (x2 : Int32) (k2 : Int32 → Tr → Option (Tr)) (x3 : Int32) (S : Tr) : Option (Tr) :=
  if 50 ≤ x3 then (fL_X8_take_86_L27 x2 0 S) else (ck (okI (x2 + x3) 61) (ck (okI x3 100) (lt (st S 55 x3.toNatClampNeg (S 86 (x2 + x3).toNatClampNeg)) fun S_26 => lt (x3 + 1) fun y27 => k2 y27 S_26)))
def fL_X8_take_86_L2 (x2 : Int32) : Int32 → Tr → Option (Tr) := lpF (fun _ _ => none) (fB_X8_take_86_L2 x2) 2000
def f_X8_take_86 (S : Tr) (x2 : Int32) : Option (Tr) :=
  fL_X8_take_86_L2 x2 0 S
def fJ_X8_back_J90  (S : Tr) (L : Lo) : Option (Int32 × Tr × Lo) :=
  lt (st S 61 0 (S 0 88)) fun S_8 => lt (st S_8 62 0 (S_8 0 89)) fun S_9 => lt (stL L 0 63 (L 0 90)) fun L_10 => lt (st S_9 0 82 0) fun S_11 => some ((S_11 62 0), S_11, L_10)
def fB_X8_back_L51 (L : Lo) (k51 : Int32 → Tr → Option (Int32 × Tr × Lo)) (x1 : Int32) (S : Tr) : Option (Int32 × Tr × Lo) :=
  if 6 ≤ x1 then (fJ_X8_back_J90  S L) else (ck (okI x1 12) (lt (st S 59 x1.toNatClampNeg (S 88 x1.toNatClampNeg)) fun S_13 => ck (okI ((6 : Int32) + x1) 12) (lt (st S_13 60 x1.toNatClampNeg (S_13 88 ((6 : Int32) + x1).toNatClampNeg)) fun S_15 => lt (x1 + 1) fun y16 => k51 y16 S_15)))
def fL_X8_back_L51 (L : Lo) : Int32 → Tr → Option (Int32 × Tr × Lo) := lpF (fun _ _ => none) (fB_X8_back_L51 L) 2000
def fB_X8_back_L25 (L : Lo) (k25 : Int32 → Tr → Option (Int32 × Tr × Lo)) (x1 : Int32) (S : Tr) : Option (Int32 × Tr × Lo) :=
  if 10 ≤ x1 then (fL_X8_back_L51 L 0 S) else (ck (okI x1 10) (ck (okI x1 20) (lt (st S 53 x1.toNatClampNeg (S 87 x1.toNatClampNeg)) fun S_19 => lt (x1 + 1) fun y20 => k25 y20 S_19)))
def fL_X8_back_L25 (L : Lo) : Int32 → Tr → Option (Int32 × Tr × Lo) := lpF (fun _ _ => none) (fB_X8_back_L25 L) 2000
def f_X8_back (S : Tr) (L : Lo) : Option (Int32 × Tr × Lo) :=
  lt (st S 0 2 0) fun S_1 => if (S_1 0 84) = 0 then (some ((-1), S_1, L)) else (bd (f_X8_take_86 S_1 (0 : Int32)) fun S_3 => fL_X8_back_L25 L 0 S_3)
def f_X8_begin (S : Tr) (L : Lo) : Option (Tr × Lo) :=
  bd (f_X8_atFirst S (0 : Int32)) fun S_1 => lt (stL L 0 63 ((S_1 23 2).toInt64)) fun L_4 => bd (f_X8_plainTried S_1) fun S_5 => lt (st S_5 0 78 0) fun S_8 => lt (st S_8 0 79 (-1)) fun S_9 => lt (st S_9 0 82 0) fun S_10 => lt (st S_10 0 84 0) fun S_11 => some (S_11, L_4)
def fB_X8_bestRule_L9  (k9 : Int32 → Int32 → Tr → Lo → Option (Int32 × Tr × Lo)) (x1 : Int32) (x2 : Int32) (S : Tr) (L : Lo) : Option (Int32 × Tr × Lo) :=
  if 3 ≤ x2 then (some (x1, S, L)) else (bd (f_X8_liftsBy S L x2) fun q => lt q.1 fun r3 => lt q.2.1 fun S_4 => lt q.2.2 fun L_5 => bd (f_X8_liftsBy S_4 L_5 x1) fun q => lt q.1 fun r8 => lt q.2.1 fun S_9 => lt q.2.2 fun L_10 => if r8 ≤ r3 then (lt (x2 + 1) fun y14 => k9 x1 y14 S_9 L_10) else (lt (x2 + 1) fun y15 => k9 x2 y15 S_9 L_10))
def fL_X8_bestRule_L9  : Int32 → Int32 → Tr → Lo → Option (Int32 × Tr × Lo) := lpF (fun _ _ _ _ => none) (fB_X8_bestRule_L9 ) 2000
def f_X8_bestRule (S : Tr) (L : Lo) : Option (Int32 × Tr × Lo) :=
  lt (st S 0 2 0) fun S_1 => fL_X8_bestRule_L9  0 1 S_1 L
def f_X8_rank (x0 : Int32) : Option (Int32) :=
  if x0 < 13 then (if x0 < 11 then (if x0 < 5 then (if x0 = 2 then (some 3) else (if x0 = 3 then (some 2) else (if x0 = 4 then (some 1) else (some 0)))) else (some 4)) else (some 5)) else (some 6)
def f_X8_dropHeld (S : Tr) : Option (Int32 × Tr) :=
  lt (st S 0 44 ((S 0 44) - 1)) fun S_1 => ck (okI (S_1 0 44) 96) (some ((S_1 43 (S_1 0 44).toNatClampNeg), S_1))
def f_X8_grown (S : Tr) (x1 : Int32) (x2 : Int32) (x3 : Int32) : Option (Tr) :=
  ck (okI ((64 : Int32) + (S 0 19)) 128) (lt (st S 39 (((64 : Int32) + (S 0 19)).toNatClampNeg) x1) fun S_2 => ck (okI ((64 : Int32) + (S_2 0 19)) 128) (lt (st S_2 40 (((64 : Int32) + (S_2 0 19)).toNatClampNeg) x2) fun S_4 => ck (okI ((64 : Int32) + (S_4 0 19)) 128) (lt (st S_4 41 (((64 : Int32) + (S_4 0 19)).toNatClampNeg) x3) fun S_6 => ck (okI (S_6 0 44) 96) (lt (st S_6 43 ((S_6 0 44).toNatClampNeg) (S_6 0 19)) fun S_8 => lt (st S_8 0 44 ((S_8 0 44) + 1)) fun S_9 => lt (st S_9 0 19 ((S_9 0 19) + 1)) fun S_10 => some S_10))))
def fJ_X8_bind_J58 (k0 : Tr → Option (Tr)) (x1 : Int32) (x2 : Int32) (s0 : Int32) (S : Tr) : Option (Tr) :=
  bd (f_X8_dropHeld S) fun q => lt q.1 fun r15 => lt q.2 fun S_16 => bd (f_X8_grown S_16 x2 r15 s0) fun S_19 => k0 S_19
def fB_X8_bind_L0 (x1 : Int32) (k0 : Tr → Option (Tr)) (S : Tr) : Option (Tr) :=
  if (S 0 43) ≤ 0 then (some S) else (ck (okI ((S 0 43) - 1) 96) (bd (f_X8_rank (S 42 ((S 0 43) - 1).toNatClampNeg)) fun r3 => if r3 < x1 then (some S) else (lt (st S 0 43 ((S 0 43) - 1)) fun S_7 => ck (okI (S_7 0 43) 96) (lt (S_7 42 (S_7 0 43).toNatClampNeg) fun y9 => if y9 = 2 then (fJ_X8_bind_J58 k0 x1 y9 (-1) S_7) else (bd (f_X8_dropHeld S_7) fun q => lt q.1 fun r11 => lt q.2 fun S_12 => fJ_X8_bind_J58 k0 x1 y9 r11 S_12)))))
def fL_X8_bind_L0 (x1 : Int32) : Tr → Option (Tr) := lpF (fun _ => none) (fB_X8_bind_L0 x1) 2000
def f_X8_bind (S : Tr) (x1 : Int32) : Option (Tr) :=
  fL_X8_bind_L0 x1 S
def f_X8_isIn (x0 : Int32) (x1 : Int32) (x2 : Int32) : Option (Int32) :=
  if x0 < x1 then (some 0) else (if x2 < x0 then (some 0) else (some 1))
def f_X8_byRule (S : Tr) (L : Lo) (x1 : Int32) : Option (Int32 × Tr × Lo) :=
  lt (st S 0 2 0) fun S_1 => bd (f_X8_isIn x1 (0 : Int32) (2 : Int32)) fun r2 => if r2 = 0 then (some ((-1), S_1, L)) else (bd (f_X8_liftsBy S_1 L x1) fun q => lt q.1 fun r6 => lt q.2.1 fun S_7 => lt q.2.2 fun L_8 => some (r6, S_7, L_8))
def fJ_X8_chance_J85  (x3 : Int64) (x5 : Int32) (S : Tr) (L : Lo) : Option (Int32 × Tr × Lo) :=
  lt (st S 0 65 0) fun S_10 => lt (stL L 0 63 x3) fun L_11 => some (x5, S_10, L_11)
def fB_X8_chance_L36 (x2 : Int32) (x3 : Int64) (k36 : Int32 → Int32 → Tr → Lo → Option (Int32 × Tr × Lo)) (x5 : Int32) (x6 : Int32) (S : Tr) (L : Lo) : Option (Int32 × Tr × Lo) :=
  if 10 ≤ x6 then (fJ_X8_chance_J85  x3 x5 S L) else (bd (f_X8_layTried S) fun S_12 => lt (st S_12 0 65 1) fun S_15 => bd (f_X8_toEnd S_15 L) fun q => lt q.1 fun S_16 => lt q.2 fun L_17 => ck (okI ((10 : Int32) + x2) 20) (if (S_16 53 ((10 : Int32) + x2).toNatClampNeg) = 2 then (lt (x5 + 1) fun y24 => lt (x6 + 1) fun y25 => k36 y24 y25 S_16 L_17) else (lt (x5 + 0) fun y22 => lt (x6 + 1) fun y23 => k36 y22 y23 S_16 L_17)))
def fL_X8_chance_L36 (x2 : Int32) (x3 : Int64) : Int32 → Int32 → Tr → Lo → Option (Int32 × Tr × Lo) := lpF (fun _ _ _ _ => none) (fB_X8_chance_L36 x2 x3) 2000
def f_X8_chance (S : Tr) (L : Lo) (x1 : Int32) (x2 : Int32) : Option (Int32 × Tr × Lo) :=
  lt (st S 0 2 0) fun S_1 => if x1 < 0 then (some ((-1), S_1, L)) else (bd (f_X8_isPiece S_1 x2) fun r3 => if r3 = 0 then (some ((-1), S_1, L)) else (lt (L 0 63) fun y7 => lt (stL L 0 63 x1.toInt64) fun L_8 => fL_X8_chance_L36 x2 y7 0 0 S_1 L_8))
def f_X8_costOf (S : Tr) (x1 : Int32) (x2 : Int32) : Option (Int32) :=
  ck (okI x1 20) (ck (okI ((6 : Int32) + (S 30 x1.toNatClampNeg)) 12) (ck (okI (S 30 x1.toNatClampNeg) 12) (if x2 = 0 then (some (((S 60 ((6 : Int32) + (S 30 x1.toNatClampNeg)).toNatClampNeg) - (S 60 (S 30 x1.toNatClampNeg).toNatClampNeg)) + 0)) else (some (((S 60 ((6 : Int32) + (S 30 x1.toNatClampNeg)).toNatClampNeg) - (S 60 (S 30 x1.toNatClampNeg).toNatClampNeg)) + 999)))))
def f_X8_knownBy (S : Tr) : Option (Int32) :=
  if 0 ≤ (S 0 79) then (some (S 0 79)) else (some (S 0 78))
def fB_X8_manyHow_L4 (S : Tr) (x1 : Int32) (k4 : Int32 → Int32 → Option (Int32)) (x2 : Int32) (x3 : Int32) : Option (Int32) :=
  if (S 0 14) ≤ x3 then (some x2) else (ck (okI x3 20) (if (S 53 x3.toNatClampNeg) = x1 then (lt (x2 + 1) fun y6 => lt (x3 + 1) fun y7 => k4 y6 y7) else (lt (x2 + 0) fun y4 => lt (x3 + 1) fun y5 => k4 y4 y5)))
def fL_X8_manyHow_L4 (S : Tr) (x1 : Int32) : Int32 → Int32 → Option (Int32) := lpF (fun _ _ => none) (fB_X8_manyHow_L4 S x1) 2000
def f_X8_manyHow (S : Tr) (x1 : Int32) : Option (Int32) :=
  fL_X8_manyHow_L4 S x1 0 0
def fB_X8_count_L154 (S : Tr) (k154 : Int32 → Int32 → Option (Int32 × Tr)) (x2 : Int32) (x3 : Int32) : Option (Int32 × Tr) :=
  if (S 0 13) ≤ x3 then (some (x2, S)) else (ck (okI x3 12) (if (S 59 x3.toNatClampNeg) = 1 then (lt (x2 + 1) fun y34 => lt (x3 + 1) fun y35 => k154 y34 y35) else (lt (x2 + 0) fun y32 => lt (x3 + 1) fun y33 => k154 y32 y33)))
def fL_X8_count_L154 (S : Tr) : Int32 → Int32 → Option (Int32 × Tr) := lpF (fun _ _ => none) (fB_X8_count_L154 S) 2000
def f_X8_count (S : Tr) (x1 : Int32) : Option (Int32 × Tr) :=
  lt (st S 0 2 0) fun S_1 => if x1 = 0 then (some ((S_1 0 12), S_1)) else (if x1 = 1 then (some ((S_1 0 13), S_1)) else (if x1 = 2 then (some ((S_1 0 14), S_1)) else (if x1 = 3 then (some ((S_1 0 15), S_1)) else (if x1 = 4 then (some ((S_1 62 0), S_1)) else (if x1 = 5 then (some ((S_1 61 0), S_1)) else (if x1 = 6 then (bd (f_X8_manyHow S_1 (1 : Int32)) fun r9 => some (r9, S_1)) else (if x1 = 7 then (bd (f_X8_manyHow S_1 (2 : Int32)) fun r13 => some (r13, S_1)) else (if x1 = 8 then (bd (f_X8_manyHow S_1 (3 : Int32)) fun r17 => some (r17, S_1)) else (if x1 = 9 then (bd (f_X8_manyHow S_1 (4 : Int32)) fun r21 => some (r21, S_1)) else (if x1 = 10 then (bd (f_X8_manyHow S_1 (5 : Int32)) fun r25 => some (r25, S_1)) else (if x1 = 11 then (fL_X8_count_L154 S_1 0 0) else (if x1 = 12 then (some ((S_1 23 0), S_1)) else (if x1 = 13 then (some ((S_1 0 78), S_1)) else (if x1 = 14 then (bd (f_X8_knownBy S_1) fun r39 => some (r39, S_1)) else (if x1 = 15 then (some ((S_1 0 82), S_1)) else (some ((-1), S_1)))))))))))))))))
def f_X8_fails (S : Tr) (x1 : Int32) : Option (Int32 × Tr) :=
  lt (st S 0 2 x1) fun S_1 => some (0, S_1)
def fB_X8_falls_L31 (S : Tr) (L : Lo) (k31 : Int32 → Int32 → Option (Int32 × Tr × Lo)) (x1 : Int32) (x2 : Int32) : Option (Int32 × Tr × Lo) :=
  if (S 0 14) ≤ x2 then (some (x1, S, L)) else (ck (okI ((10 : Int32) + x2) 20) (if (S 53 ((10 : Int32) + x2).toNatClampNeg) = 3 then (ck (okI x2 20) (if (S 53 x2.toNatClampNeg) = 3 then (lt (x1 ||| 0) fun y17 => lt (x2 + 1) fun y18 => k31 y17 y18) else (lt (x1 ||| ((1 : Int32) <<< (x2 &&& 31))) fun y19 => lt (x2 + 1) fun y20 => k31 y19 y20))) else (lt (x1 ||| 0) fun y13 => lt (x2 + 1) fun y14 => k31 y13 y14)))
def fL_X8_falls_L31 (S : Tr) (L : Lo) : Int32 → Int32 → Option (Int32 × Tr × Lo) := lpF (fun _ _ => none) (fB_X8_falls_L31 S L) 2000
def f_X8_falls (S : Tr) (L : Lo) : Option (Int32 × Tr × Lo) :=
  lt (st S 0 2 0) fun S_1 => if (S_1 62 0) < 21 then (bd (f_X8_layTried S_1) fun S_3 => bd (f_X8_goOn S_3 L (1 : Int32)) fun q => lt q.1 fun S_6 => lt q.2 fun L_7 => fL_X8_falls_L31 S_6 L_7 0 0) else (some (0, S_1, L))
def f_X8_fault (S : Tr) (x1 : Int32) : Option (Int32 × Tr) :=
  lt (st S 0 2 0) fun S_1 => if x1 = 0 then (some ((S_1 0 4), S_1)) else (if x1 = 1 then (some ((S_1 0 5), S_1)) else (some ((-1), S_1)))
def fJ_X8_feed_J113  (S : Tr) : Option (Int32 × Tr) :=
  lt (st S 0 1 ((S 0 1) + 20)) fun S_4 => some ((S_4 0 1), S_4)
def fJ_X8_feed_J76 (k23 : Int32 → Tr → Option (Int32 × Tr)) (x1 : Int32) (x2 : Int32) (x3 : Int32) (x4 : Int32) (x5 : Int32) (x6 : Int32) (s0 : Int32) (S : Tr) : Option (Int32 × Tr) :=
  ck (okI ((S 0 1) + x6) 700) (lt (st S 1 (((S 0 1) + x6).toNatClampNeg) ((s0 >>> (((24 : Int32) - ((8 : Int32) * (x6 - x6 / 4 * 4))) &&& 31)) &&& 255)) fun S_10 => lt (x6 + 1) fun y11 => k23 y11 S_10)
def fB_X8_feed_L23 (x1 : Int32) (x2 : Int32) (x3 : Int32) (x4 : Int32) (x5 : Int32) (k23 : Int32 → Tr → Option (Int32 × Tr)) (x6 : Int32) (S : Tr) : Option (Int32 × Tr) :=
  if 20 ≤ x6 then (fJ_X8_feed_J113  S) else (if 4 ≤ x6 then (if 8 ≤ x6 then (if 12 ≤ x6 then (if 16 ≤ x6 then (fJ_X8_feed_J76 k23 x1 x2 x3 x4 x5 x6 x5 S) else (fJ_X8_feed_J76 k23 x1 x2 x3 x4 x5 x6 x4 S)) else (fJ_X8_feed_J76 k23 x1 x2 x3 x4 x5 x6 x3 S)) else (fJ_X8_feed_J76 k23 x1 x2 x3 x4 x5 x6 x2 S)) else (fJ_X8_feed_J76 k23 x1 x2 x3 x4 x5 x6 x1 S))
def fL_X8_feed_L23 (x1 : Int32) (x2 : Int32) (x3 : Int32) (x4 : Int32) (x5 : Int32) : Int32 → Tr → Option (Int32 × Tr) := lpF (fun _ _ => none) (fB_X8_feed_L23 x1 x2 x3 x4 x5) 2000
def f_X8_feed (S : Tr) (x1 : Int32) (x2 : Int32) (x3 : Int32) (x4 : Int32) (x5 : Int32) : Option (Int32 × Tr) :=
  lt (st S 0 2 0) fun S_1 => if ((S_1 0 1) + 20) ≤ 700 then (fL_X8_feed_L23 x1 x2 x3 x4 x5 0 S_1) else (some ((-1), S_1))
def f_X8_feet (S : Tr) (L : Lo) : Option (Int32 × Tr × Lo) :=
  lt (st S 0 2 0) fun S_1 => bd (f_X8_layTried S_1) fun S_2 => bd (f_X8_toEnd S_2 L) fun q => lt q.1 fun S_5 => lt q.2 fun L_6 => some ((S_5 63 1), S_5, L_6)
def fJ_X8_isSo_J91 (k2 : Int32 → Option (Int32)) (S : Tr) (x1 : Int32) (x2 : Int32) (s0 : Int32) (s1 : Int32) : Option (Int32) :=
  if s1 = s0 then (lt (x2 + 1) fun y17 => k2 y17) else (some 0)
def fJ_X8_isSo_J70 (k2 : Int32 → Option (Int32)) (S : Tr) (x1 : Int32) (x2 : Int32) (s0 : Int32) : Option (Int32) :=
  ck (okI (((4 : Int32) * x2) + 3) 96) (if (S 81 (((4 : Int32) * x2) + 3).toNatClampNeg) = 1 then (fJ_X8_isSo_J91 k2 S x1 x2 1 s0) else (fJ_X8_isSo_J91 k2 S x1 x2 0 s0))
def fB_X8_isSo_L2 (S : Tr) (x1 : Int32) (k2 : Int32 → Option (Int32)) (x2 : Int32) : Option (Int32) :=
  bd (f_X8_knownBy S) fun r1 => if r1 ≤ x2 then (some 1) else (ck (okI x2 24) (if (S 82 x2.toNatClampNeg) = 0 then (lt (x2 + 1) fun y7 => k2 y7) else (ck (okI ((4 : Int32) * x2) 96) (if (S 81 ((4 : Int32) * x2).toNatClampNeg) = x1 then (ck (okI (((4 : Int32) * x2) + 1) 96) (ck (okI ((10 : Int32) + (S 81 (((4 : Int32) * x2) + 1).toNatClampNeg)) 20) (ck (okI (((4 : Int32) * x2) + 2) 96) (if (S 54 ((10 : Int32) + (S 81 (((4 : Int32) * x2) + 1).toNatClampNeg)).toNatClampNeg) = (S 81 (((4 : Int32) * x2) + 2).toNatClampNeg) then (fJ_X8_isSo_J70 k2 S x1 x2 1) else (fJ_X8_isSo_J70 k2 S x1 x2 0))))) else (lt (x2 + 1) fun y18 => k2 y18)))))
def fL_X8_isSo_L2 (S : Tr) (x1 : Int32) : Int32 → Option (Int32) := lpF (fun _ => none) (fB_X8_isSo_L2 S x1) 2000
def f_X8_isSo (S : Tr) (x1 : Int32) : Option (Int32) :=
  fL_X8_isSo_L2 S x1 0
def fB_X8_fits_L19  (k19 : Tr → Lo → Option (Int32 × Tr × Lo)) (S : Tr) (L : Lo) : Option (Int32 × Tr × Lo) :=
  if 20 ≤ (S 62 1) then (some (1, S, L)) else (bd (f_X8_outs S L (1 : Int32)) fun q => lt q.1 fun S_10 => lt q.2 fun L_11 => bd (f_X8_ins S_10 (1 : Int32)) fun S_14 => bd (f_X8_isSo S_14 (S_14 62 1)) fun r17 => if r17 = 0 then (some (0, S_14, L_11)) else (bd (f_X8_onTheWay S_14 L_11 (1 : Int32)) fun q => lt q.1 fun S_21 => lt q.2 fun L_22 => lt (st S_21 62 1 ((S_21 62 1) + 1)) fun S_25 => k19 S_25 L_22))
def fL_X8_fits_L19  : Tr → Lo → Option (Int32 × Tr × Lo) := lpF (fun _ _ => none) (fB_X8_fits_L19 ) 2000
def f_X8_fits (S : Tr) (L : Lo) (x1 : Int32) (x2 : Int32) : Option (Int32 × Tr × Lo) :=
  bd (f_X8_atFirst S (1 : Int32)) fun S_1 => bd (f_X8_plainTried S_1) fun S_4 => ck (okI ((6 : Int32) + x1) 12) (lt (st S_4 57 (((6 : Int32) + x1).toNatClampNeg) x2) fun S_8 => fL_X8_fits_L19  S_8 L)
def fJ_X8_go_J75  (s0 : Int32) (S : Tr) (L : Lo) : Option (Int32 × Tr × Lo) :=
  lt (st S 0 82 s0) fun S_14 => some ((S_14 62 0), S_14, L)
def fJ_X8_go_J57  (x1 : Int32) (S : Tr) (L : Lo) : Option (Int32 × Tr × Lo) :=
  lt (st S 0 65 0) fun S_12 => if x1 ≤ 0 then (fJ_X8_go_J75  (S_12 0 82) S_12 L) else (fJ_X8_go_J75  0 S_12 L)
def fB_X8_go_L41 (x1 : Int32) (k41 : Int32 → Tr → Lo → Option (Int32 × Tr × Lo)) (x2 : Int32) (S : Tr) (L : Lo) : Option (Int32 × Tr × Lo) :=
  if x1 ≤ x2 then (fJ_X8_go_J57  x1 S L) else (bd (f_X8_goOn S L (0 : Int32)) fun q => lt q.1 fun S_15 => lt q.2 fun L_16 => lt (x2 + 1) fun y19 => k41 y19 S_15 L_16)
def fL_X8_go_L41 (x1 : Int32) : Int32 → Tr → Lo → Option (Int32 × Tr × Lo) := lpF (fun _ _ _ => none) (fB_X8_go_L41 x1) 2000
def f_X8_go (S : Tr) (L : Lo) (x1 : Int32) : Option (Int32 × Tr × Lo) :=
  lt (st S 0 2 0) fun S_1 => bd (f_X8_isIn x1 (0 : Int32) (21 : Int32)) fun r2 => if r2 = 0 then (some ((-1), S_1, L)) else (if ((S_1 62 0) + x1) ≤ 21 then (bd (f_X8_plainTried S_1) fun S_7 => lt (st S_7 0 65 1) fun S_10 => fL_X8_go_L41 x1 0 S_10 L) else (some ((-1), S_1, L)))
def f_X8_isPerson (S : Tr) (x1 : Int32) : Option (Int32) :=
  if x1 < 0 then (some 0) else (if (S 0 13) ≤ x1 then (some 0) else (some 1))
def fB_X8_got_L95 (x1 : Int32) (k95 : Int32 → Int32 → Tr → Lo → Option (Int32 × Tr × Lo)) (x2 : Int32) (x3 : Int32) (S : Tr) (L : Lo) : Option (Int32 × Tr × Lo) :=
  ck (okI x1 12) (if (S 28 x1.toNatClampNeg) ≤ x3 then (some (x2, S, L)) else (bd (f_X8_fits S L x1 x3) fun q => lt q.1 fun r17 => lt q.2.1 fun S_18 => lt q.2.2 fun L_19 => if r17 = 0 then (lt (x2 ||| 0) fun y23 => lt (x3 + 1) fun y24 => k95 y23 y24 S_18 L_19) else (lt (x2 ||| ((1 : Int32) <<< (x3 &&& 31))) fun y25 => lt (x3 + 1) fun y26 => k95 y25 y26 S_18 L_19)))
def fL_X8_got_L95 (x1 : Int32) : Int32 → Int32 → Tr → Lo → Option (Int32 × Tr × Lo) := lpF (fun _ _ _ _ => none) (fB_X8_got_L95 x1) 2000
def fB_X8_got_L45 (L : Lo) (x1 : Int32) (k45 : Int32 → Tr → Option (Int32 × Tr × Lo)) (x2 : Int32) (S : Tr) : Option (Int32 × Tr × Lo) :=
  if x2 < 0 then (fL_X8_got_L95 x1 0 0 S L) else (ck (okI x2 24) (if (S 82 x2.toNatClampNeg) = 0 then (lt (x2 + (-1)) fun y29 => k45 y29 S) else (ck (okI ((4 : Int32) * x2) 96) (if 0 ≤ (S 81 ((4 : Int32) * x2).toNatClampNeg) then (lt (x2 + (-1)) fun y32 => k45 y32 S) else (ck (okI (((4 : Int32) * x2) + 1) 96) (ck (okI (S 81 (((4 : Int32) * x2) + 1).toNatClampNeg) 24) (lt (st S 82 ((S 81 (((4 : Int32) * x2) + 1).toNatClampNeg).toNatClampNeg) (vp_nar .boolean 0)) fun S_35 => lt (x2 + (-1)) fun y36 => k45 y36 S_35)))))))
def fL_X8_got_L45 (L : Lo) (x1 : Int32) : Int32 → Tr → Option (Int32 × Tr × Lo) := lpF (fun _ _ => none) (fB_X8_got_L45 L x1) 2000
def fJ_X8_got_J38  (x1 : Int32) (S : Tr) (L : Lo) : Option (Int32 × Tr × Lo) :=
  bd (f_X8_knownBy S) fun r10 => lt (r10 - 1) fun y13 => fL_X8_got_L45 L x1 y13 S
def fB_X8_got_L17 (L : Lo) (x1 : Int32) (k17 : Int32 → Tr → Option (Int32 × Tr × Lo)) (x2 : Int32) (S : Tr) : Option (Int32 × Tr × Lo) :=
  bd (f_X8_knownBy S) fun r6 => if r6 ≤ x2 then (fJ_X8_got_J38  x1 S L) else (ck (okI x2 24) (lt (st S 82 x2.toNatClampNeg (vp_nar .boolean 1)) fun S_38 => lt (x2 + 1) fun y39 => k17 y39 S_38))
def fL_X8_got_L17 (L : Lo) (x1 : Int32) : Int32 → Tr → Option (Int32 × Tr × Lo) := lpF (fun _ _ => none) (fB_X8_got_L17 L x1) 2000
def f_X8_got (S : Tr) (L : Lo) (x1 : Int32) : Option (Int32 × Tr × Lo) :=
  lt (st S 0 2 0) fun S_1 => bd (f_X8_isPerson S_1 x1) fun r2 => if r2 = 0 then (some ((-1), S_1, L)) else (fL_X8_got_L17 L x1 0 S_1)
def fB_X8_put_84_L54 (x2 : Int32) (k54 : Int32 → Tr → Option (Tr)) (x3 : Int32) (S : Tr) : Option (Tr) :=
  if 6 ≤ x3 then (some S) else (ck (okI x3 12) (ck (okI ((x2 + 55) + x3) 1220) (lt (st S 84 (((x2 + 55) + x3).toNatClampNeg) (S 58 x3.toNatClampNeg)) fun S_6 => lt (x3 + 1) fun y7 => k54 y7 S_6)))
def fL_X8_put_84_L54 (x2 : Int32) : Int32 → Tr → Option (Tr) := lpF (fun _ _ => none) (fB_X8_put_84_L54 x2) 2000
def fB_X8_put_84_L27 (x2 : Int32) (k27 : Int32 → Tr → Option (Tr)) (x3 : Int32) (S : Tr) : Option (Tr) :=
  if 5 ≤ x3 then (fL_X8_put_84_L54 x2 0 S) else (ck (okI x3 10) (ck (okI ((x2 + 50) + x3) 1220) (lt (st S 84 (((x2 + 50) + x3).toNatClampNeg) (S 56 x3.toNatClampNeg)) fun S_10 => lt (x3 + 1) fun y11 => k27 y11 S_10)))
def fL_X8_put_84_L27 (x2 : Int32) : Int32 → Tr → Option (Tr) := lpF (fun _ _ => none) (fB_X8_put_84_L27 x2) 2000
def fB_X8_put_84_L2 (x2 : Int32) (k2 : Int32 → Tr → Option (Tr)) (x3 : Int32) (S : Tr) : Option (Tr) :=
  if 50 ≤ x3 then (fL_X8_put_84_L27 x2 0 S) else (ck (okI x3 100) (ck (okI (x2 + x3) 1220) (lt (st S 84 ((x2 + x3).toNatClampNeg) (S 55 x3.toNatClampNeg)) fun S_14 => lt (x3 + 1) fun y15 => k2 y15 S_14)))
def fL_X8_put_84_L2 (x2 : Int32) : Int32 → Tr → Option (Tr) := lpF (fun _ _ => none) (fB_X8_put_84_L2 x2) 2000
def f_X8_put_84 (S : Tr) (x2 : Int32) : Option (Tr) :=
  fL_X8_put_84_L2 x2 0 S
def fJ_X8_remember_J49  (S : Tr) : Option (Tr) :=
  bd (f_X8_put_84 S ((61 : Int32) * (S 0 82))) fun S_2 => lt (st S_2 0 82 ((S_2 0 82) + 1)) fun S_5 => some S_5
def fJ_X8_remember_J39  (S : Tr) : Option (Tr) :=
  lt (st S 0 82 ((S 0 82) - 1)) fun S_7 => fJ_X8_remember_J49  S_7
def fB_X8_remember_L11  (k11 : Int32 → Tr → Option (Tr)) (x1 : Int32) (S : Tr) : Option (Tr) :=
  if 1159 ≤ x1 then (fJ_X8_remember_J39  S) else (ck (okI (x1 + 61) 1220) (ck (okI x1 1220) (lt (st S 84 x1.toNatClampNeg (S 84 (x1 + 61).toNatClampNeg)) fun S_10 => lt (x1 + 1) fun y11 => k11 y11 S_10)))
def fL_X8_remember_L11  : Int32 → Tr → Option (Tr) := lpF (fun _ _ => none) (fB_X8_remember_L11 ) 2000
def f_X8_remember (S : Tr) : Option (Tr) :=
  if (S 0 82) = 20 then (fL_X8_remember_L11  0 S) else (fJ_X8_remember_J49  S)
def f_X8_help (S : Tr) (x1 : Int32) (x2 : Int32) : Option (Int32 × Tr) :=
  lt (st S 0 2 0) fun S_1 => bd (f_X8_isPerson S_1 x1) fun r2 => if r2 = 0 then (some (0, S_1)) else (bd (f_X8_isIn x2 (1 : Int32) (99 : Int32)) fun r6 => if r6 = 0 then (some (0, S_1)) else (ck (okI x1 12) (if (S_1 58 x1.toNatClampNeg) = x2 then (some (0, S_1)) else (bd (f_X8_remember S_1) fun S_12 => lt (st S_12 58 x1.toNatClampNeg x2) fun S_15 => some (1, S_15)))))
def f_X8_wrong (S : Tr) (x1 : Int32) : Option (Int32 × Tr) :=
  lt (st S 0 4 x1) fun S_1 => lt (st S_1 0 5 (S_1 0 10)) fun S_2 => some (0, S_2)
def f_X8_isCounted (S : Tr) : Option (Int32 × Tr) :=
  if (S 0 46) = 64 then (bd (f_X8_wrong S (2 : Int32)) fun q => lt q.1 fun r3 => lt q.2 fun S_4 => ck (okB r3) (some (r3, S_4))) else (lt (st S 0 46 ((S 0 46) + 1)) fun S_2 => some (1, S_2))
def f_X8_isDigit (S : Tr) (x1 : Int32) : Option (Int32) :=
  if (S 0 6) ≤ x1 then (some 0) else (ck (okI x1 700) (if (S 1 x1.toNatClampNeg) < 48 then (some 0) else (if 57 < (S 1 x1.toNatClampNeg) then (some 0) else (some 1))))
def f_X8_isKey (S : Tr) (x1 : Int32) : Option (Int32) :=
  if (S 0 8) = 1 then (if (S 0 9) = x1 then (some 1) else (some 0)) else (some 0)
def f_X8_isSmall (S : Tr) (x1 : Int32) : Option (Int32) :=
  if (S 0 6) ≤ x1 then (some 0) else (ck (okI x1 700) (if (S 1 x1.toNatClampNeg) < 97 then (some 0) else (if 122 < (S 1 x1.toNatClampNeg) then (some 0) else (some 1))))
def fJ_X8_wordAt_J104 (k5 : Int32 → Int32 → Option (Int32)) (S : Tr) (x1 : Int32) (x2 : Int32) (x3 : Int32) (x4 : Int32) (x5 : Int32) (x6 : Int32) : Option (Int32) :=
  if x6 = 0 then (lt (x4 + (x5 + 1)) fun y7 => lt (x3 + 1) fun y8 => k5 y8 y7) else (some x3)
def fB_X8_wordAt_L57 (k5 : Int32 → Int32 → Option (Int32)) (S : Tr) (x1 : Int32) (x2 : Int32) (x3 : Int32) (x4 : Int32) (x5 : Int32) (k57 : Int32 → Int32 → Option (Int32)) (x6 : Int32) (x7 : Int32) : Option (Int32) :=
  if x5 ≤ x7 then (fJ_X8_wordAt_J104 k5 S x1 x2 x3 x4 x5 x6) else (if x6 = 0 then (fJ_X8_wordAt_J104 k5 S x1 x2 x3 x4 x5 x6) else (ck (okI (x4 + x7) 153) (ck (okI (x1 + x7) 700) (if (S 4 (x4 + x7).toNatClampNeg) = (S 1 (x1 + x7).toNatClampNeg) then (lt (x7 + 1) fun y14 => k57 1 y14) else (lt (x7 + 1) fun y13 => k57 0 y13)))))
def fL_X8_wordAt_L57 (k5 : Int32 → Int32 → Option (Int32)) (S : Tr) (x1 : Int32) (x2 : Int32) (x3 : Int32) (x4 : Int32) (x5 : Int32) : Int32 → Int32 → Option (Int32) := lpF (fun _ _ => none) (fB_X8_wordAt_L57 k5 S x1 x2 x3 x4 x5) 2000
def fJ_X8_wordAt_J39 (k5 : Int32 → Int32 → Option (Int32)) (S : Tr) (x1 : Int32) (x2 : Int32) (x3 : Int32) (x4 : Int32) (x5 : Int32) : Option (Int32) :=
  if x5 = (x2 - x1) then (fL_X8_wordAt_L57 k5 S x1 x2 x3 x4 x5 1 0) else (fL_X8_wordAt_L57 k5 S x1 x2 x3 x4 x5 0 0)
def fB_X8_wordAt_L18 (k5 : Int32 → Int32 → Option (Int32)) (S : Tr) (x1 : Int32) (x2 : Int32) (x3 : Int32) (x4 : Int32) (k18 : Int32 → Option (Int32)) (x5 : Int32) : Option (Int32) :=
  ck (okI (x4 + x5) 153) (if (S 4 (x4 + x5).toNatClampNeg) = 32 then (fJ_X8_wordAt_J39 k5 S x1 x2 x3 x4 x5) else (lt (x5 + 1) fun y15 => k18 y15))
def fL_X8_wordAt_L18 (k5 : Int32 → Int32 → Option (Int32)) (S : Tr) (x1 : Int32) (x2 : Int32) (x3 : Int32) (x4 : Int32) : Int32 → Option (Int32) := lpF (fun _ => none) (fB_X8_wordAt_L18 k5 S x1 x2 x3 x4) 2000
def fB_X8_wordAt_L5 (S : Tr) (x1 : Int32) (x2 : Int32) (k5 : Int32 → Int32 → Option (Int32)) (x3 : Int32) (x4 : Int32) : Option (Int32) :=
  if 153 ≤ x4 then (some (-1)) else (fL_X8_wordAt_L18 k5 S x1 x2 x3 x4 0)
def fL_X8_wordAt_L5 (S : Tr) (x1 : Int32) (x2 : Int32) : Int32 → Int32 → Option (Int32) := lpF (fun _ _ => none) (fB_X8_wordAt_L5 S x1 x2) 2000
def f_X8_wordAt (S : Tr) (x1 : Int32) (x2 : Int32) : Option (Int32) :=
  fL_X8_wordAt_L5 S x1 x2 0 0
def fB_X8_packed_L5 (S : Tr) (x1 : Int32) (x2 : Int32) (k5 : Int32 → Int32 → Option (Int32)) (x3 : Int32) (x4 : Int32) : Option (Int32) :=
  if (x1 + 6) ≤ x4 then (some x3) else (if x2 ≤ x4 then (lt ((x3 <<< (5 &&& 31)) ||| 0) fun y3 => lt (x4 + 1) fun y4 => k5 y3 y4) else (ck (okI x4 700) (lt ((x3 <<< (5 &&& 31)) ||| ((S 1 x4.toNatClampNeg) - 96)) fun y6 => lt (x4 + 1) fun y7 => k5 y6 y7)))
def fL_X8_packed_L5 (S : Tr) (x1 : Int32) (x2 : Int32) : Int32 → Int32 → Option (Int32) := lpF (fun _ _ => none) (fB_X8_packed_L5 S x1 x2) 2000
def f_X8_packed (S : Tr) (x1 : Int32) (x2 : Int32) : Option (Int32) :=
  fL_X8_packed_L5 S x1 x2 0 x1
def fJ_X8_signToken_J192  (s0 : Int32) (S : Tr) : Option (Tr) :=
  lt (st S 0 9 s0) fun S_14 => some S_14
def fJ_X8_signToken_J135  (x2 : Int32) (x3 : Int32) (S : Tr) : Option (Tr) :=
  lt (st S 0 8 5) fun S_10 => if (S_10 0 9) = 61 then (fJ_X8_signToken_J192  2 S_10) else (if (S_10 0 9) = 60 then (if x2 = 0 then (if x3 = 0 then (fJ_X8_signToken_J192  0 S_10) else (fJ_X8_signToken_J192  3 S_10)) else (fJ_X8_signToken_J192  1 S_10)) else (if x2 = 0 then (fJ_X8_signToken_J192  5 S_10) else (fJ_X8_signToken_J192  4 S_10)))
def fJ_X8_signToken_J125  (x2 : Int32) (x3 : Int32) (S : Tr) : Option (Tr) :=
  lt (st S 0 7 ((S 0 7) + 1)) fun S_9 => fJ_X8_signToken_J135  x2 x3 S_9
def fJ_X8_signToken_J116  (x2 : Int32) (s0 : Int32) (S : Tr) : Option (Tr) :=
  if x2 = 0 then (if s0 = 0 then (fJ_X8_signToken_J135  x2 s0 S) else (fJ_X8_signToken_J125  x2 s0 S)) else (fJ_X8_signToken_J125  x2 s0 S)
def fJ_X8_signToken_J115  (x2 : Int32) (S : Tr) : Option (Tr) :=
  fJ_X8_signToken_J116  x2 0 S
def fJ_X8_signToken_J95  (x1 : Int32) (s0 : Int32) (S : Tr) : Option (Tr) :=
  if (S 0 9) = 60 then (if x1 = 62 then (fJ_X8_signToken_J116  s0 1 S) else (fJ_X8_signToken_J115  s0 S)) else (fJ_X8_signToken_J115  s0 S)
def fJ_X8_signToken_J94  (x1 : Int32) (S : Tr) : Option (Tr) :=
  fJ_X8_signToken_J95  x1 0 S
def fJ_X8_signToken_J74  (s0 : Int32) (S : Tr) : Option (Tr) :=
  if (S 0 9) = 61 then (fJ_X8_signToken_J94  s0 S) else (if s0 = 61 then (fJ_X8_signToken_J95  s0 1 S) else (fJ_X8_signToken_J94  s0 S))
def fJ_X8_signToken_J50  (S : Tr) : Option (Tr) :=
  if (S 0 6) ≤ (S 0 7) then (fJ_X8_signToken_J74  0 S) else (ck (okI (S 0 7) 700) (fJ_X8_signToken_J74  (S 1 (S 0 7).toNatClampNeg) S))
def fJ_X8_signToken_J287  (s0 : Int32) (S : Tr) : Option (Tr) :=
  lt (st S 0 8 s0) fun S_25 => some S_25
def fJ_X8_signToken_J275  (s0 : Int32) (S : Tr) : Option (Tr) :=
  if s0 = 0 then (fJ_X8_signToken_J287  6 S) else (fJ_X8_signToken_J287  4 S)
def fJ_X8_signToken_J270  (S : Tr) : Option (Tr) :=
  fJ_X8_signToken_J275  1 S
def f_X8_signToken (S : Tr) : Option (Tr) :=
  ck (okI (S 0 7) 700) (lt (st S 0 9 (S 1 (S 0 7).toNatClampNeg)) fun S_2 => lt (st S_2 0 7 ((S_2 0 7) + 1)) fun S_3 => if (S_3 0 9) = 60 then (fJ_X8_signToken_J50  S_3) else (if (S_3 0 9) = 62 then (fJ_X8_signToken_J50  S_3) else (if (S_3 0 9) = 61 then (fJ_X8_signToken_J50  S_3) else (if (S_3 0 9) = 59 then (fJ_X8_signToken_J270  S_3) else (if (S_3 0 9) = 40 then (fJ_X8_signToken_J270  S_3) else (if (S_3 0 9) = 41 then (fJ_X8_signToken_J270  S_3) else (if (S_3 0 9) = 43 then (fJ_X8_signToken_J270  S_3) else (if (S_3 0 9) = 45 then (fJ_X8_signToken_J270  S_3) else (if (S_3 0 9) = 42 then (fJ_X8_signToken_J270  S_3) else (if (S_3 0 9) = 47 then (fJ_X8_signToken_J270  S_3) else (if (S_3 0 9) = 37 then (fJ_X8_signToken_J270  S_3) else (fJ_X8_signToken_J275  0 S_3))))))))))))
def fJ_X8_token_J261 (k213 : Tr → Option (Tr)) (s0 : Int32) (S : Tr) : Option (Tr) :=
  lt (st S 0 9 s0) fun S_23 => lt (st S_23 0 7 ((S_23 0 7) + 1)) fun S_24 => k213 S_24
def fB_X8_token_L213  (k213 : Tr → Option (Tr)) (S : Tr) : Option (Tr) :=
  bd (f_X8_isDigit S (S 0 7)) fun r17 => if r17 = 0 then (some S) else (if (S 0 9) ≤ 99999 then (ck (okI (S 0 7) 700) (fJ_X8_token_J261 k213 ((((10 : Int32) * (S 0 9)) + (S 1 (S 0 7).toNatClampNeg)) - 48) S)) else (fJ_X8_token_J261 k213 (S 0 9) S))
def fL_X8_token_L213  : Tr → Option (Tr) := lpF (fun _ => none) (fB_X8_token_L213 ) 2000
def fJ_X8_token_J162  (s0 : Int32) (S : Tr) : Option (Tr) :=
  lt (st S 0 8 s0) fun S_35 => if (S_35 0 8) = 2 then (bd (f_X8_packed S_35 (S_35 0 10) (S_35 0 7)) fun r37 => lt (st S_35 0 9 r37) fun S_40 => some S_40) else (some S_35)
def fJ_X8_token_J114  (S : Tr) : Option (Tr) :=
  bd (f_X8_wordAt S (S 0 10) (S 0 7)) fun r29 => lt (st S 0 9 r29) fun S_32 => if (S_32 0 9) < 0 then (if ((S_32 0 7) - (S_32 0 10)) ≤ 6 then (fJ_X8_token_J162  2 S_32) else (fJ_X8_token_J162  6 S_32)) else (fJ_X8_token_J162  1 S_32)
def fB_X8_token_L90  (k90 : Tr → Option (Tr)) (S : Tr) : Option (Tr) :=
  bd (f_X8_isSmall S (S 0 7)) fun r25 => if r25 = 0 then (fJ_X8_token_J114  S) else (lt (st S 0 7 ((S 0 7) + 1)) fun S_41 => k90 S_41)
def fL_X8_token_L90  : Tr → Option (Tr) := lpF (fun _ => none) (fB_X8_token_L90 ) 2000
def fJ_X8_token_J52  (S : Tr) : Option (Tr) :=
  lt (st S 0 10 (S 0 7)) fun S_2 => if (S_2 0 7) = (S_2 0 6) then (lt (st S_2 0 8 0) fun S_42 => some S_42) else (bd (f_X8_isSmall S_2 (S_2 0 7)) fun r4 => if r4 = 0 then (bd (f_X8_isDigit S_2 (S_2 0 7)) fun r8 => if r8 = 0 then (bd (f_X8_signToken S_2) fun S_12 => some S_12) else (lt (st S_2 0 8 3) fun S_15 => lt (st S_15 0 9 0) fun S_16 => fL_X8_token_L213  S_16)) else (fL_X8_token_L90  S_2))
def fJ_X8_token_J39 (k0 : Tr → Option (Tr)) (S : Tr) : Option (Tr) :=
  lt (st S 0 7 ((S 0 7) + 1)) fun S_45 => k0 S_45
def fB_X8_token_L0  (k0 : Tr → Option (Tr)) (S : Tr) : Option (Tr) :=
  if (S 0 6) ≤ (S 0 7) then (fJ_X8_token_J52  S) else (ck (okI (S 0 7) 700) (if (S 1 (S 0 7).toNatClampNeg) = 10 then (fJ_X8_token_J39 k0 S) else (if (S 1 (S 0 7).toNatClampNeg) = 32 then (fJ_X8_token_J39 k0 S) else (fJ_X8_token_J52  S))))
def fL_X8_token_L0  : Tr → Option (Tr) := lpF (fun _ => none) (fB_X8_token_L0 ) 2000
def f_X8_token (S : Tr) : Option (Tr) :=
  fL_X8_token_L0  S
def f_X8_isOnce (S : Tr) (x1 : Int32) : Option (Int32 × Tr) :=
  ck (okI x1 3) (if (S 22 x1.toNatClampNeg) = 0 then (lt (st S 22 x1.toNatClampNeg (vp_nar .boolean 1)) fun S_3 => bd (f_X8_token S_3) fun S_4 => some (1, S_4)) else (bd (f_X8_wrong S (3 : Int32)) fun q => lt q.1 fun r7 => lt q.2 fun S_8 => ck (okB r7) (some (r7, S_8))))
def f_X8_isPlace (S : Tr) (x1 : Int32) : Option (Int32) :=
  if x1 < 0 then (some 0) else (if (S 0 12) ≤ x1 then (some 0) else (some 1))
def f_X8_isSign (S : Tr) (x1 : Int32) : Option (Int32) :=
  if (S 0 8) = 4 then (if (S 0 9) = x1 then (some 1) else (some 0)) else (some 0)
def fB_X8_put_86_L54 (x2 : Int32) (k54 : Int32 → Tr → Option (Tr)) (x3 : Int32) (S : Tr) : Option (Tr) :=
  if 6 ≤ x3 then (some S) else (ck (okI x3 12) (ck (okI ((x2 + 55) + x3) 61) (lt (st S 86 (((x2 + 55) + x3).toNatClampNeg) (S 58 x3.toNatClampNeg)) fun S_6 => lt (x3 + 1) fun y7 => k54 y7 S_6)))
def fL_X8_put_86_L54 (x2 : Int32) : Int32 → Tr → Option (Tr) := lpF (fun _ _ => none) (fB_X8_put_86_L54 x2) 2000
def fB_X8_put_86_L27 (x2 : Int32) (k27 : Int32 → Tr → Option (Tr)) (x3 : Int32) (S : Tr) : Option (Tr) :=
  if 5 ≤ x3 then (fL_X8_put_86_L54 x2 0 S) else (ck (okI x3 10) (ck (okI ((x2 + 50) + x3) 61) (lt (st S 86 (((x2 + 50) + x3).toNatClampNeg) (S 56 x3.toNatClampNeg)) fun S_10 => lt (x3 + 1) fun y11 => k27 y11 S_10)))
def fL_X8_put_86_L27 (x2 : Int32) : Int32 → Tr → Option (Tr) := lpF (fun _ _ => none) (fB_X8_put_86_L27 x2) 2000
def fB_X8_put_86_L2 (x2 : Int32) (k2 : Int32 → Tr → Option (Tr)) (x3 : Int32) (S : Tr) : Option (Tr) :=
  if 50 ≤ x3 then (fL_X8_put_86_L27 x2 0 S) else (ck (okI x3 100) (ck (okI (x2 + x3) 61) (lt (st S 86 ((x2 + x3).toNatClampNeg) (S 55 x3.toNatClampNeg)) fun S_14 => lt (x3 + 1) fun y15 => k2 y15 S_14)))
def fL_X8_put_86_L2 (x2 : Int32) : Int32 → Tr → Option (Tr) := lpF (fun _ _ => none) (fB_X8_put_86_L2 x2) 2000
def f_X8_put_86 (S : Tr) (x2 : Int32) : Option (Tr) :=
  fL_X8_put_86_L2 x2 0 S
def fJ_X8_keep_J86  (S : Tr) (L : Lo) : Option (Int32 × Tr × Lo) :=
  lt (st S 0 88 (S 61 0)) fun S_8 => lt (st S_8 0 89 (S_8 62 0)) fun S_9 => lt (stL L 0 90 (L 0 63)) fun L_10 => some ((S_9 62 0), S_9, L_10)
def fB_X8_keep_L47 (L : Lo) (k47 : Int32 → Tr → Option (Int32 × Tr × Lo)) (x1 : Int32) (S : Tr) : Option (Int32 × Tr × Lo) :=
  if 6 ≤ x1 then (fJ_X8_keep_J86  S L) else (ck (okI x1 12) (lt (st S 88 x1.toNatClampNeg (S 59 x1.toNatClampNeg)) fun S_12 => ck (okI ((6 : Int32) + x1) 12) (lt (st S_12 88 (((6 : Int32) + x1).toNatClampNeg) (S_12 60 x1.toNatClampNeg)) fun S_14 => lt (x1 + 1) fun y15 => k47 y15 S_14)))
def fL_X8_keep_L47 (L : Lo) : Int32 → Tr → Option (Int32 × Tr × Lo) := lpF (fun _ _ => none) (fB_X8_keep_L47 L) 2000
def fB_X8_keep_L21 (L : Lo) (k21 : Int32 → Tr → Option (Int32 × Tr × Lo)) (x1 : Int32) (S : Tr) : Option (Int32 × Tr × Lo) :=
  if 10 ≤ x1 then (fL_X8_keep_L47 L 0 S) else (ck (okI x1 20) (ck (okI x1 10) (lt (st S 87 x1.toNatClampNeg (S 53 x1.toNatClampNeg)) fun S_18 => lt (x1 + 1) fun y19 => k21 y19 S_18)))
def fL_X8_keep_L21 (L : Lo) : Int32 → Tr → Option (Int32 × Tr × Lo) := lpF (fun _ _ => none) (fB_X8_keep_L21 L) 2000
def f_X8_keep (S : Tr) (L : Lo) : Option (Int32 × Tr × Lo) :=
  lt (st S 0 2 0) fun S_1 => lt (st S_1 0 84 1) fun S_2 => bd (f_X8_put_86 S_2 (0 : Int32)) fun S_3 => fL_X8_keep_L21 L 0 S_3
def fB_X8_copies_23_L2 (x1 : Int32) (k2 : Int32 → Tr → Option (Tr)) (x2 : Int32) (S : Tr) : Option (Tr) :=
  if x1 ≤ x2 then (some S) else (ck (okI (x1 + x2) 6) (ck (okI x2 6) (lt (st S 23 x2.toNatClampNeg (S 23 (x1 + x2).toNatClampNeg)) fun S_4 => lt (x2 + 1) fun y5 => k2 y5 S_4)))
def fL_X8_copies_23_L2 (x1 : Int32) : Int32 → Tr → Option (Tr) := lpF (fun _ _ => none) (fB_X8_copies_23_L2 x1) 2000
def f_X8_copies_23 (S : Tr) (x1 : Int32) : Option (Tr) :=
  fL_X8_copies_23_L2 x1 0 S
def fB_X8_copies_24_L2 (x1 : Int32) (k2 : Int32 → Tr → Option (Tr)) (x2 : Int32) (S : Tr) : Option (Tr) :=
  if x1 ≤ x2 then (some S) else (ck (okI (x1 + x2) 10) (ck (okI x2 10) (lt (st S 24 x2.toNatClampNeg (S 24 (x1 + x2).toNatClampNeg)) fun S_4 => lt (x2 + 1) fun y5 => k2 y5 S_4)))
def fL_X8_copies_24_L2 (x1 : Int32) : Int32 → Tr → Option (Tr) := lpF (fun _ _ => none) (fB_X8_copies_24_L2 x1) 2000
def f_X8_copies_24 (S : Tr) (x1 : Int32) : Option (Tr) :=
  fL_X8_copies_24_L2 x1 0 S
def fB_X8_copies_25_L2 (x1 : Int32) (k2 : Int32 → Tr → Option (Tr)) (x2 : Int32) (S : Tr) : Option (Tr) :=
  if x1 ≤ x2 then (some S) else (ck (okI (x1 + x2) 10) (ck (okI x2 10) (lt (st S 25 x2.toNatClampNeg (S 25 (x1 + x2).toNatClampNeg)) fun S_4 => lt (x2 + 1) fun y5 => k2 y5 S_4)))
def fL_X8_copies_25_L2 (x1 : Int32) : Int32 → Tr → Option (Tr) := lpF (fun _ _ => none) (fB_X8_copies_25_L2 x1) 2000
def f_X8_copies_25 (S : Tr) (x1 : Int32) : Option (Tr) :=
  fL_X8_copies_25_L2 x1 0 S
def fB_X8_copies_26_L2 (x1 : Int32) (k2 : Int32 → Tr → Option (Tr)) (x2 : Int32) (S : Tr) : Option (Tr) :=
  if x1 ≤ x2 then (some S) else (ck (okI (x1 + x2) 12) (ck (okI x2 12) (lt (st S 26 x2.toNatClampNeg (S 26 (x1 + x2).toNatClampNeg)) fun S_4 => lt (x2 + 1) fun y5 => k2 y5 S_4)))
def fL_X8_copies_26_L2 (x1 : Int32) : Int32 → Tr → Option (Tr) := lpF (fun _ _ => none) (fB_X8_copies_26_L2 x1) 2000
def f_X8_copies_26 (S : Tr) (x1 : Int32) : Option (Tr) :=
  fL_X8_copies_26_L2 x1 0 S
def fB_X8_copies_27_L2 (x1 : Int32) (k2 : Int32 → Tr → Option (Tr)) (x2 : Int32) (S : Tr) : Option (Tr) :=
  if x1 ≤ x2 then (some S) else (ck (okI (x1 + x2) 12) (ck (okI x2 12) (lt (st S 27 x2.toNatClampNeg (S 27 (x1 + x2).toNatClampNeg)) fun S_4 => lt (x2 + 1) fun y5 => k2 y5 S_4)))
def fL_X8_copies_27_L2 (x1 : Int32) : Int32 → Tr → Option (Tr) := lpF (fun _ _ => none) (fB_X8_copies_27_L2 x1) 2000
def f_X8_copies_27 (S : Tr) (x1 : Int32) : Option (Tr) :=
  fL_X8_copies_27_L2 x1 0 S
def fB_X8_copies_28_L2 (x1 : Int32) (k2 : Int32 → Tr → Option (Tr)) (x2 : Int32) (S : Tr) : Option (Tr) :=
  if x1 ≤ x2 then (some S) else (ck (okI (x1 + x2) 12) (ck (okI x2 12) (lt (st S 28 x2.toNatClampNeg (S 28 (x1 + x2).toNatClampNeg)) fun S_4 => lt (x2 + 1) fun y5 => k2 y5 S_4)))
def fL_X8_copies_28_L2 (x1 : Int32) : Int32 → Tr → Option (Tr) := lpF (fun _ _ => none) (fB_X8_copies_28_L2 x1) 2000
def f_X8_copies_28 (S : Tr) (x1 : Int32) : Option (Tr) :=
  fL_X8_copies_28_L2 x1 0 S
def fB_X8_copies_29_L2 (x1 : Int32) (k2 : Int32 → Tr → Option (Tr)) (x2 : Int32) (S : Tr) : Option (Tr) :=
  if x1 ≤ x2 then (some S) else (ck (okI (x1 + x2) 12) (ck (okI x2 12) (lt (st S 29 x2.toNatClampNeg (S 29 (x1 + x2).toNatClampNeg)) fun S_4 => lt (x2 + 1) fun y5 => k2 y5 S_4)))
def fL_X8_copies_29_L2 (x1 : Int32) : Int32 → Tr → Option (Tr) := lpF (fun _ _ => none) (fB_X8_copies_29_L2 x1) 2000
def f_X8_copies_29 (S : Tr) (x1 : Int32) : Option (Tr) :=
  fL_X8_copies_29_L2 x1 0 S
def fB_X8_copies_30_L2 (x1 : Int32) (k2 : Int32 → Tr → Option (Tr)) (x2 : Int32) (S : Tr) : Option (Tr) :=
  if x1 ≤ x2 then (some S) else (ck (okI (x1 + x2) 20) (ck (okI x2 20) (lt (st S 30 x2.toNatClampNeg (S 30 (x1 + x2).toNatClampNeg)) fun S_4 => lt (x2 + 1) fun y5 => k2 y5 S_4)))
def fL_X8_copies_30_L2 (x1 : Int32) : Int32 → Tr → Option (Tr) := lpF (fun _ _ => none) (fB_X8_copies_30_L2 x1) 2000
def f_X8_copies_30 (S : Tr) (x1 : Int32) : Option (Tr) :=
  fL_X8_copies_30_L2 x1 0 S
def fB_X8_copies_31_L2 (x1 : Int32) (k2 : Int32 → Tr → Option (Tr)) (x2 : Int32) (S : Tr) : Option (Tr) :=
  if x1 ≤ x2 then (some S) else (ck (okI (x1 + x2) 20) (ck (okI x2 20) (lt (st S 31 x2.toNatClampNeg (S 31 (x1 + x2).toNatClampNeg)) fun S_4 => lt (x2 + 1) fun y5 => k2 y5 S_4)))
def fL_X8_copies_31_L2 (x1 : Int32) : Int32 → Tr → Option (Tr) := lpF (fun _ _ => none) (fB_X8_copies_31_L2 x1) 2000
def f_X8_copies_31 (S : Tr) (x1 : Int32) : Option (Tr) :=
  fL_X8_copies_31_L2 x1 0 S
def fB_X8_copies_32_L2 (x1 : Int32) (k2 : Int32 → Tr → Option (Tr)) (x2 : Int32) (S : Tr) : Option (Tr) :=
  if x1 ≤ x2 then (some S) else (ck (okI (x1 + x2) 20) (ck (okI x2 20) (lt (st S 32 x2.toNatClampNeg (S 32 (x1 + x2).toNatClampNeg)) fun S_4 => lt (x2 + 1) fun y5 => k2 y5 S_4)))
def fL_X8_copies_32_L2 (x1 : Int32) : Int32 → Tr → Option (Tr) := lpF (fun _ _ => none) (fB_X8_copies_32_L2 x1) 2000
def f_X8_copies_32 (S : Tr) (x1 : Int32) : Option (Tr) :=
  fL_X8_copies_32_L2 x1 0 S
def fB_X8_copies_33_L2 (x1 : Int32) (k2 : Int32 → Tr → Option (Tr)) (x2 : Int32) (S : Tr) : Option (Tr) :=
  if x1 ≤ x2 then (some S) else (ck (okI (x1 + x2) 20) (ck (okI x2 20) (lt (st S 33 x2.toNatClampNeg (S 33 (x1 + x2).toNatClampNeg)) fun S_4 => lt (x2 + 1) fun y5 => k2 y5 S_4)))
def fL_X8_copies_33_L2 (x1 : Int32) : Int32 → Tr → Option (Tr) := lpF (fun _ _ => none) (fB_X8_copies_33_L2 x1) 2000
def f_X8_copies_33 (S : Tr) (x1 : Int32) : Option (Tr) :=
  fL_X8_copies_33_L2 x1 0 S
def fB_X8_copies_34_L2 (x1 : Int32) (k2 : Int32 → Tr → Option (Tr)) (x2 : Int32) (S : Tr) : Option (Tr) :=
  if x1 ≤ x2 then (some S) else (ck (okI (x1 + x2) 42) (ck (okI x2 42) (lt (st S 34 x2.toNatClampNeg (S 34 (x1 + x2).toNatClampNeg)) fun S_4 => lt (x2 + 1) fun y5 => k2 y5 S_4)))
def fL_X8_copies_34_L2 (x1 : Int32) : Int32 → Tr → Option (Tr) := lpF (fun _ _ => none) (fB_X8_copies_34_L2 x1) 2000
def f_X8_copies_34 (S : Tr) (x1 : Int32) : Option (Tr) :=
  fL_X8_copies_34_L2 x1 0 S
def fB_X8_copies_37_L2 (x1 : Int32) (k2 : Int32 → Tr → Option (Tr)) (x2 : Int32) (S : Tr) : Option (Tr) :=
  if x1 ≤ x2 then (some S) else (ck (okI (x1 + x2) 6) (ck (okI x2 6) (lt (st S 37 x2.toNatClampNeg (S 37 (x1 + x2).toNatClampNeg)) fun S_4 => lt (x2 + 1) fun y5 => k2 y5 S_4)))
def fL_X8_copies_37_L2 (x1 : Int32) : Int32 → Tr → Option (Tr) := lpF (fun _ _ => none) (fB_X8_copies_37_L2 x1) 2000
def f_X8_copies_37 (S : Tr) (x1 : Int32) : Option (Tr) :=
  fL_X8_copies_37_L2 x1 0 S
def fB_X8_copies_38_L2 (x1 : Int32) (k2 : Int32 → Tr → Option (Tr)) (x2 : Int32) (S : Tr) : Option (Tr) :=
  if x1 ≤ x2 then (some S) else (ck (okI (x1 + x2) 6) (ck (okI x2 6) (lt (st S 38 x2.toNatClampNeg (S 38 (x1 + x2).toNatClampNeg)) fun S_4 => lt (x2 + 1) fun y5 => k2 y5 S_4)))
def fL_X8_copies_38_L2 (x1 : Int32) : Int32 → Tr → Option (Tr) := lpF (fun _ _ => none) (fB_X8_copies_38_L2 x1) 2000
def f_X8_copies_38 (S : Tr) (x1 : Int32) : Option (Tr) :=
  fL_X8_copies_38_L2 x1 0 S
def fB_X8_copies_39_L2 (x1 : Int32) (k2 : Int32 → Tr → Option (Tr)) (x2 : Int32) (S : Tr) : Option (Tr) :=
  if x1 ≤ x2 then (some S) else (ck (okI (x1 + x2) 128) (ck (okI x2 128) (lt (st S 39 x2.toNatClampNeg (S 39 (x1 + x2).toNatClampNeg)) fun S_4 => lt (x2 + 1) fun y5 => k2 y5 S_4)))
def fL_X8_copies_39_L2 (x1 : Int32) : Int32 → Tr → Option (Tr) := lpF (fun _ _ => none) (fB_X8_copies_39_L2 x1) 2000
def f_X8_copies_39 (S : Tr) (x1 : Int32) : Option (Tr) :=
  fL_X8_copies_39_L2 x1 0 S
def fB_X8_copies_40_L2 (x1 : Int32) (k2 : Int32 → Tr → Option (Tr)) (x2 : Int32) (S : Tr) : Option (Tr) :=
  if x1 ≤ x2 then (some S) else (ck (okI (x1 + x2) 128) (ck (okI x2 128) (lt (st S 40 x2.toNatClampNeg (S 40 (x1 + x2).toNatClampNeg)) fun S_4 => lt (x2 + 1) fun y5 => k2 y5 S_4)))
def fL_X8_copies_40_L2 (x1 : Int32) : Int32 → Tr → Option (Tr) := lpF (fun _ _ => none) (fB_X8_copies_40_L2 x1) 2000
def f_X8_copies_40 (S : Tr) (x1 : Int32) : Option (Tr) :=
  fL_X8_copies_40_L2 x1 0 S
def fB_X8_copies_41_L2 (x1 : Int32) (k2 : Int32 → Tr → Option (Tr)) (x2 : Int32) (S : Tr) : Option (Tr) :=
  if x1 ≤ x2 then (some S) else (ck (okI (x1 + x2) 128) (ck (okI x2 128) (lt (st S 41 x2.toNatClampNeg (S 41 (x1 + x2).toNatClampNeg)) fun S_4 => lt (x2 + 1) fun y5 => k2 y5 S_4)))
def fL_X8_copies_41_L2 (x1 : Int32) : Int32 → Tr → Option (Tr) := lpF (fun _ _ => none) (fB_X8_copies_41_L2 x1) 2000
def f_X8_copies_41 (S : Tr) (x1 : Int32) : Option (Tr) :=
  fL_X8_copies_41_L2 x1 0 S
def fJ_X8_keepText_J164  (S : Tr) (L : Lo) : Option (Tr × Lo) :=
  bd (f_X8_copies_37 S (3 : Int32)) fun S_42 => bd (f_X8_copies_38 S_42 (3 : Int32)) fun S_45 => bd (f_X8_copies_39 S_45 (64 : Int32)) fun S_48 => bd (f_X8_copies_40 S_48 (64 : Int32)) fun S_51 => bd (f_X8_copies_41 S_51 (64 : Int32)) fun S_54 => bd (f_X8_begin S_54 L) fun q => lt q.1 fun S_57 => lt q.2 fun L_58 => some (S_57, L_58)
def fB_X8_keepText_L139 (L : Lo) (k139 : Int32 → Tr → Option (Tr × Lo)) (x1 : Int32) (S : Tr) : Option (Tr × Lo) :=
  if 3 ≤ x1 then (fJ_X8_keepText_J164  S L) else (ck (okI ((3 : Int32) + x1) 6) (ck (okI x1 6) (lt (st S 36 x1.toNatClampNeg (vp_nar .boolean (S 36 ((3 : Int32) + x1).toNatClampNeg))) fun S_63 => lt (x1 + 1) fun y64 => k139 y64 S_63)))
def fL_X8_keepText_L139 (L : Lo) : Int32 → Tr → Option (Tr × Lo) := lpF (fun _ _ => none) (fB_X8_keepText_L139 L) 2000
def f_X8_keepText (S : Tr) (L : Lo) : Option (Tr × Lo) :=
  lt (st S 0 12 (S 0 16)) fun S_1 => lt (st S_1 0 13 (S_1 0 17)) fun S_2 => lt (st S_2 0 14 (S_2 0 18)) fun S_3 => lt (st S_3 0 15 (S_3 0 19)) fun S_4 => bd (f_X8_copies_23 S_4 (3 : Int32)) fun S_5 => bd (f_X8_copies_24 S_5 (5 : Int32)) fun S_8 => bd (f_X8_copies_25 S_8 (5 : Int32)) fun S_11 => bd (f_X8_copies_26 S_11 (6 : Int32)) fun S_14 => bd (f_X8_copies_27 S_14 (6 : Int32)) fun S_17 => bd (f_X8_copies_28 S_17 (6 : Int32)) fun S_20 => bd (f_X8_copies_29 S_20 (6 : Int32)) fun S_23 => bd (f_X8_copies_30 S_23 (10 : Int32)) fun S_26 => bd (f_X8_copies_31 S_26 (10 : Int32)) fun S_29 => bd (f_X8_copies_32 S_29 (10 : Int32)) fun S_32 => bd (f_X8_copies_33 S_32 (10 : Int32)) fun S_35 => bd (f_X8_copies_34 S_35 (21 : Int32)) fun S_38 => fL_X8_keepText_L139 L 0 S_38
def f_X8_known (S : Tr) (x1 : Int32) : Option (Int32 × Tr) :=
  lt (st S 0 2 0) fun S_1 => bd (f_X8_isIn x1 (-1 : Int32) (S_1 0 78)) fun r2 => if r2 = 0 then (some (0, S_1)) else (lt (st S_1 0 79 x1) fun S_6 => some (1, S_6))
def f_X8_law (S : Tr) (L : Lo) (x1 : Int32) (x2 : Int32) : Option (Int64 × Tr × Lo) :=
  lt (st S 0 2 0) fun S_1 => bd (f_X8_isIn x1 (0 : Int32) (2 : Int32)) fun r2 => if r2 = 0 then (some ((-9223372036854775808), S_1, L)) else (ck (okI x1 6) (if (S_1 36 x1.toNatClampNeg) = 0 then (some ((-9223372036854775808), S_1, L)) else (bd (f_X8_isPiece S_1 x2) fun r8 => if r8 = 0 then (some ((-9223372036854775808), S_1, L)) else (ck (okI x2 20) (if (S_1 53 x2.toNatClampNeg) = 1 then (bd (f_X8_plainTried S_1) fun S_14 => bd (f_X8_layNames S_14 L (0 : Int32) x2 (S_14 30 x2.toNatClampNeg)) fun L_17 => bd (f_X8_lawOf S_14 L_17 x1) fun q => lt q.1 fun r20 => lt q.2.1 fun S_21 => lt q.2.2 fun L_22 => if (S_21 0 51) = 0 then (some (r20, S_21, L_22)) else (some ((-9223372036854775808), S_21, L_22))) else (some ((-9223372036854775808), S_1, L)))))))
def f_X8_waitsFor (S : Tr) (x1 : Int32) : Option (Tr) :=
  ck (okI (S 0 43) 96) (lt (st S 42 ((S 0 43).toNatClampNeg) x1) fun S_2 => lt (st S_2 0 43 ((S_2 0 43) + 1)) fun S_3 => some S_3)
def f_X8_nameMet (S : Tr) : Option (Int32) :=
  if (S 0 8) = 1 then (if (S 0 9) < 22 then (some (-1)) else (some ((S 0 9) - 22))) else (some (-1))
def fJ_X8_leafRead_J160  (s0 : Int32) (s1 : Int32) (S : Tr) : Option (Int32 × Tr) :=
  bd (f_X8_grown S s1 s0 (0 : Int32)) fun S_21 => lt (st S_21 0 47 0) fun S_24 => bd (f_X8_token S_24) fun S_25 => some (1, S_25)
def fJ_X8_leafRead_J148  (x1 : Int32) (s0 : Int32) (S : Tr) : Option (Int32 × Tr) :=
  if x1 < 0 then (fJ_X8_leafRead_J160  (S 0 9) s0 S) else (fJ_X8_leafRead_J160  x1 s0 S)
def fJ_X8_leafRead_J129  (x1 : Int32) (S : Tr) : Option (Int32 × Tr) :=
  bd (f_X8_isCounted S) fun q => lt q.1 fun r14 => lt q.2 fun S_15 => if r14 = 0 then (some (0, S_15)) else (if x1 < 0 then (fJ_X8_leafRead_J148  x1 0 S_15) else (fJ_X8_leafRead_J148  x1 1 S_15))
def fJ_X8_leafRead_J109  (x1 : Int32) (S : Tr) : Option (Int32 × Tr) :=
  if 0 ≤ x1 then (fJ_X8_leafRead_J129  x1 S) else (if (S 0 9) ≤ 9999 then (fJ_X8_leafRead_J129  x1 S) else (bd (f_X8_wrong S (2 : Int32)) fun q => lt q.1 fun r29 => lt q.2 fun S_30 => ck (okB r29) (some (r29, S_30))))
def fJ_X8_leafRead_J86  (S : Tr) : Option (Int32 × Tr) :=
  bd (f_X8_nameMet S) fun r9 => if 0 ≤ r9 then (fJ_X8_leafRead_J109  r9 S) else (if (S 0 8) = 3 then (fJ_X8_leafRead_J109  r9 S) else (bd (f_X8_wrong S (1 : Int32)) fun q => lt q.1 fun r35 => lt q.2 fun S_36 => ck (okB r35) (some (r35, S_36))))
def f_X8_leafRead (S : Tr) : Option (Int32 × Tr) :=
  bd (f_X8_isSign S (40 : Int32)) fun r1 => if r1 = 0 then (bd (f_X8_isKey S (21 : Int32)) fun r5 => if r5 = 0 then (fJ_X8_leafRead_J86  S) else (if (S 0 48) = 0 then (fJ_X8_leafRead_J86  S) else (bd (f_X8_isCounted S) fun q => lt q.1 fun r41 => lt q.2 fun S_42 => if r41 = 0 then (some (0, S_42)) else (bd (f_X8_waitsFor S_42 (2 : Int32)) fun S_46 => bd (f_X8_token S_46) fun S_49 => some (1, S_49))))) else (if (S 0 45) = 8 then (bd (f_X8_wrong S (2 : Int32)) fun q => lt q.1 fun r61 => lt q.2 fun S_62 => ck (okB r61) (some (r61, S_62))) else (lt (st S 0 45 ((S 0 45) + 1)) fun S_53 => bd (f_X8_waitsFor S_53 (0 : Int32)) fun S_54 => lt (st S_54 0 48 1) fun S_57 => bd (f_X8_token S_57) fun S_58 => some (1, S_58)))
def fB_X8_powerOf_L4 (x0 : Int32) (x1 : Int32) (k4 : Int32 → Int32 → Option (Int32)) (x2 : Int32) (x3 : Int32) : Option (Int32) :=
  if x1 ≤ x3 then (some x2) else (lt (x2 * x0) fun y2 => lt (x3 + 1) fun y3 => k4 y2 y3)
def fL_X8_powerOf_L4 (x0 : Int32) (x1 : Int32) : Int32 → Int32 → Option (Int32) := lpF (fun _ _ => none) (fB_X8_powerOf_L4 x0 x1) 2000
def f_X8_powerOf (x0 : Int32) (x1 : Int32) : Option (Int32) :=
  fL_X8_powerOf_L4 x0 x1 1 0
def fJ_X8_least_J279  (x1 : Int32) (x2 : Int32) (x3 : Int32) (S : Tr) (L : Lo) : Option (Int32 × Tr × Lo) :=
  if 0 ≤ x3 then (if x1 = 0 then (some (x3, S, L)) else (if x1 ≤ x2 then (ck (okI (x1 - 1) 4) (some ((S 76 (x1 - 1).toNatClampNeg), S, L))) else (some ((-2), S, L)))) else (some ((-3), S, L))
def fB_X8_least_L233 (k79 : Int32 → Int32 → Tr → Lo → Option (Int32 × Tr × Lo)) (L : Lo) (x1 : Int32) (x2 : Int32) (x3 : Int32) (x4 : Int32) (k233 : Int32 → Tr → Option (Int32 × Tr × Lo)) (x6 : Int32) (S : Tr) : Option (Int32 × Tr × Lo) :=
  if x2 ≤ x6 then (lt (x4 + 1) fun y35 => k79 x3 y35 S L) else (bd (f_X8_powerOf (S 0 12) ((x2 - 1) - x6)) fun r36 => ck (!(r36 == 0)) (ck (!((S 0 12) == 0)) (ck (okI x6 4) (lt (st S 76 x6.toNatClampNeg ((x4 / r36) - (x4 / r36) / (S 0 12) * (S 0 12))) fun S_42 => lt (x6 + 1) fun y43 => k233 y43 S_42))))
def fL_X8_least_L233 (k79 : Int32 → Int32 → Tr → Lo → Option (Int32 × Tr × Lo)) (L : Lo) (x1 : Int32) (x2 : Int32) (x3 : Int32) (x4 : Int32) : Int32 → Tr → Option (Int32 × Tr × Lo) := lpF (fun _ _ => none) (fB_X8_least_L233 k79 L x1 x2 x3 x4) 2000
def fJ_X8_least_J225 (k79 : Int32 → Int32 → Tr → Lo → Option (Int32 × Tr × Lo)) (x1 : Int32) (x2 : Int32) (x4 : Int32) (S : Tr) (L : Lo) : Option (Int32 × Tr × Lo) :=
  bd (f_X8_more S) fun r31 => fL_X8_least_L233 k79 L x1 x2 r31 x4 0 S
def fJ_X8_least_J198 (k79 : Int32 → Int32 → Tr → Lo → Option (Int32 × Tr × Lo)) (x1 : Int32) (x2 : Int32) (x3 : Int32) (x4 : Int32) (x5 : Int32) (S : Tr) (L : Lo) : Option (Int32 × Tr × Lo) :=
  if x5 = 0 then (lt (x4 + 1) fun y49 => k79 x3 y49 S L) else (bd (f_X8_toEnd S L) fun q => lt q.1 fun S_26 => lt q.2 fun L_27 => if x3 < 0 then (fJ_X8_least_J225 k79 x1 x2 x4 S_26 L_27) else (bd (f_X8_more S_26) fun r44 => if r44 < x3 then (fJ_X8_least_J225 k79 x1 x2 x4 S_26 L_27) else (lt (x4 + 1) fun y48 => k79 x3 y48 S_26 L_27)))
def fB_X8_least_L155 (k79 : Int32 → Int32 → Tr → Lo → Option (Int32 × Tr × Lo)) (S : Tr) (L : Lo) (x1 : Int32) (x2 : Int32) (x3 : Int32) (x4 : Int32) (k155 : Int32 → Int32 → Option (Int32 × Tr × Lo)) (x5 : Int32) (x6 : Int32) : Option (Int32 × Tr × Lo) :=
  if x2 ≤ x6 then (fJ_X8_least_J198 k79 x1 x2 x3 x4 x5 S L) else (if x5 = 0 then (lt (x6 + 1) fun y51 => k155 0 y51) else (ck (okI x6 4) (ck (okI ((10 : Int32) + (S 75 x6.toNatClampNeg)) 20) (if (S 53 ((10 : Int32) + (S 75 x6.toNatClampNeg)).toNatClampNeg) = 5 then (lt (x6 + 1) fun y55 => k155 0 y55) else (lt (x6 + 1) fun y56 => k155 1 y56)))))
def fL_X8_least_L155 (k79 : Int32 → Int32 → Tr → Lo → Option (Int32 × Tr × Lo)) (S : Tr) (L : Lo) (x1 : Int32) (x2 : Int32) (x3 : Int32) (x4 : Int32) : Int32 → Int32 → Option (Int32 × Tr × Lo) := lpF (fun _ _ => none) (fB_X8_least_L155 k79 S L x1 x2 x3 x4) 2000
def fJ_X8_least_J144 (k79 : Int32 → Int32 → Tr → Lo → Option (Int32 × Tr × Lo)) (x1 : Int32) (x2 : Int32) (x3 : Int32) (x4 : Int32) (S : Tr) (L : Lo) : Option (Int32 × Tr × Lo) :=
  bd (f_X8_goOn S L (1 : Int32)) fun q => lt q.1 fun S_20 => lt q.2 fun L_21 => fL_X8_least_L155 k79 S_20 L_21 x1 x2 x3 x4 1 0
def fB_X8_least_L99 (k79 : Int32 → Int32 → Tr → Lo → Option (Int32 × Tr × Lo)) (L : Lo) (x1 : Int32) (x2 : Int32) (x3 : Int32) (x4 : Int32) (k99 : Int32 → Tr → Option (Int32 × Tr × Lo)) (x5 : Int32) (S : Tr) : Option (Int32 × Tr × Lo) :=
  if x2 ≤ x5 then (fJ_X8_least_J144 k79 x1 x2 x3 x4 S L) else (ck (okI x5 4) (bd (f_X8_powerOf (S 0 12) ((x2 - 1) - x5)) fun r58 => ck (!(r58 == 0)) (ck (!((S 0 12) == 0)) (ck (okI (S 75 x5.toNatClampNeg) 10) (lt (st S 72 ((S 75 x5.toNatClampNeg).toNatClampNeg) ((x4 / r58) - (x4 / r58) / (S 0 12) * (S 0 12))) fun S_64 => lt (x5 + 1) fun y65 => k99 y65 S_64)))))
def fL_X8_least_L99 (k79 : Int32 → Int32 → Tr → Lo → Option (Int32 × Tr × Lo)) (L : Lo) (x1 : Int32) (x2 : Int32) (x3 : Int32) (x4 : Int32) : Int32 → Tr → Option (Int32 × Tr × Lo) := lpF (fun _ _ => none) (fB_X8_least_L99 k79 L x1 x2 x3 x4) 2000
def fB_X8_least_L79 (x1 : Int32) (x2 : Int32) (k79 : Int32 → Int32 → Tr → Lo → Option (Int32 × Tr × Lo)) (x3 : Int32) (x4 : Int32) (S : Tr) (L : Lo) : Option (Int32 × Tr × Lo) :=
  bd (f_X8_powerOf (S 0 12) x2) fun r8 => if r8 ≤ x4 then (fJ_X8_least_J279  x1 x2 x3 S L) else (bd (f_X8_layTried S) fun S_16 => fL_X8_least_L99 k79 L x1 x2 x3 x4 0 S_16)
def fL_X8_least_L79 (x1 : Int32) (x2 : Int32) : Int32 → Int32 → Tr → Lo → Option (Int32 × Tr × Lo) := lpF (fun _ _ _ _ => none) (fB_X8_least_L79 x1 x2) 2000
def fB_X8_least_L31 (L : Lo) (x1 : Int32) (k31 : Int32 → Int32 → Tr → Option (Int32 × Tr × Lo)) (x2 : Int32) (x3 : Int32) (S : Tr) : Option (Int32 × Tr × Lo) :=
  if (S 0 14) ≤ x3 then (fL_X8_least_L79 x1 x2 (-1) 0 S L) else (bd (f_X8_isComing S x3) fun r66 => if r66 = 0 then (lt (x3 + 1) fun y75 => k31 x2 y75 S) else (if x2 = 4 then (some ((-4), S, L)) else (ck (okI x2 4) (lt (st S 75 x2.toNatClampNeg x3) fun S_72 => lt (x2 + 1) fun y73 => lt (x3 + 1) fun y74 => k31 y73 y74 S_72))))
def fL_X8_least_L31 (L : Lo) (x1 : Int32) : Int32 → Int32 → Tr → Option (Int32 × Tr × Lo) := lpF (fun _ _ _ => none) (fB_X8_least_L31 L x1) 2000
def f_X8_least (S : Tr) (L : Lo) (x1 : Int32) : Option (Int32 × Tr × Lo) :=
  lt (st S 0 2 0) fun S_1 => bd (f_X8_isIn x1 (0 : Int32) (4 : Int32)) fun r2 => if r2 = 0 then (some ((-1), S_1, L)) else (if (S_1 62 0) < 21 then (fL_X8_least_L31 L x1 0 0 S_1) else (some ((-1), S_1, L)))
def fJ_X8_signs_J250  (s0 : Int32) (S : Tr) : Option (Int32 × Tr) :=
  ck (okB s0) (lt (st S 0 48 s0) fun S_59 => bd (f_X8_token S_59) fun S_60 => some (1, S_60))
def fJ_X8_signs_J217  (x1 : Int32) (S : Tr) : Option (Int32 × Tr) :=
  bd (f_X8_isCounted S) fun q => lt q.1 fun r45 => lt q.2 fun S_46 => if r45 = 0 then (some (0, S_46)) else (bd (f_X8_waitsFor S_46 x1) fun S_50 => lt (st S_50 0 47 1) fun S_53 => bd (f_X8_rank x1) fun r54 => if 3 ≤ r54 then (fJ_X8_signs_J250  0 S_53) else (fJ_X8_signs_J250  1 S_53))
def fJ_X8_signs_J175  (x1 : Int32) (s0 : Int32) (S : Tr) : Option (Int32 × Tr) :=
  bd (f_X8_bind S s0) fun S_38 => bd (f_X8_rank x1) fun r41 => if r41 = 4 then (if (S_38 0 43) ≤ 0 then (fJ_X8_signs_J217  x1 S_38) else (ck (okI ((S_38 0 43) - 1) 96) (bd (f_X8_rank (S_38 42 ((S_38 0 43) - 1).toNatClampNeg)) fun r65 => if r65 = 4 then (bd (f_X8_wrong S_38 (1 : Int32)) fun q => lt q.1 fun r69 => lt q.2 fun S_70 => ck (okB r69) (some (r69, S_70))) else (fJ_X8_signs_J217  x1 S_38)))) else (fJ_X8_signs_J217  x1 S_38)
def fJ_X8_signs_J147  (s0 : Int32) (S : Tr) : Option (Int32 × Tr) :=
  if s0 = 0 then (bd (f_X8_wrong S (1 : Int32)) fun q => lt q.1 fun r74 => lt q.2 fun S_75 => ck (okB r74) (some (r74, S_75))) else (bd (f_X8_rank s0) fun r31 => if r31 = 4 then (fJ_X8_signs_J175  s0 5 S) else (bd (f_X8_rank s0) fun r35 => fJ_X8_signs_J175  s0 r35 S))
def fJ_X8_signs_J47  (S : Tr) : Option (Int32 × Tr) :=
  bd (f_X8_isKey S (19 : Int32)) fun r5 => if r5 = 0 then (bd (f_X8_isKey S (20 : Int32)) fun r9 => if r9 = 0 then (if (S 0 8) = 5 then (fJ_X8_signs_J147  ((5 : Int32) + (S 0 9)) S) else (bd (f_X8_isSign S (43 : Int32)) fun r14 => if r14 = 0 then (bd (f_X8_isSign S (45 : Int32)) fun r18 => if r18 = 0 then (bd (f_X8_isSign S (42 : Int32)) fun r22 => if r22 = 0 then (bd (f_X8_isSign S (47 : Int32)) fun r26 => if r26 = 0 then (fJ_X8_signs_J147  0 S) else (fJ_X8_signs_J147  14 S)) else (fJ_X8_signs_J147  13 S)) else (fJ_X8_signs_J147  12 S)) else (fJ_X8_signs_J147  11 S))) else (fJ_X8_signs_J147  4 S)) else (fJ_X8_signs_J147  3 S)
def f_X8_signs (S : Tr) : Option (Int32 × Tr) :=
  bd (f_X8_isSign S (41 : Int32)) fun r1 => if r1 = 0 then (fJ_X8_signs_J47  S) else (if (S 0 45) ≤ 0 then (fJ_X8_signs_J47  S) else (bd (f_X8_bind S (1 : Int32)) fun S_80 => lt (st S_80 0 43 ((S_80 0 43) - 1)) fun S_83 => lt (st S_83 0 45 ((S_83 0 45) - 1)) fun S_84 => bd (f_X8_token S_84) fun S_85 => some (1, S_85)))
def fJ_X8_sumRead_J48 (k25 : Tr → Option (Int32 × Tr)) (S : Tr) : Option (Int32 × Tr) :=
  if (S 0 47) = 0 then (bd (f_X8_signs S) fun q => lt q.1 fun r11 => lt q.2 fun S_12 => if r11 = 0 then (some (0, S_12)) else (k25 S_12)) else (bd (f_X8_leafRead S) fun q => lt q.1 fun r16 => lt q.2 fun S_17 => if r16 = 0 then (some (0, S_17)) else (k25 S_17))
def fJ_X8_sumRead_J74  (S : Tr) : Option (Int32 × Tr) :=
  bd (f_X8_bind S (1 : Int32)) fun S_23 => some (1, S_23)
def fB_X8_sumRead_L25  (k25 : Tr → Option (Int32 × Tr)) (S : Tr) : Option (Int32 × Tr) :=
  bd (f_X8_isSign S (59 : Int32)) fun r6 => if r6 = 0 then (fJ_X8_sumRead_J48 k25 S) else (if (S 0 47) = 0 then (if (S 0 45) ≤ 0 then (fJ_X8_sumRead_J74  S) else (fJ_X8_sumRead_J48 k25 S)) else (fJ_X8_sumRead_J48 k25 S))
def fL_X8_sumRead_L25  : Tr → Option (Int32 × Tr) := lpF (fun _ => none) (fB_X8_sumRead_L25 ) 2000
def f_X8_sumRead (S : Tr) : Option (Int32 × Tr) :=
  lt (st S 0 43 0) fun S_1 => lt (st S_1 0 44 0) fun S_2 => lt (st S_2 0 45 0) fun S_3 => lt (st S_3 0 47 1) fun S_4 => lt (st S_4 0 48 1) fun S_5 => fL_X8_sumRead_L25  S_5
def f_X8_number (S : Tr) (x1 : Int32) (x2 : Int32) : Option (Int32 × Tr) :=
  if (S 0 8) = 3 then (bd (f_X8_isIn (S 0 9) x1 x2) fun r2 => if r2 = 0 then (bd (f_X8_wrong S (2 : Int32)) fun q => lt q.1 fun r10 => lt q.2 fun S_11 => ck (okB r10) (some (r10, S_11))) else (lt (st S 0 11 (S 0 9)) fun S_6 => bd (f_X8_token S_6) fun S_7 => some (1, S_7))) else (bd (f_X8_wrong S (1 : Int32)) fun q => lt q.1 fun r15 => lt q.2 fun S_16 => ck (okB r15) (some (r15, S_16)))
def f_X8_waitLine (S : Tr) : Option (Int32 × Tr) :=
  if (S 0 20) = 10 then (bd (f_X8_wrong S (2 : Int32)) fun q => lt q.1 fun r29 => lt q.2 fun S_30 => ck (okB r29) (some (r29, S_30))) else (bd (f_X8_token S) fun S_2 => lt (S_2 0 10) fun y5 => bd (f_X8_number S_2 (0 : Int32) (19 : Int32)) fun q => lt q.1 fun r6 => lt q.2 fun S_7 => if r6 = 0 then (some (0, S_7)) else (lt (S_7 0 11) fun y11 => ck (okI y11 21) (if (S_7 35 y11.toNatClampNeg) = 0 then (lt (st S_7 35 y11.toNatClampNeg (vp_nar .boolean 1)) fun S_14 => bd (f_X8_number S_14 (0 : Int32) (999 : Int32)) fun q => lt q.1 fun r15 => lt q.2 fun S_16 => if r15 = 0 then (some (0, S_16)) else (ck (okI ((21 : Int32) + y11) 42) (lt (st S_16 34 (((21 : Int32) + y11).toNatClampNeg) (S_16 0 11)) fun S_21 => lt (st S_21 0 20 ((S_21 0 20) + 1)) fun S_22 => some (1, S_22)))) else (lt (st S_7 0 10 y5) fun S_23 => bd (f_X8_wrong S_23 (3 : Int32)) fun q => lt q.1 fun r24 => lt q.2 fun S_25 => ck (okB r24) (some (r24, S_25))))))
def fB_X8_find_26_L3 (S : Tr) (x1 : Int32) (x2 : Int32) (x3 : Int32) (k3 : Int32 → Option (Int32)) (x4 : Int32) : Option (Int32) :=
  if x2 ≤ x4 then (some (-1)) else (ck (okI (x1 + x4) 12) (if (S 26 (x1 + x4).toNatClampNeg) = x3 then (some x4) else (lt (x4 + 1) fun y4 => k3 y4)))
def fL_X8_find_26_L3 (S : Tr) (x1 : Int32) (x2 : Int32) (x3 : Int32) : Int32 → Option (Int32) := lpF (fun _ => none) (fB_X8_find_26_L3 S x1 x2 x3) 2000
def f_X8_find_26 (S : Tr) (x1 : Int32) (x2 : Int32) (x3 : Int32) : Option (Int32) :=
  fL_X8_find_26_L3 S x1 x2 x3 0
def fJ_X8_pieceLine_J170  (S : Tr) : Option (Int32 × Tr) :=
  lt (st S 0 18 ((S 0 18) + 1)) fun S_30 => some (1, S_30)
def f_X8_pieceLine (S : Tr) : Option (Int32 × Tr) :=
  if (S 0 18) = 10 then (bd (f_X8_wrong S (2 : Int32)) fun q => lt q.1 fun r51 => lt q.2 fun S_52 => ck (okB r51) (some (r51, S_52))) else (bd (f_X8_token S) fun S_2 => if (S_2 0 8) = 2 then (bd (f_X8_find_26 S_2 (6 : Int32) (S_2 0 17) (S_2 0 9)) fun r6 => if 0 ≤ r6 then (lt ((10 : Int32) + (S_2 0 18)) fun y10 => ck (okI y10 20) (lt (st S_2 30 y10.toNatClampNeg r6) fun S_12 => bd (f_X8_token S_12) fun S_13 => bd (f_X8_number S_13 (1 : Int32) (99 : Int32)) fun q => lt q.1 fun r16 => lt q.2 fun S_17 => if r16 = 0 then (some (0, S_17)) else (lt (st S_17 31 y10.toNatClampNeg (S_17 0 11)) fun S_21 => bd (f_X8_number S_21 (0 : Int32) (9 : Int32)) fun q => lt q.1 fun r22 => lt q.2 fun S_23 => if r22 = 0 then (some (0, S_23)) else (lt (st S_23 32 y10.toNatClampNeg (S_23 0 11)) fun S_27 => lt (st S_27 33 y10.toNatClampNeg (-1)) fun S_28 => if (S_28 0 8) = 3 then (if (S_28 0 9) < (S_28 0 16) then (lt (st S_28 33 y10.toNatClampNeg (S_28 0 9)) fun S_32 => bd (f_X8_token S_32) fun S_33 => fJ_X8_pieceLine_J170  S_33) else (bd (f_X8_wrong S_28 (4 : Int32)) fun q => lt q.1 fun r36 => lt q.2 fun S_37 => ck (okB r36) (some (r36, S_37)))) else (fJ_X8_pieceLine_J170  S_28))))) else (bd (f_X8_wrong S_2 (4 : Int32)) fun q => lt q.1 fun r41 => lt q.2 fun S_42 => ck (okB r41) (some (r41, S_42)))) else (bd (f_X8_wrong S_2 (1 : Int32)) fun q => lt q.1 fun r46 => lt q.2 fun S_47 => ck (okB r46) (some (r46, S_47))))
def f_X8_personLine (S : Tr) : Option (Int32 × Tr) :=
  if (S 0 17) = 6 then (bd (f_X8_wrong S (2 : Int32)) fun q => lt q.1 fun r45 => lt q.2 fun S_46 => ck (okB r45) (some (r45, S_46))) else (bd (f_X8_token S) fun S_2 => if (S_2 0 8) = 2 then (bd (f_X8_find_26 S_2 (6 : Int32) (S_2 0 17) (S_2 0 9)) fun r6 => if r6 < 0 then (lt ((6 : Int32) + (S_2 0 17)) fun y10 => ck (okI y10 12) (lt (st S_2 26 y10.toNatClampNeg (S_2 0 9)) fun S_12 => bd (f_X8_token S_12) fun S_13 => bd (f_X8_number S_13 (0 : Int32) (19 : Int32)) fun q => lt q.1 fun r16 => lt q.2 fun S_17 => if r16 = 0 then (some (0, S_17)) else (lt (st S_17 27 y10.toNatClampNeg (S_17 0 11)) fun S_21 => bd (f_X8_number S_21 ((S_21 27 y10.toNatClampNeg) + 1) (20 : Int32)) fun q => lt q.1 fun r22 => lt q.2 fun S_23 => if r22 = 0 then (some (0, S_23)) else (lt (st S_23 28 y10.toNatClampNeg (S_23 0 11)) fun S_27 => bd (f_X8_number S_27 (1 : Int32) (99 : Int32)) fun q => lt q.1 fun r28 => lt q.2 fun S_29 => if r28 = 0 then (some (0, S_29)) else (lt (st S_29 29 y10.toNatClampNeg (S_29 0 11)) fun S_33 => lt (st S_33 0 17 ((S_33 0 17) + 1)) fun S_34 => some (1, S_34)))))) else (bd (f_X8_wrong S_2 (3 : Int32)) fun q => lt q.1 fun r35 => lt q.2 fun S_36 => ck (okB r35) (some (r35, S_36)))) else (bd (f_X8_wrong S_2 (1 : Int32)) fun q => lt q.1 fun r40 => lt q.2 fun S_41 => ck (okB r40) (some (r40, S_41))))
def fJ_X8_placeLine_J44  (S : Tr) : Option (Int32 × Tr) :=
  bd (f_X8_wrong S (1 : Int32)) fun q => lt q.1 fun r6 => lt q.2 fun S_7 => ck (okB r6) (some (r6, S_7))
def f_X8_placeLine (S : Tr) : Option (Int32 × Tr) :=
  if (S 0 16) = 5 then (bd (f_X8_wrong S (2 : Int32)) fun q => lt q.1 fun r26 => lt q.2 fun S_27 => ck (okB r26) (some (r26, S_27))) else (bd (f_X8_token S) fun S_2 => if (S_2 0 8) = 1 then (if (S_2 0 9) < 8 then (fJ_X8_placeLine_J44  S_2) else (if (S_2 0 9) ≤ 12 then (ck (okI ((5 : Int32) + (S_2 0 16)) 10) (lt (st S_2 24 (((5 : Int32) + (S_2 0 16)).toNatClampNeg) ((S_2 0 9) - 8)) fun S_14 => bd (f_X8_token S_14) fun S_15 => bd (f_X8_number S_15 (0 : Int32) (999 : Int32)) fun q => lt q.1 fun r18 => lt q.2 fun S_19 => if r18 = 0 then (some (0, S_19)) else (ck (okI ((5 : Int32) + (S_19 0 16)) 10) (lt (st S_19 25 (((5 : Int32) + (S_19 0 16)).toNatClampNeg) (S_19 0 11)) fun S_24 => lt (st S_24 0 16 ((S_24 0 16) + 1)) fun S_25 => some (1, S_25))))) else (fJ_X8_placeLine_J44  S_2))) else (fJ_X8_placeLine_J44  S_2))
def fJ_X8_lineRead_J17  (S : Tr) : Option (Int32 × Tr) :=
  bd (f_X8_wrong S (1 : Int32)) fun q => lt q.1 fun r2 => lt q.2 fun S_3 => ck (okB r2) (some (r2, S_3))
def fJ_X8_lineRead_J343  (x1 : Int32) (S : Tr) : Option (Int32 × Tr) :=
  if x1 = 0 then (some (0, S)) else (bd (f_X8_isSign S (59 : Int32)) fun r15 => if r15 = 0 then (bd (f_X8_wrong S (1 : Int32)) fun q => lt q.1 fun r22 => lt q.2 fun S_23 => ck (okB r22) (some (r22, S_23))) else (bd (f_X8_token S) fun S_19 => some (1, S_19)))
def fJ_X8_lineRead_J136  (S : Tr) : Option (Int32 × Tr) :=
  bd (f_X8_wrong S (1 : Int32)) fun q => lt q.1 fun r49 => lt q.2 fun S_50 => ck (okB r49) (some (r49, S_50))
def fJ_X8_lineRead_J187  (s0 : Int32) (S : Tr) : Option (Int32 × Tr) :=
  if s0 = 0 then (fJ_X8_lineRead_J343  s0 S) else (lt (st S 23 4 (S 0 11)) fun S_67 => fJ_X8_lineRead_J343  s0 S_67)
def fJ_X8_lineRead_J186  (S : Tr) : Option (Int32 × Tr) :=
  fJ_X8_lineRead_J187  0 S
def fJ_X8_lineRead_J228  (s0 : Int32) (S : Tr) : Option (Int32 × Tr) :=
  if s0 = 0 then (fJ_X8_lineRead_J343  s0 S) else (lt (st S 23 5 (S 0 11)) fun S_80 => fJ_X8_lineRead_J343  s0 S_80)
def fJ_X8_lineRead_J227  (S : Tr) : Option (Int32 × Tr) :=
  fJ_X8_lineRead_J228  0 S
def fJ_X8_lineRead_J276  (S : Tr) : Option (Int32 × Tr) :=
  bd (f_X8_wrong S (1 : Int32)) fun q => lt q.1 fun r90 => lt q.2 fun S_91 => ck (okB r90) (some (r90, S_91))
def f_X8_lineRead (S : Tr) : Option (Int32 × Tr) :=
  if (S 0 8) = 1 then (if (S 0 9) ≤ 7 then (lt (S 0 9) fun y8 => if y8 = 0 then (bd (f_X8_placeLine S) fun q => lt q.1 fun r10 => lt q.2 fun S_11 => fJ_X8_lineRead_J343  r10 S_11) else (if y8 = 1 then (bd (f_X8_personLine S) fun q => lt q.1 fun r28 => lt q.2 fun S_29 => fJ_X8_lineRead_J343  r28 S_29) else (if y8 = 2 then (bd (f_X8_pieceLine S) fun q => lt q.1 fun r33 => lt q.2 fun S_34 => fJ_X8_lineRead_J343  r33 S_34) else (if y8 = 3 then (bd (f_X8_waitLine S) fun q => lt q.1 fun r38 => lt q.2 fun S_39 => fJ_X8_lineRead_J343  r38 S_39) else (if y8 = 4 then (bd (f_X8_isOnce S (0 : Int32)) fun q => lt q.1 fun r43 => lt q.2 fun S_44 => if r43 = 0 then (some (0, S_44)) else (if (S_44 0 8) = 1 then (if (S_44 0 9) < 13 then (fJ_X8_lineRead_J136  S_44) else (if (S_44 0 9) ≤ 15 then (lt (st S_44 23 3 ((S_44 0 9) - 13)) fun S_56 => bd (f_X8_token S_56) fun S_57 => fJ_X8_lineRead_J343  1 S_57) else (fJ_X8_lineRead_J136  S_44))) else (fJ_X8_lineRead_J136  S_44))) else (if y8 = 5 then (bd (f_X8_isOnce S (1 : Int32)) fun q => lt q.1 fun r61 => lt q.2 fun S_62 => if r61 = 0 then (fJ_X8_lineRead_J186  S_62) else (bd (f_X8_number S_62 (0 : Int32) (99 : Int32)) fun q => lt q.1 fun r68 => lt q.2 fun S_69 => if r68 = 0 then (fJ_X8_lineRead_J186  S_69) else (fJ_X8_lineRead_J187  1 S_69))) else (if y8 = 6 then (bd (f_X8_isOnce S (2 : Int32)) fun q => lt q.1 fun r74 => lt q.2 fun S_75 => if r74 = 0 then (fJ_X8_lineRead_J227  S_75) else (bd (f_X8_number S_75 (0 : Int32) (99999 : Int32)) fun q => lt q.1 fun r81 => lt q.2 fun S_82 => if r81 = 0 then (fJ_X8_lineRead_J227  S_82) else (fJ_X8_lineRead_J228  1 S_82))) else (bd (f_X8_token S) fun S_86 => if (S_86 0 8) = 1 then (if (S_86 0 9) < 16 then (fJ_X8_lineRead_J276  S_86) else (if (S_86 0 9) ≤ 18 then (lt (((3 : Int32) + (S_86 0 9)) - 16) fun y97 => ck (okI y97 6) (if (S_86 36 y97.toNatClampNeg) = 0 then (lt (st S_86 36 y97.toNatClampNeg (vp_nar .boolean 1)) fun S_100 => bd (f_X8_token S_100) fun S_101 => lt (st S_101 37 y97.toNatClampNeg (S_101 0 19)) fun S_104 => bd (f_X8_sumRead S_104) fun q => lt q.1 fun r105 => lt q.2 fun S_106 => lt (st S_106 38 y97.toNatClampNeg (S_106 0 19)) fun S_109 => fJ_X8_lineRead_J343  r105 S_109) else (bd (f_X8_wrong S_86 (3 : Int32)) fun q => lt q.1 fun r110 => lt q.2 fun S_111 => ck (okB r110) (some (r110, S_111))))) else (fJ_X8_lineRead_J276  S_86))) else (fJ_X8_lineRead_J276  S_86))))))))) else (fJ_X8_lineRead_J17  S)) else (fJ_X8_lineRead_J17  S)
def fJ_X8_mine_J166  (x2 : Int32) (x3 : Int32) (x4 : Int32) (S : Tr) (L : Lo) : Option (Int32 × Tr × Lo) :=
  if (x2 - x2 / 2 * 2) = 0 then (some (x3, S, L)) else (some (x4, S, L))
def fJ_X8_mine_J153 (k53 : Int32 → Int32 → Int32 → Tr → Lo → Option (Int32 × Tr × Lo)) (x1 : Int32) (x2 : Int32) (x5 : Int32) (x6 : Int32) (S : Tr) (L : Lo) : Option (Int32 × Tr × Lo) :=
  lt (x5 + 1) fun y37 => k53 x5 x6 y37 S L
def fJ_X8_mine_J137 (k53 : Int32 → Int32 → Int32 → Tr → Lo → Option (Int32 × Tr × Lo)) (x1 : Int32) (x2 : Int32) (x3 : Int32) (x4 : Int32) (x5 : Int32) (s0 : Int32) (S : Tr) (L : Lo) : Option (Int32 × Tr × Lo) :=
  if x3 < 0 then (fJ_X8_mine_J153 k53 x1 x2 x5 s0 S L) else (if s0 < x4 then (fJ_X8_mine_J153 k53 x1 x2 x5 s0 S L) else (lt (x5 + 1) fun y39 => k53 x3 x4 y39 S L))
def fB_X8_mine_L53 (x1 : Int32) (x2 : Int32) (k53 : Int32 → Int32 → Int32 → Tr → Lo → Option (Int32 × Tr × Lo)) (x3 : Int32) (x4 : Int32) (x5 : Int32) (S : Tr) (L : Lo) : Option (Int32 × Tr × Lo) :=
  if (S 0 12) ≤ x5 then (fJ_X8_mine_J166  x2 x3 x4 S L) else (bd (f_X8_layTried S) fun S_17 => ck (okI x1 10) (lt (st S_17 72 x1.toNatClampNeg x5) fun S_21 => bd (f_X8_goOn S_21 L (1 : Int32)) fun q => lt q.1 fun S_22 => lt q.2 fun L_23 => ck (okI ((10 : Int32) + x1) 20) (if (S_22 53 ((10 : Int32) + x1).toNatClampNeg) = 5 then (lt (x5 + 1) fun y43 => k53 x3 x4 y43 S_22 L_23) else (bd (f_X8_toEnd S_22 L_23) fun q => lt q.1 fun S_28 => lt q.2 fun L_29 => if 2 ≤ x2 then (bd (f_X8_more S_28) fun r33 => fJ_X8_mine_J137 k53 x1 x2 x3 x4 x5 r33 S_28 L_29) else (ck (okI x1 20) (ck (okI ((6 : Int32) + (S_28 30 x1.toNatClampNeg)) 12) (ck (okI (S_28 30 x1.toNatClampNeg) 12) (fJ_X8_mine_J137 k53 x1 x2 x3 x4 x5 ((S_28 60 ((6 : Int32) + (S_28 30 x1.toNatClampNeg)).toNatClampNeg) - (S_28 60 (S_28 30 x1.toNatClampNeg).toNatClampNeg)) S_28 L_29))))))))
def fL_X8_mine_L53 (x1 : Int32) (x2 : Int32) : Int32 → Int32 → Int32 → Tr → Lo → Option (Int32 × Tr × Lo) := lpF (fun _ _ _ _ _ => none) (fB_X8_mine_L53 x1 x2) 2000
def f_X8_mine (S : Tr) (L : Lo) (x1 : Int32) (x2 : Int32) : Option (Int32 × Tr × Lo) :=
  lt (st S 0 2 0) fun S_1 => bd (f_X8_isPiece S_1 x1) fun r2 => if r2 = 0 then (some ((-1), S_1, L)) else (bd (f_X8_isIn x2 (0 : Int32) (3 : Int32)) fun r6 => if r6 = 0 then (some ((-1), S_1, L)) else (if 21 ≤ (S_1 62 0) then (some ((-1), S_1, L)) else (bd (f_X8_isComing S_1 x1) fun r11 => if r11 = 0 then (some ((-1), S_1, L)) else (fL_X8_mine_L53 x1 x2 (-2) (-2) 0 S_1 L))))
def fJ_X8_missed_J163  (x3 : Int32) (S : Tr) (L : Lo) : Option (Int32 × Tr × Lo) :=
  lt (st S 0 70 1) fun S_18 => bd (f_X8_outs S_18 L (1 : Int32)) fun q => lt q.1 fun S_19 => lt q.2 fun L_20 => lt (st S_19 0 70 0) fun S_23 => ck (okI x3 42) (some (((S_23 0 72) - (S_23 34 x3.toNatClampNeg)), S_23, L_20))
def fB_X8_missed_L145 (x3 : Int32) (k145 : Tr → Lo → Option (Int32 × Tr × Lo)) (S : Tr) (L : Lo) : Option (Int32 × Tr × Lo) :=
  if x3 ≤ (S 62 1) then (fJ_X8_missed_J163  x3 S L) else (bd (f_X8_goOn S L (1 : Int32)) fun q => lt q.1 fun S_25 => lt q.2 fun L_26 => k145 S_25 L_26)
def fL_X8_missed_L145 (x3 : Int32) : Tr → Lo → Option (Int32 × Tr × Lo) := lpF (fun _ _ => none) (fB_X8_missed_L145 x3) 2000
def fJ_X8_missed_J124  (x1 : Int32) (x2 : Int32) (S : Tr) (L : Lo) : Option (Int32 × Tr × Lo) :=
  if x2 < 0 then (some (x2, S, L)) else (if x1 = 0 then (some (x2, S, L)) else (ck (okI x2 12) (lt (S 28 x2.toNatClampNeg) fun y13 => bd (f_X8_layTried S) fun S_14 => fL_X8_missed_L145 y13 S_14 L)))
def fJ_X8_missed_J111 (k23 : Int32 → Tr → Lo → Option (Int32 × Tr × Lo)) (x1 : Int32) (x2 : Int32) (S : Tr) (L : Lo) : Option (Int32 × Tr × Lo) :=
  lt (st S 62 1 ((S 62 1) + 1)) fun S_40 => k23 x2 S_40 L
def fJ_X8_missed_J90 (k23 : Int32 → Tr → Lo → Option (Int32 × Tr × Lo)) (x1 : Int32) (x2 : Int32) (S : Tr) (L : Lo) : Option (Int32 × Tr × Lo) :=
  bd (f_X8_ins S (1 : Int32)) fun S_36 => if 20 ≤ (S_36 62 1) then (fJ_X8_missed_J111 k23 x1 x2 S_36 L) else (bd (f_X8_onTheWay S_36 L (1 : Int32)) fun q => lt q.1 fun S_41 => lt q.2 fun L_42 => fJ_X8_missed_J111 k23 x1 x2 S_41 L_42)
def fB_X8_missed_L50 (k23 : Int32 → Tr → Lo → Option (Int32 × Tr × Lo)) (S : Tr) (L : Lo) (x1 : Int32) (k50 : Int32 → Int32 → Option (Int32 × Tr × Lo)) (x2 : Int32) (x3 : Int32) : Option (Int32 × Tr × Lo) :=
  if x3 < 0 then (fJ_X8_missed_J90 k23 x1 x2 S L) else (ck (okI x3 12) (if (S 28 x3.toNatClampNeg) = (S 62 1) then (ck (okI ((6 : Int32) + x3) 12) (if (S 59 ((6 : Int32) + x3).toNatClampNeg) = 1 then (lt (x3 + (-1)) fun y51 => k50 x3 y51) else (lt (x3 + (-1)) fun y50 => k50 x2 y50))) else (lt (x3 + (-1)) fun y47 => k50 x2 y47)))
def fL_X8_missed_L50 (k23 : Int32 → Tr → Lo → Option (Int32 × Tr × Lo)) (S : Tr) (L : Lo) (x1 : Int32) : Int32 → Int32 → Option (Int32 × Tr × Lo) := lpF (fun _ _ => none) (fB_X8_missed_L50 k23 S L x1) 2000
def fB_X8_missed_L23 (x1 : Int32) (k23 : Int32 → Tr → Lo → Option (Int32 × Tr × Lo)) (x2 : Int32) (S : Tr) (L : Lo) : Option (Int32 × Tr × Lo) :=
  if 21 ≤ (S 62 1) then (fJ_X8_missed_J124  x1 x2 S L) else (if 0 ≤ x2 then (fJ_X8_missed_J124  x1 x2 S L) else (bd (f_X8_outs S L (1 : Int32)) fun q => lt q.1 fun S_30 => lt q.2 fun L_31 => lt ((S_30 0 13) - 1) fun y34 => fL_X8_missed_L50 k23 S_30 L_31 x1 x2 y34))
def fL_X8_missed_L23 (x1 : Int32) : Int32 → Tr → Lo → Option (Int32 × Tr × Lo) := lpF (fun _ _ _ => none) (fB_X8_missed_L23 x1) 2000
def f_X8_missed (S : Tr) (L : Lo) (x1 : Int32) : Option (Int32 × Tr × Lo) :=
  lt (st S 0 2 0) fun S_1 => bd (f_X8_isIn x1 (0 : Int32) (1 : Int32)) fun r2 => if r2 = 0 then (some ((-1), S_1, L)) else (bd (f_X8_layTried S_1) fun S_6 => fL_X8_missed_L23 x1 (-2) S_6 L)
def fJ_X8_move_J67  (x1 : Int32) (x2 : Int32) (S : Tr) : Option (Int32 × Tr) :=
  bd (f_X8_remember S) fun S_17 => bd (f_X8_takes S_17 (0 : Int32) x1 (1 : Int32)) fun S_20 => bd (f_X8_lays S_20 (0 : Int32) x2 x1) fun S_23 => some (1, S_23)
def f_X8_move (S : Tr) (x1 : Int32) (x2 : Int32) : Option (Int32 × Tr) :=
  lt (st S 0 2 0) fun S_1 => bd (f_X8_isPiece S_1 x1) fun r2 => if r2 = 0 then (some (0, S_1)) else (bd (f_X8_isPlace S_1 x2) fun r6 => if r6 = 0 then (some (0, S_1)) else (ck (okI x1 20) (if (S_1 53 x1.toNatClampNeg) = 1 then (if (S_1 54 x1.toNatClampNeg) = x2 then (bd (f_X8_aboveOf S_1 (0 : Int32) x1) fun r26 => if r26 = 0 then (some (0, S_1)) else (fJ_X8_move_J67  x1 x2 S_1)) else (bd (f_X8_doesHold S_1 (0 : Int32) x2 x1) fun r13 => if r13 = 0 then (some (0, S_1)) else (fJ_X8_move_J67  x1 x2 S_1))) else (some (0, S_1)))))
def f_X8_named (S : Tr) (x1 : Int32) : Option (Int32 × Tr) :=
  lt (st S 0 2 0) fun S_1 => bd (f_X8_find_26 S_1 (0 : Int32) (S_1 0 13) x1) fun r2 => some (r2, S_1)
def f_X8_noted (S : Tr) (x1 : Int32) (x2 : Int32) (x3 : Int32) (x4 : Int32) : Option (Int32 × Tr) :=
  ck (okI ((4 : Int32) * (S 0 78)) 96) (lt (st S 81 (((4 : Int32) * (S 0 78)).toNatClampNeg) x1) fun S_2 => ck (okI (((4 : Int32) * (S_2 0 78)) + 1) 96) (lt (st S_2 81 ((((4 : Int32) * (S_2 0 78)) + 1).toNatClampNeg) x2) fun S_4 => ck (okI (((4 : Int32) * (S_4 0 78)) + 2) 96) (lt (st S_4 81 ((((4 : Int32) * (S_4 0 78)) + 2).toNatClampNeg) x3) fun S_6 => ck (okI (((4 : Int32) * (S_6 0 78)) + 3) 96) (lt (st S_6 81 ((((4 : Int32) * (S_6 0 78)) + 3).toNatClampNeg) x4) fun S_8 => lt (st S_8 0 78 ((S_8 0 78) + 1)) fun S_9 => some (((S_9 0 78) - 1), S_9)))))
def f_X8_person (S : Tr) (x1 : Int32) (x2 : Int32) : Option (Int32 × Tr) :=
  lt (st S 0 2 0) fun S_1 => bd (f_X8_isPerson S_1 x1) fun r2 => if r2 = 0 then (bd (f_X8_fails S_1 (1 : Int32)) fun q => lt q.1 fun r21 => lt q.2 fun S_22 => some (r21, S_22)) else (if x2 = 0 then (ck (okI x1 12) (some ((S_1 27 x1.toNatClampNeg), S_1))) else (if x2 = 1 then (ck (okI x1 12) (some ((S_1 28 x1.toNatClampNeg), S_1))) else (if x2 = 2 then (ck (okI x1 12) (some ((S_1 58 x1.toNatClampNeg), S_1))) else (if x2 = 3 then (ck (okI x1 12) (some ((S_1 59 x1.toNatClampNeg), S_1))) else (if x2 = 4 then (ck (okI x1 12) (some ((S_1 60 x1.toNatClampNeg), S_1))) else (bd (f_X8_fails S_1 (2 : Int32)) fun q => lt q.1 fun r16 => lt q.2 fun S_17 => some (r16, S_17)))))))
def f_X8_piece (S : Tr) (x1 : Int32) (x2 : Int32) : Option (Int32 × Tr) :=
  lt (st S 0 2 0) fun S_1 => bd (f_X8_isPiece S_1 x1) fun r2 => if r2 = 0 then (some ((-1), S_1)) else (if x2 = 0 then (ck (okI x1 20) (some ((S_1 30 x1.toNatClampNeg), S_1))) else (if x2 = 1 then (ck (okI x1 20) (some ((S_1 31 x1.toNatClampNeg), S_1))) else (if x2 = 2 then (ck (okI x1 20) (some ((S_1 32 x1.toNatClampNeg), S_1))) else (if x2 = 3 then (ck (okI x1 20) (some ((S_1 53 x1.toNatClampNeg), S_1))) else (if x2 = 4 then (ck (okI x1 20) (some ((S_1 54 x1.toNatClampNeg), S_1))) else (if x2 = 5 then (bd (f_X8_aboveOf S_1 (0 : Int32) x1) fun r17 => some (r17, S_1)) else (some ((-1), S_1))))))))
def f_X8_place (S : Tr) (x1 : Int32) (x2 : Int32) : Option (Int32 × Tr) :=
  lt (st S 0 2 0) fun S_1 => bd (f_X8_isPlace S_1 x1) fun r2 => if r2 = 0 then (some ((-1), S_1)) else (if x2 = 0 then (ck (okI x1 10) (some ((S_1 24 x1.toNatClampNeg), S_1))) else (if x2 = 1 then (ck (okI x1 10) (some ((S_1 25 x1.toNatClampNeg), S_1))) else (if x2 = 2 then (bd (f_X8_weightIn S_1 (0 : Int32) x1) fun r11 => some (r11, S_1)) else (if x2 = 3 then (ck (okI x1 10) (some ((S_1 56 x1.toNatClampNeg), S_1))) else (if x2 = 4 then (ck (okI x1 10) (if (S_1 56 x1.toNatClampNeg) = 0 then (some ((-1), S_1)) else (bd (f_X8_stackAt S_1 (0 : Int32) x1 ((S_1 56 x1.toNatClampNeg) - 1)) fun r19 => some (r19, S_1)))) else (some ((-1), S_1)))))))
def fB_X8_plain_L70  (k70 : Int32 → Tr → Option (Tr)) (x1 : Int32) (S : Tr) : Option (Tr) :=
  if 21 ≤ x1 then (some S) else (ck (okI ((21 : Int32) + x1) 42) (lt (st S 34 (((21 : Int32) + x1).toNatClampNeg) 60) fun S_10 => ck (okI x1 21) (lt (st S_10 35 x1.toNatClampNeg (vp_nar .boolean 0)) fun S_12 => lt (x1 + 1) fun y13 => k70 y13 S_12)))
def fL_X8_plain_L70  : Int32 → Tr → Option (Tr) := lpF (fun _ _ => none) (fB_X8_plain_L70 ) 2000
def fB_X8_plain_L32  (k32 : Int32 → Tr → Option (Tr)) (x1 : Int32) (S : Tr) : Option (Tr) :=
  if 3 ≤ x1 then (fL_X8_plain_L70  0 S) else (ck (okI x1 3) (lt (st S 22 x1.toNatClampNeg (vp_nar .boolean 0)) fun S_15 => ck (okI ((3 : Int32) + x1) 6) (lt (st S_15 23 (((3 : Int32) + x1).toNatClampNeg) 0) fun S_17 => lt (st S_17 36 (((3 : Int32) + x1).toNatClampNeg) (vp_nar .boolean 0)) fun S_18 => lt (x1 + 1) fun y19 => k32 y19 S_18)))
def fL_X8_plain_L32  : Int32 → Tr → Option (Tr) := lpF (fun _ _ => none) (fB_X8_plain_L32 ) 2000
def f_X8_plain (S : Tr) : Option (Tr) :=
  lt (st S 0 16 0) fun S_1 => lt (st S_1 0 17 0) fun S_2 => lt (st S_2 0 18 0) fun S_3 => lt (st S_3 0 19 0) fun S_4 => lt (st S_4 0 20 0) fun S_5 => lt (st S_5 0 46 0) fun S_6 => fL_X8_plain_L32  0 S_6
def fJ_X8_restAt_J285  (x3 : Int32) (x4 : Int32) (S : Tr) (L : Lo) : Option (Int32 × Tr × Lo) :=
  if 0 ≤ x3 then (some ((-2), S, L)) else (some (x4, S, L))
def fJ_X8_restAt_J257  (x5 : Int32) (S : Tr) (L : Lo) : Option (Int32 × Tr × Lo) :=
  ck (!((S 0 12) == 0)) (some ((((10 : Int32) * (x5 / (S 0 12))) + (x5 - x5 / (S 0 12) * (S 0 12))), S, L))
def fJ_X8_restAt_J243 (k136 : Int32 → Int32 → Option (Int32 × Tr × Lo)) (S : Tr) (L : Lo) (x3 : Int32) (x4 : Int32) (x5 : Int32) (x6 : Int32) : Option (Int32 × Tr × Lo) :=
  if x6 = 0 then (lt (x5 + 1) fun y10 => k136 x4 y10) else (if x4 = x3 then (fJ_X8_restAt_J257  x5 S L) else (lt (x4 + 1) fun y7 => lt (x5 + 1) fun y8 => k136 y7 y8))
def fB_X8_restAt_L156 (k136 : Int32 → Int32 → Option (Int32 × Tr × Lo)) (S : Tr) (L : Lo) (x3 : Int32) (x4 : Int32) (x5 : Int32) (k156 : Int32 → Int32 → Option (Int32 × Tr × Lo)) (x6 : Int32) (x7 : Int32) : Option (Int32 × Tr × Lo) :=
  if (S 0 12) ≤ x7 then (fJ_X8_restAt_J243 k136 S L x3 x4 x5 x6) else (if x6 = 0 then (lt (x7 + 1) fun y12 => k156 0 y12) else (ck (!((S 0 12) == 0)) (ck (okI (((S 0 12) * x7) + (x5 - x5 / (S 0 12) * (S 0 12))) 25) (ck (okI x5 25) (if (S 77 (((S 0 12) * x7) + (x5 - x5 / (S 0 12) * (S 0 12))).toNatClampNeg) < (S 77 x5.toNatClampNeg) then (lt (x7 + 1) fun y17 => k156 0 y17) else (ck (okI (((x5 / (S 0 12)) * (S 0 12)) + x7) 25) (if (S 78 (((x5 / (S 0 12)) * (S 0 12)) + x7).toNatClampNeg) < (S 78 x5.toNatClampNeg) then (lt (x7 + 1) fun y20 => k156 0 y20) else (lt (x7 + 1) fun y21 => k156 1 y21))))))))
def fL_X8_restAt_L156 (k136 : Int32 → Int32 → Option (Int32 × Tr × Lo)) (S : Tr) (L : Lo) (x3 : Int32) (x4 : Int32) (x5 : Int32) : Int32 → Int32 → Option (Int32 × Tr × Lo) := lpF (fun _ _ => none) (fB_X8_restAt_L156 k136 S L x3 x4 x5) 2000
def fB_X8_restAt_L136 (S : Tr) (L : Lo) (x3 : Int32) (k136 : Int32 → Int32 → Option (Int32 × Tr × Lo)) (x4 : Int32) (x5 : Int32) : Option (Int32 × Tr × Lo) :=
  if ((S 0 12) * (S 0 12)) ≤ x5 then (fJ_X8_restAt_J285  x3 x4 S L) else (fL_X8_restAt_L156 k136 S L x3 x4 x5 1 0)
def fL_X8_restAt_L136 (S : Tr) (L : Lo) (x3 : Int32) : Int32 → Int32 → Option (Int32 × Tr × Lo) := lpF (fun _ _ => none) (fB_X8_restAt_L136 S L x3) 2000
def fJ_X8_restAt_J90 (k3 : Int32 → Tr → Lo → Option (Int32 × Tr × Lo)) (x1 : Int32) (x2 : Int32) (x3 : Int32) (x4 : Int32) (x5 : Int32) (s0 : Int32) (S : Tr) (L : Lo) : Option (Int32 × Tr × Lo) :=
  bd (f_X8_toEnd S L) fun q => lt q.1 fun S_39 => lt q.2 fun L_40 => bd (f_X8_costOf S_39 x1 x5) fun r43 => ck (okI x4 25) (lt (st S_39 77 x4.toNatClampNeg r43) fun S_47 => bd (f_X8_costOf S_47 x2 s0) fun r48 => lt (st S_47 78 x4.toNatClampNeg r48) fun S_51 => lt (x4 + 1) fun y52 => k3 y52 S_51 L_40)
def fJ_X8_restAt_J70 (k3 : Int32 → Tr → Lo → Option (Int32 × Tr × Lo)) (x1 : Int32) (x2 : Int32) (x3 : Int32) (x4 : Int32) (s0 : Int32) (S : Tr) (L : Lo) : Option (Int32 × Tr × Lo) :=
  ck (okI ((10 : Int32) + x2) 20) (if (S 53 ((10 : Int32) + x2).toNatClampNeg) = 5 then (fJ_X8_restAt_J90 k3 x1 x2 x3 x4 s0 1 S L) else (fJ_X8_restAt_J90 k3 x1 x2 x3 x4 s0 0 S L))
def fB_X8_restAt_L3 (x1 : Int32) (x2 : Int32) (x3 : Int32) (k3 : Int32 → Tr → Lo → Option (Int32 × Tr × Lo)) (x4 : Int32) (S : Tr) (L : Lo) : Option (Int32 × Tr × Lo) :=
  if ((S 0 12) * (S 0 12)) ≤ x4 then (fL_X8_restAt_L136 S L x3 0 0) else (bd (f_X8_layTried S) fun S_22 => ck (!((S_22 0 12) == 0)) (ck (okI x1 10) (lt (st S_22 72 x1.toNatClampNeg (x4 / (S_22 0 12))) fun S_27 => ck (!((S_27 0 12) == 0)) (ck (okI x2 10) (lt (st S_27 72 x2.toNatClampNeg (x4 - x4 / (S_27 0 12) * (S_27 0 12))) fun S_30 => bd (f_X8_goOn S_30 L (1 : Int32)) fun q => lt q.1 fun S_31 => lt q.2 fun L_32 => ck (okI ((10 : Int32) + x1) 20) (if (S_31 53 ((10 : Int32) + x1).toNatClampNeg) = 5 then (fJ_X8_restAt_J70 k3 x1 x2 x3 x4 1 S_31 L_32) else (fJ_X8_restAt_J70 k3 x1 x2 x3 x4 0 S_31 L_32)))))))
def fL_X8_restAt_L3 (x1 : Int32) (x2 : Int32) (x3 : Int32) : Int32 → Tr → Lo → Option (Int32 × Tr × Lo) := lpF (fun _ _ _ => none) (fB_X8_restAt_L3 x1 x2 x3) 2000
def f_X8_restAt (S : Tr) (L : Lo) (x1 : Int32) (x2 : Int32) (x3 : Int32) : Option (Int32 × Tr × Lo) :=
  fL_X8_restAt_L3 x1 x2 x3 0 S L
def f_X8_rest (S : Tr) (L : Lo) (x1 : Int32) (x2 : Int32) (x3 : Int32) : Option (Int32 × Tr × Lo) :=
  lt (st S 0 2 0) fun S_1 => bd (f_X8_areTwo S_1 x1 x2) fun r2 => if r2 = 0 then (some ((-1), S_1, L)) else (if x3 < 0 then (some ((-1), S_1, L)) else (bd (f_X8_restAt S_1 L x1 x2 x3) fun q => lt q.1 fun r7 => lt q.2.1 fun S_8 => lt q.2.2 fun L_9 => some (r7, S_8, L_9)))
def f_X8_rests (S : Tr) (L : Lo) (x1 : Int32) (x2 : Int32) : Option (Int32 × Tr × Lo) :=
  lt (st S 0 2 0) fun S_1 => bd (f_X8_areTwo S_1 x1 x2) fun r2 => if r2 = 0 then (some ((-1), S_1, L)) else (bd (f_X8_restAt S_1 L x1 x2 (-1 : Int32)) fun q => lt q.1 fun r6 => lt q.2.1 fun S_7 => lt q.2.2 fun L_8 => some (r6, S_7, L_8))
def fJ_X8_see_J58  (s0 : Int32) (s1 : Int32) (s2 : Int32) (s3 : Int32) (S : Tr) : Option (Int32 × Tr) :=
  bd (f_X8_noted S s3 s2 s1 s0) fun q => lt q.1 fun r16 => lt q.2 fun S_17 => some (r16, S_17)
def f_X8_see (S : Tr) (x1 : Int32) (x2 : Int32) (x3 : Int32) (x4 : Int32) : Option (Int32 × Tr) :=
  lt (st S 0 2 0) fun S_1 => if (S_1 0 78) = 24 then (some ((-1), S_1)) else (bd (f_X8_isIn x1 (0 : Int32) (19 : Int32)) fun r3 => if r3 = 0 then (some ((-1), S_1)) else (bd (f_X8_isPiece S_1 x2) fun r7 => if r7 = 0 then (some ((-1), S_1)) else (bd (f_X8_isPlace S_1 x3) fun r11 => if r11 = 0 then (some ((-1), S_1)) else (if x4 = 0 then (fJ_X8_see_J58  0 x3 x2 x1 S_1) else (fJ_X8_see_J58  1 x3 x2 x1 S_1)))))
def f_X8_strike (S : Tr) (x1 : Int32) : Option (Int32 × Tr) :=
  lt (st S 0 2 0) fun S_1 => if (S_1 0 78) = 24 then (some ((-1), S_1)) else (if x1 < 0 then (some ((-1), S_1)) else (if x1 < (S_1 0 78) then (bd (f_X8_noted S_1 (-1 : Int32) x1 (0 : Int32) (0 : Int32)) fun q => lt q.1 fun r5 => lt q.2 fun S_6 => some (r5, S_6)) else (some ((-1), S_1))))
def fJ_X8_text_J77  (x2 : Int32) (S : Tr) (L : Lo) : Option (Int32 × Tr × Lo) :=
  bd (f_X8_keepText S L) fun q => lt q.1 fun S_16 => lt q.2 fun L_17 => some (x2, S_16, L_17)
def fB_X8_text_L55 (L : Lo) (k55 : Int32 → Tr → Option (Int32 × Tr × Lo)) (x2 : Int32) (S : Tr) : Option (Int32 × Tr × Lo) :=
  if (S 0 8) = 0 then (fJ_X8_text_J77  x2 S L) else (bd (f_X8_lineRead S) fun q => lt q.1 fun r20 => lt q.2 fun S_21 => if r20 = 0 then (some ((-1), S_21, L)) else (lt (x2 + 1) fun y25 => k55 y25 S_21))
def fL_X8_text_L55 (L : Lo) : Int32 → Tr → Option (Int32 × Tr × Lo) := lpF (fun _ _ => none) (fB_X8_text_L55 L) 2000
def f_X8_text (S : Tr) (L : Lo) (x1 : Int32) : Option (Int32 × Tr × Lo) :=
  lt (st S 0 2 0) fun S_1 => if x1 < 0 then (some ((-2), S_1, L)) else (if x1 ≤ (S_1 0 1) then (lt (st S_1 0 6 x1) fun S_4 => lt (st S_4 0 1 0) fun S_5 => lt (st S_5 0 4 0) fun S_6 => lt (st S_6 0 5 (-1)) fun S_7 => lt (st S_7 0 7 0) fun S_8 => bd (f_X8_plain S_8) fun S_9 => bd (f_X8_token S_9) fun S_12 => fL_X8_text_L55 L 0 S_12) else (some ((-2), S_1, L)))
def fJ_X8_tried_J156  (S : Tr) (L : Lo) : Option (Int32 × Tr × Lo) :=
  bd (f_X8_toEnd S L) fun q => lt q.1 fun S_24 => lt q.2 fun L_25 => bd (f_X8_plainTried S_24) fun S_28 => bd (f_X8_more S_28) fun r31 => some (r31, S_28, L_25)
def fJ_X8_tried_J146  (x2 : Int32) (S : Tr) (L : Lo) : Option (Int32 × Tr × Lo) :=
  ck (okI ((6 : Int32) + x2) 12) (lt (st S 59 (((6 : Int32) + x2).toNatClampNeg) 2) fun S_36 => fJ_X8_tried_J156  S_36 L)
def fB_X8_tried_L102 (L : Lo) (x2 : Int32) (k102 : Int32 → Tr → Option (Int32 × Tr × Lo)) (x3 : Int32) (S : Tr) : Option (Int32 × Tr × Lo) :=
  if (S 0 14) ≤ x3 then (fJ_X8_tried_J146  x2 S L) else (ck (okI x3 20) (if (S 30 x3.toNatClampNeg) = x2 then (ck (okI ((10 : Int32) + x3) 20) (if (S 53 ((10 : Int32) + x3).toNatClampNeg) = 1 then (bd (f_X8_takes S (1 : Int32) x3 (2 : Int32)) fun S_43 => lt (x3 + 1) fun y46 => k102 y46 S_43) else (lt (x3 + 1) fun y42 => k102 y42 S))) else (lt (x3 + 1) fun y39 => k102 y39 S)))
def fL_X8_tried_L102 (L : Lo) (x2 : Int32) : Int32 → Tr → Option (Int32 × Tr × Lo) := lpF (fun _ _ => none) (fB_X8_tried_L102 L x2) 2000
def fJ_X8_tried_J92  (x1 : Int32) (x2 : Int32) (s0 : Int32) (S : Tr) (L : Lo) : Option (Int32 × Tr × Lo) :=
  ck (okB s0) (lt (st S 0 68 s0) fun S_22 => if x1 = 2 then (fL_X8_tried_L102 L x2 0 S_22) else (fJ_X8_tried_J156  S_22 L))
def fJ_X8_tried_J78  (x1 : Int32) (x2 : Int32) (s0 : Int32) (S : Tr) (L : Lo) : Option (Int32 × Tr × Lo) :=
  ck (okB s0) (lt (st S 0 69 s0) fun S_19 => if x1 = 4 then (fJ_X8_tried_J92  x1 x2 1 S_19 L) else (fJ_X8_tried_J92  x1 x2 0 S_19 L))
def fJ_X8_tried_J64  (x1 : Int32) (x2 : Int32) (s0 : Int32) (S : Tr) (L : Lo) : Option (Int32 × Tr × Lo) :=
  ck (okB s0) (lt (st S 0 67 s0) fun S_16 => if x1 = 3 then (fJ_X8_tried_J78  x1 x2 1 S_16 L) else (fJ_X8_tried_J78  x1 x2 0 S_16 L))
def fJ_X8_tried_J50  (x1 : Int32) (x2 : Int32) (s0 : Int32) (S : Tr) (L : Lo) : Option (Int32 × Tr × Lo) :=
  ck (okB s0) (lt (st S 0 66 s0) fun S_13 => if x1 = 1 then (fJ_X8_tried_J64  x1 x2 1 S_13 L) else (fJ_X8_tried_J64  x1 x2 0 S_13 L))
def fJ_X8_tried_J36  (x1 : Int32) (x2 : Int32) (S : Tr) (L : Lo) : Option (Int32 × Tr × Lo) :=
  bd (f_X8_layTried S) fun S_8 => if x1 = 0 then (fJ_X8_tried_J50  x1 x2 1 S_8 L) else (fJ_X8_tried_J50  x1 x2 0 S_8 L)
def f_X8_tried (S : Tr) (L : Lo) (x1 : Int32) (x2 : Int32) : Option (Int32 × Tr × Lo) :=
  lt (st S 0 2 0) fun S_1 => bd (f_X8_isIn x1 (0 : Int32) (4 : Int32)) fun r2 => if r2 = 0 then (some ((-1), S_1, L)) else (if x1 = 2 then (bd (f_X8_isPerson S_1 x2) fun r47 => if r47 = 0 then (some ((-1), S_1, L)) else (fJ_X8_tried_J36  x1 x2 S_1 L)) else (if x2 = 0 then (fJ_X8_tried_J36  x1 x2 S_1 L) else (some ((-1), S_1, L))))
def f_X8_turn (S : Tr) (x1 : Int32) : Option (Int32 × Tr) :=
  lt (st S 0 2 0) fun S_1 => bd (f_X8_isPlace S_1 x1) fun r2 => if r2 = 0 then (some ((-1), S_1)) else (bd (f_X8_layTried S_1) fun S_6 => bd (f_X8_turns S_6 (1 : Int32) x1) fun q => lt q.1 fun r9 => lt q.2 fun S_10 => if r9 = 0 then (some (0, S_10)) else (bd (f_X8_remember S_10) fun S_14 => bd (f_X8_turns S_14 (0 : Int32) x1) fun q => lt q.1 fun r17 => lt q.2 fun S_18 => some (r17, S_18)))
def fB_X8_take_84_L103  (k103 : Int32 → Tr → Option (Tr)) (x3 : Int32) (S : Tr) : Option (Tr) :=
  if 50 ≤ x3 then (some S) else (ck (okI (x3 / 10) 10) (if (S 56 (x3 / 10).toNatClampNeg) ≤ (x3 - x3 / 10 * 10) then (lt (x3 + 1) fun y8 => k103 y8 S) else (ck (okI x3 100) (ck (okI (S 55 x3.toNatClampNeg) 20) (lt (st S 54 ((S 55 x3.toNatClampNeg).toNatClampNeg) (x3 / 10)) fun S_11 => lt (x3 + 1) fun y12 => k103 y12 S_11)))))
def fL_X8_take_84_L103  : Int32 → Tr → Option (Tr) := lpF (fun _ _ => none) (fB_X8_take_84_L103 ) 2000
def fB_X8_take_84_L82  (k82 : Int32 → Tr → Option (Tr)) (x3 : Int32) (S : Tr) : Option (Tr) :=
  if 10 ≤ x3 then (fL_X8_take_84_L103  0 S) else (ck (okI x3 20) (lt (st S 54 x3.toNatClampNeg (-1)) fun S_14 => lt (x3 + 1) fun y15 => k82 y15 S_14))
def fL_X8_take_84_L82  : Int32 → Tr → Option (Tr) := lpF (fun _ _ => none) (fB_X8_take_84_L82 ) 2000
def fB_X8_take_84_L54 (x2 : Int32) (k54 : Int32 → Tr → Option (Tr)) (x3 : Int32) (S : Tr) : Option (Tr) :=
  if 6 ≤ x3 then (fL_X8_take_84_L82  0 S) else (ck (okI ((x2 + 55) + x3) 1220) (ck (okI x3 12) (lt (st S 58 x3.toNatClampNeg (S 84 ((x2 + 55) + x3).toNatClampNeg)) fun S_18 => lt (x3 + 1) fun y19 => k54 y19 S_18)))
def fL_X8_take_84_L54 (x2 : Int32) : Int32 → Tr → Option (Tr) := lpF (fun _ _ => none) (fB_X8_take_84_L54 x2) 2000
def fB_X8_take_84_L27 (x2 : Int32) (k27 : Int32 → Tr → Option (Tr)) (x3 : Int32) (S : Tr) : Option (Tr) :=
  if 5 ≤ x3 then (fL_X8_take_84_L54 x2 0 S) else (ck (okI ((x2 + 50) + x3) 1220) (ck (okI x3 10) (lt (st S 56 x3.toNatClampNeg (S 84 ((x2 + 50) + x3).toNatClampNeg)) fun S_22 => lt (x3 + 1) fun y23 => k27 y23 S_22)))
def fL_X8_take_84_L27 (x2 : Int32) : Int32 → Tr → Option (Tr) := lpF (fun _ _ => none) (fB_X8_take_84_L27 x2) 2000
def fB_X8_take_84_L2 (x2 : Int32) (k2 : Int32 → Tr → Option (Tr)) (x3 : Int32) (S : Tr) : Option (Tr) :=
  if 50 ≤ x3 then (fL_X8_take_84_L27 x2 0 S) else (ck (okI (x2 + x3) 1220) (ck (okI x3 100) (lt (st S 55 x3.toNatClampNeg (S 84 (x2 + x3).toNatClampNeg)) fun S_26 => lt (x3 + 1) fun y27 => k2 y27 S_26)))
def fL_X8_take_84_L2 (x2 : Int32) : Int32 → Tr → Option (Tr) := lpF (fun _ _ => none) (fB_X8_take_84_L2 x2) 2000
def f_X8_take_84 (S : Tr) (x2 : Int32) : Option (Tr) :=
  fL_X8_take_84_L2 x2 0 S
def f_X8_undo (S : Tr) : Option (Int32 × Tr) :=
  lt (st S 0 2 0) fun S_1 => if (S_1 0 82) = 0 then (some ((-1), S_1)) else (lt (st S_1 0 82 ((S_1 0 82) - 1)) fun S_3 => bd (f_X8_take_84 S_3 ((61 : Int32) * (S_3 0 82))) fun S_4 => some ((S_4 0 82), S_4))
def f_X8_waits (S : Tr) (x1 : Int32) : Option (Int32 × Tr) :=
  lt (st S 0 2 0) fun S_1 => bd (f_X8_isIn x1 (0 : Int32) (20 : Int32)) fun r2 => if r2 = 0 then (some ((-1), S_1)) else (ck (okI x1 42) (some ((S_1 34 x1.toNatClampNeg), S_1)))
def fJ_X8_when_J142  (x2 : Int32) (x4 : Int32) (x5 : Int32) (S : Tr) (L : Lo) : Option (Int32 × Tr × Lo) :=
  if x2 = 0 then (some (x4, S, L)) else (some (x5, S, L))
def fJ_X8_when_J83 (k53 : Int32 → Int32 → Int32 → Int32 → Tr → Lo → Option (Int32 × Tr × Lo)) (x1 : Int32) (x2 : Int32) (x3 : Int32) (x4 : Int32) (x5 : Int32) (x6 : Int32) (S : Tr) (L : Lo) : Option (Int32 × Tr × Lo) :=
  ck (okI ((5 : Int32) + x1) 10) (lt (S 56 ((5 : Int32) + x1).toNatClampNeg) fun y28 => bd (f_X8_turns S (1 : Int32) x1) fun q => lt q.1 fun r29 => lt q.2 fun S_30 => bd (f_X8_toEnd S_30 L) fun q => lt q.1 fun S_33 => lt q.2 fun L_34 => bd (f_X8_more S_33) fun r37 => if (r37 + y28) < x3 then (bd (f_X8_more S_33) fun r41 => lt (r41 + y28) fun y44 => bd (f_X8_more S_33) fun r45 => lt (x6 + 1) fun y48 => k53 y44 x6 r45 y48 S_33 L_34) else (lt (x6 + 1) fun y49 => k53 x3 x4 x5 y49 S_33 L_34))
def fB_X8_when_L64 (k53 : Int32 → Int32 → Int32 → Int32 → Tr → Lo → Option (Int32 × Tr × Lo)) (x1 : Int32) (x2 : Int32) (x3 : Int32) (x4 : Int32) (x5 : Int32) (x6 : Int32) (k64 : Tr → Lo → Option (Int32 × Tr × Lo)) (S : Tr) (L : Lo) : Option (Int32 × Tr × Lo) :=
  if x6 ≤ (S 62 1) then (fJ_X8_when_J83 k53 x1 x2 x3 x4 x5 x6 S L) else (bd (f_X8_goOn S L (1 : Int32)) fun q => lt q.1 fun S_50 => lt q.2 fun L_51 => k64 S_50 L_51)
def fL_X8_when_L64 (k53 : Int32 → Int32 → Int32 → Int32 → Tr → Lo → Option (Int32 × Tr × Lo)) (x1 : Int32) (x2 : Int32) (x3 : Int32) (x4 : Int32) (x5 : Int32) (x6 : Int32) : Tr → Lo → Option (Int32 × Tr × Lo) := lpF (fun _ _ => none) (fB_X8_when_L64 k53 x1 x2 x3 x4 x5 x6) 2000
def fB_X8_when_L53 (x1 : Int32) (x2 : Int32) (k53 : Int32 → Int32 → Int32 → Int32 → Tr → Lo → Option (Int32 × Tr × Lo)) (x3 : Int32) (x4 : Int32) (x5 : Int32) (x6 : Int32) (S : Tr) (L : Lo) : Option (Int32 × Tr × Lo) :=
  if 20 ≤ x6 then (fJ_X8_when_J142  x2 x4 x5 S L) else (bd (f_X8_layTried S) fun S_23 => fL_X8_when_L64 k53 x1 x2 x3 x4 x5 x6 S_23 L)
def fL_X8_when_L53 (x1 : Int32) (x2 : Int32) : Int32 → Int32 → Int32 → Int32 → Tr → Lo → Option (Int32 × Tr × Lo) := lpF (fun _ _ _ _ _ _ => none) (fB_X8_when_L53 x1 x2) 2000
def f_X8_when (S : Tr) (L : Lo) (x1 : Int32) (x2 : Int32) : Option (Int32 × Tr × Lo) :=
  lt (st S 0 2 0) fun S_1 => bd (f_X8_isPlace S_1 x1) fun r2 => if r2 = 0 then (some ((-1), S_1, L)) else (bd (f_X8_isIn x2 (0 : Int32) (1 : Int32)) fun r6 => if r6 = 0 then (some ((-1), S_1, L)) else (bd (f_X8_layTried S_1) fun S_10 => bd (f_X8_toEnd S_10 L) fun q => lt q.1 fun S_13 => lt q.2 fun L_14 => bd (f_X8_more S_13) fun r17 => lt (S_13 62 0) fun y20 => fL_X8_when_L53 x1 x2 r17 (-2) (-2) y20 S_13 L_14))
