def wPL (cA : Nat → ClassId) (pa : Nat → Nat) (P : Tr) (L : Lo) : va_W := List.flatten [gP cA pa  P, gL cA pa P L]
theorem sPL_pa_f0 {cA : Nat → ClassId} {pa : Nat → Nat} {P : Tr} {L : Lo} {v : Int32} : (wPL cA pa P L).set 0 (pa 0, .inr (2, (fP pa  P).set 0 (.int v))) = wPL cA pa (st P 0 0 v) L := rfl
theorem sPL_pa_f1 {cA : Nat → ClassId} {pa : Nat → Nat} {P : Tr} {L : Lo} {v : Int32} : (wPL cA pa P L).set 0 (pa 0, .inr (2, (fP pa  P).set 1 (.int v))) = wPL cA pa (st P 0 1 v) L := rfl
theorem sPL_pa_f2 {cA : Nat → ClassId} {pa : Nat → Nat} {P : Tr} {L : Lo} {v : Int32} : (wPL cA pa P L).set 0 (pa 0, .inr (2, (fP pa  P).set 2 (.int v))) = wPL cA pa (st P 0 2 v) L := rfl
theorem sPL_pa_f3 {cA : Nat → ClassId} {pa : Nat → Nat} {P : Tr} {L : Lo} {v : Int32} : (wPL cA pa P L).set 0 (pa 0, .inr (2, (fP pa  P).set 3 (.int v))) = wPL cA pa (st P 0 3 v) L := rfl
theorem sPL_pa_f4 {cA : Nat → ClassId} {pa : Nat → Nat} {P : Tr} {L : Lo} {v : Int32} : (wPL cA pa P L).set 0 (pa 0, .inr (2, (fP pa  P).set 4 (.int v))) = wPL cA pa (st P 0 4 v) L := rfl
theorem sPL_pa_f5 {cA : Nat → ClassId} {pa : Nat → Nat} {P : Tr} {L : Lo} {v : Int32} : (wPL cA pa P L).set 0 (pa 0, .inr (2, (fP pa  P).set 5 (.int v))) = wPL cA pa (st P 0 5 v) L := rfl
theorem sPL_pa_f6 {cA : Nat → ClassId} {pa : Nat → Nat} {P : Tr} {L : Lo} {v : Int32} : (wPL cA pa P L).set 0 (pa 0, .inr (2, (fP pa  P).set 6 (.int v))) = wPL cA pa (st P 0 6 v) L := rfl
theorem sPL_pa_a7 {cA : Nat → ClassId} {pa : Nat → Nat} {P : Tr} {L : Lo} {i : Nat} {v : Int32} : (wPL cA pa P L).set 1 (pa 8, .inl (cA 0, 5, .inl (upd (P 8) i v))) = wPL cA pa (st P 8 i v) L := rfl
theorem sPL_pa_a8 {cA : Nat → ClassId} {pa : Nat → Nat} {P : Tr} {L : Lo} {i : Nat} {v : Int32} : (wPL cA pa P L).set 2 (pa 9, .inl (cA 0, 5, .inl (upd (P 9) i v))) = wPL cA pa (st P 9 i v) L := rfl
theorem sPL_pa_a9 {cA : Nat → ClassId} {pa : Nat → Nat} {P : Tr} {L : Lo} {i : Nat} {v : Int32} : (wPL cA pa P L).set 3 (pa 10, .inl (cA 0, 6, .inl (upd (P 10) i v))) = wPL cA pa (st P 10 i v) L := rfl
theorem sPL_pa_a10 {cA : Nat → ClassId} {pa : Nat → Nat} {P : Tr} {L : Lo} {i : Nat} {v : Int32} : (wPL cA pa P L).set 4 (pa 11, .inl (cA 0, 6, .inl (upd (P 11) i v))) = wPL cA pa (st P 11 i v) L := rfl
theorem sPL_pa_a11 {cA : Nat → ClassId} {pa : Nat → Nat} {P : Tr} {L : Lo} {i : Nat} {v : Int32} : (wPL cA pa P L).set 5 (pa 12, .inl (cA 0, 6, .inl (upd (P 12) i v))) = wPL cA pa (st P 12 i v) L := rfl
theorem sPL_pa_a12 {cA : Nat → ClassId} {pa : Nat → Nat} {P : Tr} {L : Lo} {i : Nat} {v : Int32} : (wPL cA pa P L).set 6 (pa 13, .inl (cA 0, 6, .inl (upd (P 13) i v))) = wPL cA pa (st P 13 i v) L := rfl
theorem sPL_pa_a13 {cA : Nat → ClassId} {pa : Nat → Nat} {P : Tr} {L : Lo} {i : Nat} {v : Int32} : (wPL cA pa P L).set 7 (pa 14, .inl (cA 0, 10, .inl (upd (P 14) i v))) = wPL cA pa (st P 14 i v) L := rfl
theorem sPL_pa_a14 {cA : Nat → ClassId} {pa : Nat → Nat} {P : Tr} {L : Lo} {i : Nat} {v : Int32} : (wPL cA pa P L).set 8 (pa 15, .inl (cA 0, 10, .inl (upd (P 15) i v))) = wPL cA pa (st P 15 i v) L := rfl
theorem sPL_pa_a15 {cA : Nat → ClassId} {pa : Nat → Nat} {P : Tr} {L : Lo} {i : Nat} {v : Int32} : (wPL cA pa P L).set 9 (pa 16, .inl (cA 0, 10, .inl (upd (P 16) i v))) = wPL cA pa (st P 16 i v) L := rfl
theorem sPL_pa_a16 {cA : Nat → ClassId} {pa : Nat → Nat} {P : Tr} {L : Lo} {i : Nat} {v : Int32} : (wPL cA pa P L).set 10 (pa 17, .inl (cA 0, 10, .inl (upd (P 17) i v))) = wPL cA pa (st P 17 i v) L := rfl
theorem sPL_pa_a17 {cA : Nat → ClassId} {pa : Nat → Nat} {P : Tr} {L : Lo} {i : Nat} {v : Int32} : (wPL cA pa P L).set 11 (pa 18, .inl (cA 0, 21, .inl (upd (P 18) i v))) = wPL cA pa (st P 18 i v) L := rfl
theorem aLPL_0 {cA : Nat → ClassId} {pa : Nat → Nat} {P : Tr} {L : Lo} {j : Nat} (hj : j < 3) : (wPL cA pa P L)[13 + 3 * j]? = some (pa (30 + 3 * j), .inr (1, fL pa P j)) := by
  rcases (show j = 0 ∨ j = 1 ∨ j = 2 by omega) with rfl | rfl | rfl <;> rfl
theorem aLPL_1 {cA : Nat → ClassId} {pa : Nat → Nat} {P : Tr} {L : Lo} {j : Nat} (hj : j < 3) : (wPL cA pa P L)[14 + 3 * j]? = some (pa (31 + 3 * j), .inl (cA 0, 64, .inl (P (31 + 3 * j)))) := by
  rcases (show j = 0 ∨ j = 1 ∨ j = 2 by omega) with rfl | rfl | rfl <;> rfl
theorem aLPL_2 {cA : Nat → ClassId} {pa : Nat → Nat} {P : Tr} {L : Lo} {j : Nat} (hj : j < 3) : (wPL cA pa P L)[15 + 3 * j]? = some (pa (32 + 3 * j), .inl (cA 2, 64, .inr (.inl (L (32 + 3 * j))))) := by
  rcases (show j = 0 ∨ j = 1 ∨ j = 2 by omega) with rfl | rfl | rfl <;> rfl
theorem sLPL_f1 {cA : Nat → ClassId} {pa : Nat → Nat} {P : Tr} {L : Lo} {j : Nat} (hj : j < 3) {v : Int32} : (wPL cA pa P L).set (13 + 3 * j) (pa (30 + 3 * j), .inr (1, (fL pa P j).set 1 (.int v))) = wPL cA pa (st P (30 + 3 * j) 1 v) L := by
  rcases (show j = 0 ∨ j = 1 ∨ j = 2 by omega) with rfl | rfl | rfl <;> rfl
theorem sLPL_a0 {cA : Nat → ClassId} {pa : Nat → Nat} {P : Tr} {L : Lo} {j : Nat} (hj : j < 3) {i : Nat} {v : Int32} : (wPL cA pa P L).set (14 + 3 * j) (pa (31 + 3 * j), .inl (cA 0, 64, .inl (upd (P (31 + 3 * j)) i v))) = wPL cA pa (st P (31 + 3 * j) i v) L := by
  rcases (show j = 0 ∨ j = 1 ∨ j = 2 by omega) with rfl | rfl | rfl <;> rfl
theorem sLPL_a2 {cA : Nat → ClassId} {pa : Nat → Nat} {P : Tr} {L : Lo} {j : Nat} (hj : j < 3) {i : Nat} {v : Int64} : (wPL cA pa P L).set (15 + 3 * j) (pa (32 + 3 * j), .inl (cA 2, 64, .inr (.inl (vp_updL (L (32 + 3 * j)) i v)))) = wPL cA pa P (stL L (32 + 3 * j) i v) := by
  rcases (show j = 0 ∨ j = 1 ∨ j = 2 by omega) with rfl | rfl | rfl <;> rfl
