/-! what holds of class and reference between calls -/
def xOK (pa qa : Nat → Nat) (X K R P P2 Tn Ti Tu Tv C Z : Tr) (q0 q1 q4 q5 : Nat) : Prop := iR BX X ∧ iR BK K ∧ iR BR R ∧ iR BP P ∧ iR BP P2 ∧ iR BT Tn ∧ iR BT Ti ∧ iR BT Tu ∧ iR BT Tv ∧ iR BC C ∧ iR BZ Z ∧ dZ Z ∧ q0 = pa 0 ∧ q4 = pa 0 ∧ q5 = qa 0 ∧ (¬ X 0 4 = 0 → q1 = pa 0)
theorem lw_feed {K S K1 S1 : Tr} {r r1 : Int32} (b : (BK 0 0).1 ≤ (K 0 0).toInt ∧ (K 0 0).toInt ≤ (BK 0 0).2) (h : K 0 0 = S 0 1) (hx : ((K 0 0).toInt + 20 ≤ 700 → r = K1 0 0 ∧ (K1 0 0).toInt = (K 0 0).toInt + 20) ∧ (¬ (K 0 0).toInt + 20 ≤ 700 → r = -1 ∧ K1 0 0 = K 0 0)) (hm : ((S 0 1).toInt + 20 ≤ 700 → r1 = S1 0 1 ∧ (S1 0 1).toInt = (S 0 1).toInt + 20) ∧ (¬ (S 0 1).toInt + 20 ≤ 700 → r1 = -1 ∧ S1 0 1 = S 0 1)) : r = r1 ∧ K1 0 0 = S1 0 1 := by
  rw [← h] at hm
  by_cases c : (K 0 0).toInt + 20 ≤ 700
  · have a := hx.1 c
    have d := hm.1 c
    have e : K1 0 0 = S1 0 1 := Int32.toInt_inj.mp (a.2.trans d.2.symm)
    exact ⟨a.1.trans (e.trans d.1.symm), e⟩
  · have a := hx.2 c
    have d := hm.2 c
    exact ⟨a.1.trans d.1.symm, a.2.trans d.2.symm⟩
theorem lw_text {K S K1 S1 : Tr} {x1 : Int32} (h : K 0 0 = S 0 1) (hx : (x1.toInt < 0 ∨ (K 0 0).toInt < x1.toInt) ∧ K1 0 0 = K 0 0 ∨ (0 ≤ x1.toInt ∧ x1.toInt ≤ (K 0 0).toInt) ∧ K1 0 0 = 0) (hm : (0 ≤ x1.toInt ∧ x1.toInt ≤ (S 0 1).toInt → S1 0 1 = 0) ∧ (¬ (0 ≤ x1.toInt ∧ x1.toInt ≤ (S 0 1).toInt) → S1 0 1 = S 0 1)) : K1 0 0 = S1 0 1 := by
  rw [← h] at hm
  rcases hx with ⟨a, e⟩ | ⟨a, e⟩
  · rw [e, hm.2 (by omega)]
  · rw [e, hm.1 a]
theorem lw_feed3 {pa qa : Nat → Nat} {K S K1 S1 : Tr} {r r1 x1 x2 x3 x4 x5 : Int32} (b : (BK 0 0).1 ≤ (K 0 0).toInt ∧ (K 0 0).toInt ≤ (BK 0 0).2) (h : relT K S) (hx : ((K 0 0).toInt + 20 ≤ 700 → r = K1 0 0 ∧ (K1 0 0).toInt = (K 0 0).toInt + 20) ∧ (¬ (K 0 0).toInt + 20 ≤ 700 → r = -1 ∧ K1 0 0 = K 0 0)) (hm : ((S 0 1).toInt + 20 ≤ 700 → r1 = S1 0 1 ∧ (S1 0 1).toInt = (S 0 1).toInt + 20) ∧ (¬ (S 0 1).toInt + 20 ≤ 700 → r1 = -1 ∧ S1 0 1 = S 0 1) ∧ ∀ j, S1 4 j = S 4 j) (c1 : f_X7_feed pa qa K x1 x2 x3 x4 x5 = some (r, K1)) (c2 : f_X8_feed S x1 x2 x3 x4 x5 = some (r1, S1)) : relT K1 S1 := by
  have z := e_X7feed pa qa K S x1 x2 x3 x4 x5 h b _ _ c1 c2
  exact ⟨⟨(lw_feed b h.1.1 hx ⟨hm.1, hm.2.1⟩).2, z.2⟩, z.1, fun j hj => by rw [hm.2.2 j]; exact h.2.2 j hj⟩
theorem Q_fault (S : Tr) (x1 : Int32) (h : jX S) : D (f_X8_fault S x1) (fun q => jX (q.2) ∧ aW S (q.2)) := D_mono (t_X8_fault S x1 h.1.1 h.1.2.1 h.1.2.2.1) (fun q hq => ⟨⟨jR_T h.1 hq.1 hq.2.1, wK_S (fun j => hq.2.1 4 j rfl) h.2⟩, aW_T hq.2.1⟩)
theorem Q_named (S : Tr) (x1 : Int32) (h : jX S) : D (f_X8_named S x1) (fun q => jX (q.2) ∧ aW S (q.2)) := D_mono (t_X8_named S x1 h.1.1 h.1.2.1 h.1.2.2.1) (fun q hq => ⟨⟨jR_T h.1 hq.1 hq.2.1, wK_S (fun j => hq.2.1 4 j rfl) h.2⟩, aW_T hq.2.1⟩)
theorem Q_person (S : Tr) (x1 : Int32) (x2 : Int32) (h : jX S) : D (f_X8_person S x1 x2) (fun q => jX (q.2) ∧ aW S (q.2)) := D_mono (t_X8_person S x1 x2 h.1.1 h.1.2.1 h.1.2.2.1) (fun q hq => ⟨⟨jR_T h.1 hq.1 hq.2.1, wK_S (fun j => hq.2.1 4 j rfl) h.2⟩, aW_T hq.2.1⟩)
theorem Q_piece (S : Tr) (x1 : Int32) (x2 : Int32) (h : jX S) : D (f_X8_piece S x1 x2) (fun q => jX (q.2) ∧ aW S (q.2)) := D_mono (t_X8_piece S x1 x2 h.1.1 h.1.2.1 h.1.2.2.1) (fun q hq => ⟨⟨jR_T h.1 hq.1 hq.2.1, wK_S (fun j => hq.2.1 4 j rfl) h.2⟩, aW_T hq.2.1⟩)
theorem Q_place (S : Tr) (x1 : Int32) (x2 : Int32) (h : jX S) : D (f_X8_place S x1 x2) (fun q => jX (q.2) ∧ aW S (q.2)) := D_mono (t_X8_place S x1 x2 h.1.1 h.1.2.1 h.1.2.2.1) (fun q hq => ⟨⟨jR_T h.1 hq.1 hq.2.1, wK_S (fun j => hq.2.1 4 j rfl) h.2⟩, aW_T hq.2.1⟩)
theorem Q_waits (S : Tr) (x1 : Int32) (h : jX S) : D (f_X8_waits S x1) (fun q => jX (q.2) ∧ aW S (q.2)) := D_mono (t_X8_waits S x1 h.1.1 h.1.2.1 h.1.2.2.1) (fun q hq => ⟨⟨jR_T h.1 hq.1 hq.2.1, wK_S (fun j => hq.2.1 4 j rfl) h.2⟩, aW_T hq.2.1⟩)
theorem Q_law (S : Tr) (L : Lo) (x1 : Int32) (x2 : Int32) (h : jX S) : D (f_X8_law S L x1 x2) (fun q => jX (q.2.1) ∧ aW S (q.2.1)) := D_mono (t_X8_law S L x1 x2 h.1.1 h.1.2.1 h.1.2.2.1) (fun q hq => ⟨⟨jR_T h.1 hq.1 hq.2.1, wK_S (fun j => hq.2.1 4 j rfl) h.2⟩, aW_T hq.2.1⟩)
theorem Q_move (S : Tr) (x1 : Int32) (x2 : Int32) (h : jX S) : D (f_X8_move S x1 x2) (fun q => jX (q.2) ∧ aW S (q.2)) := D_mono (R_move S x1 x2 h.1) (fun q hq => ⟨⟨hq.1, wK_S (fun j => hq.2 4 j rfl) h.2⟩, hq.2⟩)
theorem Q_turn (S : Tr) (x1 : Int32) (h : jX S) : D (f_X8_turn S x1) (fun q => jX (q.2) ∧ aW S (q.2)) := D_mono (R_turn S x1 h.1) (fun q hq => ⟨⟨hq.1, wK_S (fun j => hq.2 4 j rfl) h.2⟩, hq.2⟩)
theorem Q_help (S : Tr) (x1 : Int32) (x2 : Int32) (h : jX S) : D (f_X8_help S x1 x2) (fun q => jX (q.2) ∧ aW S (q.2)) := D_mono (R_help S x1 x2 h.1) (fun q hq => ⟨⟨hq.1, wK_S (fun j => hq.2 4 j rfl) h.2⟩, hq.2⟩)
theorem Q_go (S : Tr) (L : Lo) (x1 : Int32) (h : jX S) : D (f_X8_go S L x1) (fun q => jX (q.2.1) ∧ aW S (q.2.1)) := D_mono (R_go S L x1 h.1) (fun q hq => ⟨⟨hq.1, wK_S (fun j => hq.2 4 j rfl) h.2⟩, hq.2⟩)
theorem Q_least (S : Tr) (L : Lo) (x1 : Int32) (h : jX S) : D (f_X8_least S L x1) (fun q => jX (q.2.1) ∧ aW S (q.2.1)) := D_mono (t_X8_least S L x1 h.1.1 h.1.2.1 h.1.2.2.1) (fun q hq => ⟨⟨jR_1 h.1 hq.1 hq.2.1, wK_S (fun j => hq.2.1 4 j rfl) h.2⟩, aW_1 hq.2.1⟩)
theorem Q_mine (S : Tr) (L : Lo) (x1 : Int32) (x2 : Int32) (h : jX S) : D (f_X8_mine S L x1 x2) (fun q => jX (q.2.1) ∧ aW S (q.2.1)) := D_mono (t_X8_mine S L x1 x2 h.1.1 h.1.2.1 h.1.2.2.1) (fun q hq => ⟨⟨jR_1 h.1 hq.1 hq.2.1, wK_S (fun j => hq.2.1 4 j rfl) h.2⟩, aW_1 hq.2.1⟩)
theorem Q_when (S : Tr) (L : Lo) (x1 : Int32) (x2 : Int32) (h : jX S) : D (f_X8_when S L x1 x2) (fun q => jX (q.2.1) ∧ aW S (q.2.1)) := D_mono (t_X8_when S L x1 x2 h.1.1 h.1.2.1 h.1.2.2.1) (fun q hq => ⟨⟨jR_1 h.1 hq.1 hq.2.1, wK_S (fun j => hq.2.1 4 j rfl) h.2⟩, aW_1 hq.2.1⟩)
theorem Q_rests (S : Tr) (L : Lo) (x1 : Int32) (x2 : Int32) (h : jX S) : D (f_X8_rests S L x1 x2) (fun q => jX (q.2.1) ∧ aW S (q.2.1)) := D_mono (t_X8_rests S L x1 x2 h.1.1 h.1.2.1 h.1.2.2.1) (fun q hq => ⟨⟨jR_1 h.1 hq.1 hq.2.1, wK_S (fun j => hq.2.1 4 j rfl) h.2⟩, aW_1 hq.2.1⟩)
theorem Q_rest (S : Tr) (L : Lo) (x1 : Int32) (x2 : Int32) (x3 : Int32) (h : jX S) : D (f_X8_rest S L x1 x2 x3) (fun q => jX (q.2.1) ∧ aW S (q.2.1)) := D_mono (t_X8_rest S L x1 x2 x3 h.1.1 h.1.2.1 h.1.2.2.1) (fun q hq => ⟨⟨jR_1 h.1 hq.1 hq.2.1, wK_S (fun j => hq.2.1 4 j rfl) h.2⟩, aW_1 hq.2.1⟩)
theorem Q_byRule (S : Tr) (L : Lo) (x1 : Int32) (h : jX S) : D (f_X8_byRule S L x1) (fun q => jX (q.2.1) ∧ aW S (q.2.1)) := D_mono (t_X8_byRule S L x1 h.1.1 h.1.2.1 h.1.2.2.1) (fun q hq => ⟨⟨jR_1 h.1 hq.1 hq.2.1, wK_S (fun j => hq.2.1 4 j rfl) h.2⟩, aW_1 hq.2.1⟩)
theorem Q_bestRule (S : Tr) (L : Lo) (h : jX S) : D (f_X8_bestRule S L) (fun q => jX (q.2.1) ∧ aW S (q.2.1)) := D_mono (t_X8_bestRule S L h.1.1 h.1.2.1 h.1.2.2.1) (fun q hq => ⟨⟨jR_1 h.1 hq.1 hq.2.1, wK_S (fun j => hq.2.1 4 j rfl) h.2⟩, aW_1 hq.2.1⟩)
theorem Q_missed (S : Tr) (L : Lo) (x1 : Int32) (h : jX S) : D (f_X8_missed S L x1) (fun q => jX (q.2.1) ∧ aW S (q.2.1)) := D_mono (t_X8_missed S L x1 h.1.1 h.1.2.1 h.1.2.2.1) (fun q hq => ⟨⟨jR_1 h.1 hq.1 hq.2.1, wK_S (fun j => hq.2.1 4 j rfl) h.2⟩, aW_1 hq.2.1⟩)
theorem Q_falls (S : Tr) (L : Lo) (h : jX S) : D (f_X8_falls S L) (fun q => jX (q.2.1) ∧ aW S (q.2.1)) := D_mono (t_X8_falls S L h.1.1 h.1.2.1 h.1.2.2.1) (fun q hq => ⟨⟨jR_1 h.1 hq.1 hq.2.1, wK_S (fun j => hq.2.1 4 j rfl) h.2⟩, aW_1 hq.2.1⟩)
theorem Q_asking (S : Tr) (L : Lo) (h : jX S) : D (f_X8_asking S L) (fun q => jX (q.2.1) ∧ aW S (q.2.1)) := D_mono (t_X8_asking S L h.1.1 h.1.2.1 h.1.2.2.1) (fun q hq => ⟨⟨jR_1 h.1 hq.1 hq.2.1, wK_S (fun j => hq.2.1 4 j rfl) h.2⟩, aW_1 hq.2.1⟩)
theorem Q_feet (S : Tr) (L : Lo) (h : jX S) : D (f_X8_feet S L) (fun q => jX (q.2.1) ∧ aW S (q.2.1)) := D_mono (t_X8_feet S L h.1.1 h.1.2.1 h.1.2.2.1) (fun q hq => ⟨⟨jR_1 h.1 hq.1 hq.2.1, wK_S (fun j => hq.2.1 4 j rfl) h.2⟩, aW_1 hq.2.1⟩)
theorem Q_see (S : Tr) (x1 : Int32) (x2 : Int32) (x3 : Int32) (x4 : Int32) (h : jX S) : D (f_X8_see S x1 x2 x3 x4) (fun q => jX (q.2) ∧ aW S (q.2)) := D_mono (R_see S x1 x2 x3 x4 h.1) (fun q hq => ⟨⟨hq.1, wK_S (fun j => hq.2 4 j rfl) h.2⟩, hq.2⟩)
theorem Q_strike (S : Tr) (x1 : Int32) (h : jX S) : D (f_X8_strike S x1) (fun q => jX (q.2) ∧ aW S (q.2)) := D_mono (R_strike S x1 h.1) (fun q hq => ⟨⟨hq.1, wK_S (fun j => hq.2 4 j rfl) h.2⟩, hq.2⟩)
theorem Q_known (S : Tr) (x1 : Int32) (h : jX S) : D (f_X8_known S x1) (fun q => jX (q.2) ∧ aW S (q.2)) := D_mono (R_known S x1 h.1) (fun q hq => ⟨⟨hq.1, wK_S (fun j => hq.2 4 j rfl) h.2⟩, hq.2⟩)
theorem Q_got (S : Tr) (L : Lo) (x1 : Int32) (h : jX S) : D (f_X8_got S L x1) (fun q => jX (q.2.1) ∧ aW S (q.2.1)) := D_mono (t_X8_got S L x1 h.1.1 h.1.2.1 h.1.2.2.1 h.1.2.2.2.2.2) (fun q hq => ⟨⟨jR_1 h.1 hq.1 hq.2.1, wK_S (fun j => hq.2.1 4 j rfl) h.2⟩, aW_1 hq.2.1⟩)
theorem Q_chance (S : Tr) (L : Lo) (x1 : Int32) (x2 : Int32) (h : jX S) : D (f_X8_chance S L x1 x2) (fun q => jX (q.2.1) ∧ aW S (q.2.1)) := D_mono (t_X8_chance S L x1 x2 h.1.1 h.1.2.1 h.1.2.2.1) (fun q hq => ⟨⟨jR_1 h.1 hq.1 hq.2.1, wK_S (fun j => hq.2.1 4 j rfl) h.2⟩, aW_1 hq.2.1⟩)
theorem Q_tried (S : Tr) (L : Lo) (x1 : Int32) (x2 : Int32) (h : jX S) : D (f_X8_tried S L x1 x2) (fun q => jX (q.2.1) ∧ aW S (q.2.1)) := D_mono (t_X8_tried S L x1 x2 h.1.1 h.1.2.1 h.1.2.2.1) (fun q hq => ⟨⟨jR_1 h.1 hq.1 hq.2.1, wK_S (fun j => hq.2.1 4 j rfl) h.2⟩, aW_1 hq.2.1⟩)
theorem Q_undo (S : Tr) (h : jX S) : D (f_X8_undo S) (fun q => jX (q.2) ∧ aW S (q.2)) := D_mono (R_undo S h.1) (fun q hq => ⟨⟨hq.1, wK_S (fun j => hq.2 4 j rfl) h.2⟩, hq.2⟩)
theorem Q_keep (S : Tr) (L : Lo) (h : jX S) : D (f_X8_keep S L) (fun q => jX (q.2.1) ∧ aW S (q.2.1)) := D_mono (R_keep S L h.1) (fun q hq => ⟨⟨hq.1, wK_S (fun j => hq.2 4 j rfl) h.2⟩, hq.2⟩)
theorem Q_back (S : Tr) (L : Lo) (h : jX S) : D (f_X8_back S L) (fun q => jX (q.2.1) ∧ aW S (q.2.1)) := D_mono (R_back S L h.1) (fun q hq => ⟨⟨hq.1, wK_S (fun j => hq.2 4 j rfl) h.2⟩, hq.2⟩)
theorem Q_count (S : Tr) (x1 : Int32) (h : jX S) : D (f_X8_count S x1) (fun q => jX (q.2) ∧ aW S (q.2)) := D_mono (t_X8_count S x1 h.1.1 h.1.2.1 h.1.2.2.1) (fun q hq => ⟨⟨jR_T h.1 hq.1 hq.2.1, wK_S (fun j => hq.2.1 4 j rfl) h.2⟩, aW_T hq.2.1⟩)
theorem Q_text (S : Tr) (L : Lo) (x1 : Int32) (h : jX S) : D (f_X8_text S L x1) (fun q => jX q.2.1 ∧ (0 ≤ x1.toInt ∧ x1.toInt ≤ (S 0 1).toInt → q.2.1 0 1 = 0) ∧ (¬ (0 ≤ x1.toInt ∧ x1.toInt ≤ (S 0 1).toInt) → q.2.1 0 1 = S 0 1) ∧ ∀ j, q.2.1 4 j = S 4 j) := R_text S L x1 h
theorem Q_feed (S : Tr) (x1 x2 x3 x4 x5 : Int32) (h : jX S) : D (f_X8_feed S x1 x2 x3 x4 x5) (fun q => jX q.2 ∧ ((S 0 1).toInt + 20 ≤ 700 → q.1 = q.2 0 1 ∧ (q.2 0 1).toInt = (S 0 1).toInt + 20) ∧ (¬ (S 0 1).toInt + 20 ≤ 700 → q.1 = -1 ∧ q.2 0 1 = S 0 1) ∧ ∀ j, q.2 4 j = S 4 j) := R_feed S x1 x2 x3 x4 x5 h
theorem kpS_W {S S1 : Tr} (h : aW S S1) : kpS S S1 := ⟨h 0 1 rfl, fun j => h 1 j rfl, fun j => h 4 j rfl⟩
theorem flR_W {R S S1 : Tr} (h : flR R S) (a : aW S S1) : flR R S1 := ⟨by rw [a 0 4 rfl]; exact h.1, by rw [a 0 5 rfl]; exact h.2⟩
/-- the stop, the image -/
def sR (X Tn Ti S : Tr) : Prop := Tn 0 0 = S 62 0 ∧ (X 0 4 = 0 ↔ S 0 84 = 0) ∧ (¬ X 0 4 = 0 → Ti 0 0 = S 0 89)
theorem sR_f {X Tn Ti S S1 : Tr} (h : sR X Tn Ti S) (f : zf S S1) : sR X Tn Ti S1 := by
  have a := z62 f
  have b := f 0 84 (Or.inr (Or.inr ⟨rfl, by omega⟩))
  have c := f 0 89 (Or.inr (Or.inr ⟨rfl, by omega⟩))
  exact ⟨h.1.trans a.symm, by rw [b]; exact h.2.1, fun q => (h.2.2 q).trans c.symm⟩
theorem sR_T {X Tn Ti Tn1 S : Tr} (h : sR X Tn Ti S) (f : tz Tn Tn1) : sR X Tn1 Ti S := ⟨f.trans h.1, h.2⟩
theorem sR_X {X X1 Tn Ti S : Tr} (h : sR X Tn Ti S) (f : xz X X1) : sR X1 Tn Ti S := by
  unfold xz at f
  exact ⟨h.1, by rw [f]; exact h.2.1, fun q => h.2.2 (by rw [← f]; exact q)⟩
theorem sR_F {X Tn Ti S S1 : Tr} (h : sR X Tn Ti S) (a : kFT S S1) : sR X Tn Ti S1 := sR_f h (fun c j q => a c j (by
  rcases q with rfl | ⟨rfl, rfl⟩ | ⟨rfl, rfl | rfl | rfl | rfl⟩ <;> rfl) (by rcases q with rfl | ⟨rfl, rfl⟩ | ⟨rfl, rfl | rfl | rfl | rfl⟩ <;> omega))
theorem e_bgn (pa : Nat → Nat) (T P : Tr) (q : Nat) : Ep (f_X6_begin pa T P q) (fun r => r.1 0 0 = 0) := by
  unfold f_X6_begin
  refine Ep_lt (fun T1 e1 => Ep_lt (fun T2 e2 => Ep_lt (fun T3 e3 => Ep_lt (fun T4 e4 => Ep_lt (fun T5 e5 => ?_)))))
  refine Ep_mono (tzL_X6_begin_L41 pa P (pa 0) 0 T5 (T0 := T5) rfl) (fun r hr => ?_)
  have hr : r.1 0 0 = T5 0 0 := hr
  rw [hr, e5, st_ne (by decide), e4, st_ne (by decide), e3, st_ne (by decide), e2, st_ne (by decide), e1, st_same]
theorem sR_g {X Tn Ti S S1 : Tr} (h : sR X Tn Ti S) (f : sg S S1) : sR X Tn Ti S1 := by
  have a := f 62 0 (Or.inl ⟨rfl, rfl⟩)
  have b := f 0 84 (Or.inr ⟨rfl, by omega⟩)
  have c := f 0 89 (Or.inr ⟨rfl, by omega⟩)
  exact ⟨h.1.trans a.symm, by rw [b]; exact h.2.1, fun q => (h.2.2 q).trans c.symm⟩
theorem zR_Z {Z Z1 S : Tr} (h : zR Z S) (f : zy Z Z1) : zR Z1 S := by
  refine ⟨(f 0 0 (Or.inl ⟨rfl, by omega⟩)).trans h.1, (f 0 1 (Or.inl ⟨rfl, by omega⟩)).trans h.2.1, fun k hk => ?_⟩
  rw [f 3 k (by omega), f 4 k (by omega), f 5 k (by omega), f 6 k (by omega)]
  exact h.2.2 k hk
theorem zk_g {S S1 : Tr} (h : zg S S1) : zk S S1 := fun a j q => h a j (by
  rcases q with q | ⟨q, r⟩
  · exact Or.inl q
  · exact Or.inr (Or.inr ⟨q, by omega⟩)) (by omega)
def REL (X : Tr) (K : Tr) (R : Tr) (P : Tr) (L : Lo) (P2 : Tr) (L2 : Lo) (Tn : Tr) (Ti : Tr) (Tu : Tr) (Tv : Tr) (C : Tr) (Z : Tr) (q0 : Nat) (q1 : Nat) (q2 : Nat) (q3 : Nat) (q4 : Nat) (q5 : Nat) (S : Tr) (LM : Lo) : Prop := relT K S ∧ flR R S ∧ nmR P S ∧ zR Z S ∧ sR X Tn Ti S
theorem E_feed {pa : Nat → Nat} {qa : Nat → Nat} {X : Tr} {K : Tr} {R : Tr} {P : Tr} {L : Lo} {P2 : Tr} {L2 : Lo} {Tn : Tr} {Ti : Tr} {Tu : Tr} {Tv : Tr} {C : Tr} {Z : Tr} {q0 : Nat} {q1 : Nat} {q2 : Nat} {q3 : Nat} {q4 : Nat} {q5 : Nat} {S : Tr} {LM : Lo} {w1 : Int32} {w2 : Int32} {w3 : Int32} {w4 : Int32} {w5 : Int32} {r0 : Int32} {K' : Tr} {r1 : Int32} {S' : Tr} (hok : xOK pa qa X K R P P2 Tn Ti Tu Tv C Z q0 q1 q4 q5) (jx : jX S) (h : REL X K R P L P2 L2 Tn Ti Tu Tv C Z q0 q1 q2 q3 q4 q5 S LM) (hcx : f_X7_feed pa qa K w1 w2 w3 w4 w5 = some (r0, K')) (hcm : f_X8_feed S w1 w2 w3 w4 w5 = some (r1, S')) : REL X (K') R P L P2 L2 Tn Ti Tu Tv C Z q0 q1 q2 q3 q4 q5 S' LM := by
  have c := e_feed pa qa K w1 w2 w3 w4 w5 (hok.2.1 0 0) _ hcx
  have d := D_to (Q_feed S w1 w2 w3 w4 w5 jx) _ hcm
  have zf9 := zf_X8_feed S w1 w2 w3 w4 w5 zf_r _ hcm
  exact ⟨lw_feed3 (hok.2.1 0 0) h.1 c d.2 hcx hcm, (fun k => ⟨h.2.1.1.trans k.1.symm, h.2.1.2.trans k.2.symm⟩ : fk S S' → flR R S') (fz_X8_feed S w1 w2 w3 w4 w5 fk_r _ hcm), nm_f h.2.2.1 jx.1.1 (kb_X8_feed S w1 w2 w3 w4 w5 kfT_r _ hcm), zR_f h.2.2.2.1 (zk_f zf9), sR_f h.2.2.2.2 zf9⟩
theorem E_text {pa : Nat → Nat} {qa : Nat → Nat} {X : Tr} {K : Tr} {R : Tr} {P : Tr} {L : Lo} {P2 : Tr} {L2 : Lo} {Tn : Tr} {Ti : Tr} {Tu : Tr} {Tv : Tr} {C : Tr} {Z : Tr} {q0 : Nat} {q1 : Nat} {q2 : Nat} {q3 : Nat} {q4 : Nat} {q5 : Nat} {S : Tr} {LM : Lo} {w1 : Int32} {r0 : Int32} {X' : Tr} {K' : Tr} {R' : Tr} {P2' : Tr} {Tn' : Tr} {C' : Tr} {Z' : Tr} {q0' : Nat} {q4' : Nat} {q5' : Nat} {r1 : Int32} {S' : Tr} {LM' : Lo} (hok : xOK pa qa X K R P P2 Tn Ti Tu Tv C Z q0 q1 q4 q5) (jx : jX S) (h : REL X K R P L P2 L2 Tn Ti Tu Tv C Z q0 q1 q2 q3 q4 q5 S LM) (hcx : f_X7_text pa qa X K R P2 Tn C Z q0 q4 q5 w1 = some (r0, X', K', R', P2', Tn', C', Z', q0', q4', q5')) (hcm : f_X8_text S LM w1 = some (r1, S', LM')) : (q0' = q0 ∧ q4' = q4 ∧ q5' = qa 0 ∧ X' = X ∧ REL (X') (K') (R') P L (P2') L2 (Tn') Ti Tu Tv (C') (Z') (q0') q1 q2 q3 (q4') (q5') S' LM') ∨ (q0' = qa 0 ∧ q4' = qa 0 ∧ q5' = q4 ∧ X' 0 4 = 0 ∧ REL (X') (K') (R') (P2') L2 P L (Tn') Ti Tu Tv (C') (Z') (q0') q1 q2 q3 (q4') (q5') S' LM') := by
  have hb := hok.2.1 0 0
  have a := e_X7text pa qa X K R P2 Tn C Z S LM q0 q4 q5 w1 h.1 hb _ _ hcx hcm
  have f := e_flt pa qa X K R P2 Tn C Z S LM q0 q4 q5 w1 h.1 hb h.2.1 _ _ hcx hcm
  have n := e_nmt pa qa X K R P2 Tn C Z S LM q0 q4 q5 w1 h.1 hb hok.2.2.2.2.2.2.2.2.2.2.2.2.2.2.1 _ _ hcx hcm
  have d := D_to (Q_text S LM w1 jx) _ hcm
  have x := D_to (R_text2 S LM w1 jx) _ hcm
  have c := D_to (t_X7_text pa qa X K R P2 Tn C Z q0 q4 q5 w1 hok.1 hok.2.1 hok.2.2.1 hok.2.2.2.2.1 hok.2.2.2.2.2.1 hok.2.2.2.2.2.2.2.2.2.1 hok.2.2.2.2.2.2.2.2.2.2.1 hok.2.2.2.2.2.2.2.2.2.2.2.1 hok.2.2.2.2.2.2.2.2.2.2.2.2.1 hok.2.2.2.2.2.2.2.2.2.2.2.2.2.1 hok.2.2.2.2.2.2.2.2.2.2.2.2.2.2.1) _ hcx
  have hr : relT K' S' ∧ flR R' S' := by
    refine ⟨⟨⟨lw_text h.1.1.1 c.2.2.2.2.2.2.2.2.2 ⟨d.2.1, d.2.2.1⟩, fun j hj => ?_⟩, a.2.1, fun j hj => (d.2.2.2 j).trans (h.1.2.2 j hj)⟩, f⟩
    rcases a.2.2 with e | ⟨e1, e2⟩
    · have e : K' 0 0 = 0 := e
      rw [e, show (0 : Int32).toInt = 0 by decide] at hj; omega
    · have e1 : K' = K := e1
      have e2 : S' 1 = S 1 := e2
      rw [e1] at hj ⊢; rw [e2]; exact h.1.1.2 j hj
  rcases n with ⟨n1, u1, u2, u3, u4, ut, _, uz⟩ | ⟨n1, u2, u3, u4, _, uf, ub, T9, uk, ud⟩
  · rcases x with ⟨_, x1, _⟩ | ⟨x0, _⟩
    · have uz : Z' = Z := uz
      have ut : Tn' = Tn := ut
      have u4' : X' = X := u4
      exact Or.inl ⟨u1, u2, u3, u4, hr.1, hr.2, nm_T h.2.2.1 jx.1.1 x1, by rw [uz]; exact zR_T h.2.2.2.1 x1, by rw [ut, u4']; exact sR_F h.2.2.2.2 x1⟩
    · exact absurd n1 (Int.not_lt.mpr x0)
  · have kz := k_kz T9 LM _ uk
    have kz84 : S' 0 84 = 0 := kz.2.2.2
    have x4 : X' 0 4 = 0 := by
      have u4 : X' = st X 0 4 0 := u4
      rw [u4, st_same]
    have t0 : Tn' 0 0 = 0 := e_bgn qa Tn P2' q0 _ ub
    have s0 : S' 62 0 = 0 := k_k62 T9 LM _ uk
    refine Or.inr ⟨(D_to (t_X6_begin qa Tn P2' q0 hok.2.2.2.2.2.1 c.2.2.2.1) _ ub).2.2, u2, u3, x4, hr.1, hr.2, nm_KT ud (k_keepText T9 LM _ uk), zR_0 (k_fo pa qa Z _ uf).1 (k_fo pa qa Z _ uf).2 kz, t0.trans s0.symm, ⟨fun _ => kz84, fun _ => x4⟩, fun g => absurd x4 g⟩
theorem E_fault {pa : Nat → Nat} {qa : Nat → Nat} {X : Tr} {K : Tr} {R : Tr} {P : Tr} {L : Lo} {P2 : Tr} {L2 : Lo} {Tn : Tr} {Ti : Tr} {Tu : Tr} {Tv : Tr} {C : Tr} {Z : Tr} {q0 : Nat} {q1 : Nat} {q2 : Nat} {q3 : Nat} {q4 : Nat} {q5 : Nat} {S : Tr} {LM : Lo} {w1 : Int32} {r0 : Int32} {r1 : Int32} {S' : Tr} (hok : xOK pa qa X K R P P2 Tn Ti Tu Tv C Z q0 q1 q4 q5) (jx : jX S) (h : REL X K R P L P2 L2 Tn Ti Tu Tv C Z q0 q1 q2 q3 q4 q5 S LM) (hcx : f_X7_fault pa qa R w1 = some r0) (hcm : f_X8_fault S w1 = some (r1, S')) : REL X K R P L P2 L2 Tn Ti Tu Tv C Z q0 q1 q2 q3 q4 q5 S' LM := by
  have k := (D_to (Q_fault S w1 jx) _ hcm).2
  have zf9 := zf_T (D_to (t_X8_fault S w1 jx.1.1 jx.1.2.1 jx.1.2.2.1) _ hcm).2.1
  exact ⟨relT_S h.1 (kpS_W k), flR_W h.2.1 k, nm_W h.2.2.1 jx.1.1 k, zR_f h.2.2.2.1 (zk_f zf9), sR_f h.2.2.2.2 zf9⟩
theorem E_named {pa : Nat → Nat} {qa : Nat → Nat} {X : Tr} {K : Tr} {R : Tr} {P : Tr} {L : Lo} {P2 : Tr} {L2 : Lo} {Tn : Tr} {Ti : Tr} {Tu : Tr} {Tv : Tr} {C : Tr} {Z : Tr} {q0 : Nat} {q1 : Nat} {q2 : Nat} {q3 : Nat} {q4 : Nat} {q5 : Nat} {S : Tr} {LM : Lo} {w1 : Int32} {r0 : Int32} {r1 : Int32} {S' : Tr} (hok : xOK pa qa X K R P P2 Tn Ti Tu Tv C Z q0 q1 q4 q5) (jx : jX S) (h : REL X K R P L P2 L2 Tn Ti Tu Tv C Z q0 q1 q2 q3 q4 q5 S LM) (hcx : f_X7_named pa qa P q4 w1 = some r0) (hcm : f_X8_named S w1 = some (r1, S')) : REL X K R P L P2 L2 Tn Ti Tu Tv C Z q0 q1 q2 q3 q4 q5 S' LM := by
  have k := (D_to (Q_named S w1 jx) _ hcm).2
  have zf9 := zf_T (D_to (t_X8_named S w1 jx.1.1 jx.1.2.1 jx.1.2.2.1) _ hcm).2.1
  exact ⟨relT_S h.1 (kpS_W k), flR_W h.2.1 k, nm_W h.2.2.1 jx.1.1 k, zR_f h.2.2.2.1 (zk_f zf9), sR_f h.2.2.2.2 zf9⟩
theorem E_person {pa : Nat → Nat} {qa : Nat → Nat} {X : Tr} {K : Tr} {R : Tr} {P : Tr} {L : Lo} {P2 : Tr} {L2 : Lo} {Tn : Tr} {Ti : Tr} {Tu : Tr} {Tv : Tr} {C : Tr} {Z : Tr} {q0 : Nat} {q1 : Nat} {q2 : Nat} {q3 : Nat} {q4 : Nat} {q5 : Nat} {S : Tr} {LM : Lo} {w1 w2 r1 : Int32} {S' : Tr} (hok : xOK pa qa X K R P P2 Tn Ti Tu Tv C Z q0 q1 q4 q5) (jx : jX S) (h : REL X K R P L P2 L2 Tn Ti Tu Tv C Z q0 q1 q2 q3 q4 q5 S LM) (hcm : f_X8_person S w1 w2 = some (r1, S')) : REL X K R P L P2 L2 Tn Ti Tu Tv C Z q0 q1 q2 q3 q4 q5 S' LM := by
  have k := (D_to (Q_person S w1 w2 jx) _ hcm).2
  have zf9 := zf_T (D_to (t_X8_person S w1 w2 jx.1.1 jx.1.2.1 jx.1.2.2.1) _ hcm).2.1
  exact ⟨relT_S h.1 (kpS_W k), flR_W h.2.1 k, nm_W h.2.2.1 jx.1.1 k, zR_f h.2.2.2.1 (zk_f zf9), sR_f h.2.2.2.2 zf9⟩
theorem E_piece {pa : Nat → Nat} {qa : Nat → Nat} {X : Tr} {K : Tr} {R : Tr} {P : Tr} {L : Lo} {P2 : Tr} {L2 : Lo} {Tn : Tr} {Ti : Tr} {Tu : Tr} {Tv : Tr} {C : Tr} {Z : Tr} {q0 : Nat} {q1 : Nat} {q2 : Nat} {q3 : Nat} {q4 : Nat} {q5 : Nat} {S : Tr} {LM : Lo} {w1 : Int32} {w2 : Int32} {r0 : Int32} {r1 : Int32} {S' : Tr} (hok : xOK pa qa X K R P P2 Tn Ti Tu Tv C Z q0 q1 q4 q5) (jx : jX S) (h : REL X K R P L P2 L2 Tn Ti Tu Tv C Z q0 q1 q2 q3 q4 q5 S LM) (hcx : f_X7_piece pa qa P Tn q0 q4 w1 w2 = some r0) (hcm : f_X8_piece S w1 w2 = some (r1, S')) : REL X K R P L P2 L2 Tn Ti Tu Tv C Z q0 q1 q2 q3 q4 q5 S' LM := by
  have k := (D_to (Q_piece S w1 w2 jx) _ hcm).2
  have zf9 := zf_T (D_to (t_X8_piece S w1 w2 jx.1.1 jx.1.2.1 jx.1.2.2.1) _ hcm).2.1
  exact ⟨relT_S h.1 (kpS_W k), flR_W h.2.1 k, nm_W h.2.2.1 jx.1.1 k, zR_f h.2.2.2.1 (zk_f zf9), sR_f h.2.2.2.2 zf9⟩
theorem E_place {pa : Nat → Nat} {qa : Nat → Nat} {X : Tr} {K : Tr} {R : Tr} {P : Tr} {L : Lo} {P2 : Tr} {L2 : Lo} {Tn : Tr} {Ti : Tr} {Tu : Tr} {Tv : Tr} {C : Tr} {Z : Tr} {q0 : Nat} {q1 : Nat} {q2 : Nat} {q3 : Nat} {q4 : Nat} {q5 : Nat} {S : Tr} {LM : Lo} {w1 : Int32} {w2 : Int32} {r0 : Int32} {r1 : Int32} {S' : Tr} (hok : xOK pa qa X K R P P2 Tn Ti Tu Tv C Z q0 q1 q4 q5) (jx : jX S) (h : REL X K R P L P2 L2 Tn Ti Tu Tv C Z q0 q1 q2 q3 q4 q5 S LM) (hcx : f_X7_place pa qa P Tn q0 q4 w1 w2 = some r0) (hcm : f_X8_place S w1 w2 = some (r1, S')) : REL X K R P L P2 L2 Tn Ti Tu Tv C Z q0 q1 q2 q3 q4 q5 S' LM := by
  have k := (D_to (Q_place S w1 w2 jx) _ hcm).2
  have zf9 := zf_T (D_to (t_X8_place S w1 w2 jx.1.1 jx.1.2.1 jx.1.2.2.1) _ hcm).2.1
  exact ⟨relT_S h.1 (kpS_W k), flR_W h.2.1 k, nm_W h.2.2.1 jx.1.1 k, zR_f h.2.2.2.1 (zk_f zf9), sR_f h.2.2.2.2 zf9⟩
theorem E_waits {pa : Nat → Nat} {qa : Nat → Nat} {X : Tr} {K : Tr} {R : Tr} {P : Tr} {L : Lo} {P2 : Tr} {L2 : Lo} {Tn : Tr} {Ti : Tr} {Tu : Tr} {Tv : Tr} {C : Tr} {Z : Tr} {q0 : Nat} {q1 : Nat} {q2 : Nat} {q3 : Nat} {q4 : Nat} {q5 : Nat} {S : Tr} {LM : Lo} {w1 : Int32} {r0 : Int32} {r1 : Int32} {S' : Tr} (hok : xOK pa qa X K R P P2 Tn Ti Tu Tv C Z q0 q1 q4 q5) (jx : jX S) (h : REL X K R P L P2 L2 Tn Ti Tu Tv C Z q0 q1 q2 q3 q4 q5 S LM) (hcx : f_X7_waits pa qa P q4 w1 = some r0) (hcm : f_X8_waits S w1 = some (r1, S')) : REL X K R P L P2 L2 Tn Ti Tu Tv C Z q0 q1 q2 q3 q4 q5 S' LM := by
  have k := (D_to (Q_waits S w1 jx) _ hcm).2
  have zf9 := zf_T (D_to (t_X8_waits S w1 jx.1.1 jx.1.2.1 jx.1.2.2.1) _ hcm).2.1
  exact ⟨relT_S h.1 (kpS_W k), flR_W h.2.1 k, nm_W h.2.2.1 jx.1.1 k, zR_f h.2.2.2.1 (zk_f zf9), sR_f h.2.2.2.2 zf9⟩
theorem E_law {pa : Nat → Nat} {qa : Nat → Nat} {X : Tr} {K : Tr} {R : Tr} {P : Tr} {L : Lo} {P2 : Tr} {L2 : Lo} {Tn : Tr} {Ti : Tr} {Tu : Tr} {Tv : Tr} {C : Tr} {Z : Tr} {q0 : Nat} {q1 : Nat} {q2 : Nat} {q3 : Nat} {q4 : Nat} {q5 : Nat} {S : Tr} {LM : Lo} {w1 : Int32} {w2 : Int32} {r0 : Int64} {L' : Lo} {Tn' : Tr} {r1 : Int64} {S' : Tr} {LM' : Lo} (hok : xOK pa qa X K R P P2 Tn Ti Tu Tv C Z q0 q1 q4 q5) (jx : jX S) (h : REL X K R P L P2 L2 Tn Ti Tu Tv C Z q0 q1 q2 q3 q4 q5 S LM) (hcx : f_X7_law pa qa P L Tn q0 q4 w1 w2 = some (r0, L', Tn')) (hcm : f_X8_law S LM w1 w2 = some (r1, S', LM')) : REL X K R P (L') P2 L2 (Tn') Ti Tu Tv C Z q0 q1 q2 q3 q4 q5 S' LM' := by
  have k := (D_to (Q_law S LM w1 w2 jx) _ hcm).2
  have zf9 := zf_T (D_to (t_X8_law S LM w1 w2 jx.1.1 jx.1.2.1 jx.1.2.2.1) _ hcm).2.1
  exact ⟨relT_S h.1 (kpS_W k), flR_W h.2.1 k, nm_W h.2.2.1 jx.1.1 k, zR_f h.2.2.2.1 (zk_f zf9), sR_T (sR_f h.2.2.2.2 zf9) (tw_X7_law pa qa P L Tn q0 q4 w1 w2 tz_r _ hcx)⟩
theorem E_move {pa : Nat → Nat} {qa : Nat → Nat} {X : Tr} {K : Tr} {R : Tr} {P : Tr} {L : Lo} {P2 : Tr} {L2 : Lo} {Tn : Tr} {Ti : Tr} {Tu : Tr} {Tv : Tr} {C : Tr} {Z : Tr} {q0 : Nat} {q1 : Nat} {q2 : Nat} {q3 : Nat} {q4 : Nat} {q5 : Nat} {S : Tr} {LM : Lo} {w1 : Int32} {w2 : Int32} {r0 : Int32} {Tn' : Tr} {C' : Tr} {r1 : Int32} {S' : Tr} (hok : xOK pa qa X K R P P2 Tn Ti Tu Tv C Z q0 q1 q4 q5) (jx : jX S) (h : REL X K R P L P2 L2 Tn Ti Tu Tv C Z q0 q1 q2 q3 q4 q5 S LM) (hcx : f_X7_move pa qa P Tn C q0 q4 w1 w2 = some (r0, Tn', C')) (hcm : f_X8_move S w1 w2 = some (r1, S')) : REL X K R P L P2 L2 (Tn') Ti Tu Tv (C') Z q0 q1 q2 q3 q4 q5 S' LM := by
  have k := (D_to (Q_move S w1 w2 jx) _ hcm).2
  have zf9 := zf_X8_move S w1 w2 zf_r _ hcm
  exact ⟨relT_S h.1 (kpS_W k), flR_W h.2.1 k, nm_W h.2.2.1 jx.1.1 k, zR_f h.2.2.2.1 (zk_f zf9), sR_T (sR_f h.2.2.2.2 zf9) (tw_X7_move pa qa P Tn C q0 q4 w1 w2 tz_r _ hcx)⟩
theorem E_turn {pa : Nat → Nat} {qa : Nat → Nat} {X : Tr} {K : Tr} {R : Tr} {P : Tr} {L : Lo} {P2 : Tr} {L2 : Lo} {Tn : Tr} {Ti : Tr} {Tu : Tr} {Tv : Tr} {C : Tr} {Z : Tr} {q0 : Nat} {q1 : Nat} {q2 : Nat} {q3 : Nat} {q4 : Nat} {q5 : Nat} {S : Tr} {LM : Lo} {w1 : Int32} {r0 : Int32} {Tn' : Tr} {Tv' : Tr} {C' : Tr} {q3' : Nat} {r1 : Int32} {S' : Tr} (hok : xOK pa qa X K R P P2 Tn Ti Tu Tv C Z q0 q1 q4 q5) (jx : jX S) (h : REL X K R P L P2 L2 Tn Ti Tu Tv C Z q0 q1 q2 q3 q4 q5 S LM) (hcx : f_X7_turn pa qa P Tn Tv C q0 q3 q4 w1 = some (r0, Tn', Tv', C', q3')) (hcm : f_X8_turn S w1 = some (r1, S')) : REL X K R P L P2 L2 (Tn') Ti Tu (Tv') (C') Z q0 q1 q2 (q3') q4 q5 S' LM := by
  have k := (D_to (Q_turn S w1 jx) _ hcm).2
  have zf9 := zf_X8_turn S w1 zf_r _ hcm
  exact ⟨relT_S h.1 (kpS_W k), flR_W h.2.1 k, nm_W h.2.2.1 jx.1.1 k, zR_f h.2.2.2.1 (zk_f zf9), sR_T (sR_f h.2.2.2.2 zf9) (tw_X7_turn pa qa P Tn Tv C q0 q3 q4 w1 tz_r _ hcx)⟩
theorem E_help {pa : Nat → Nat} {qa : Nat → Nat} {X : Tr} {K : Tr} {R : Tr} {P : Tr} {L : Lo} {P2 : Tr} {L2 : Lo} {Tn : Tr} {Ti : Tr} {Tu : Tr} {Tv : Tr} {C : Tr} {Z : Tr} {q0 : Nat} {q1 : Nat} {q2 : Nat} {q3 : Nat} {q4 : Nat} {q5 : Nat} {S : Tr} {LM : Lo} {w1 : Int32} {w2 : Int32} {r0 : Int32} {Tn' : Tr} {C' : Tr} {r1 : Int32} {S' : Tr} (hok : xOK pa qa X K R P P2 Tn Ti Tu Tv C Z q0 q1 q4 q5) (jx : jX S) (h : REL X K R P L P2 L2 Tn Ti Tu Tv C Z q0 q1 q2 q3 q4 q5 S LM) (hcx : f_X7_help pa qa P Tn C q4 w1 w2 = some (r0, Tn', C')) (hcm : f_X8_help S w1 w2 = some (r1, S')) : REL X K R P L P2 L2 (Tn') Ti Tu Tv (C') Z q0 q1 q2 q3 q4 q5 S' LM := by
  have k := (D_to (Q_help S w1 w2 jx) _ hcm).2
  have zf9 := zf_X8_help S w1 w2 zf_r _ hcm
  exact ⟨relT_S h.1 (kpS_W k), flR_W h.2.1 k, nm_W h.2.2.1 jx.1.1 k, zR_f h.2.2.2.1 (zk_f zf9), sR_T (sR_f h.2.2.2.2 zf9) (tw_X7_help pa qa P Tn C q4 w1 w2 tz_r _ hcx)⟩
theorem E_go {pa : Nat → Nat} {qa : Nat → Nat} {X : Tr} {K : Tr} {R : Tr} {P : Tr} {L : Lo} {P2 : Tr} {L2 : Lo} {Tn : Tr} {Ti : Tr} {Tu : Tr} {Tv : Tr} {C : Tr} {Z : Tr} {q0 : Nat} {q1 : Nat} {q2 : Nat} {q3 : Nat} {q4 : Nat} {q5 : Nat} {S : Tr} {LM : Lo} {w1 : Int32} {r0 : Int32} {L' : Lo} {Tn' : Tr} {C' : Tr} {r1 : Int32} {S' : Tr} {LM' : Lo} (hok : xOK pa qa X K R P P2 Tn Ti Tu Tv C Z q0 q1 q4 q5) (jx : jX S) (h : REL X K R P L P2 L2 Tn Ti Tu Tv C Z q0 q1 q2 q3 q4 q5 S LM) (hcx : f_X7_go pa qa P L Tn C q0 w1 = some (r0, L', Tn', C')) (hcm : f_X8_go S LM w1 = some (r1, S', LM')) : REL X K R P (L') P2 L2 (Tn') Ti Tu Tv (C') Z q0 q1 q2 q3 q4 q5 S' LM' := by
  have k := (D_to (Q_go S LM w1 jx) _ hcm).2
  obtain ⟨g1, g2, g3⟩ := e_go pa qa P L Tn C q0 S LM w1 h.2.2.2.2.1 jx.1.1 _ _ hcx hcm
  exact ⟨relT_S h.1 (kpS_W k), flR_W h.2.1 k, nm_W h.2.2.1 jx.1.1 k, zR_f h.2.2.2.1 (zk_g g3), g2, by rw [show S' 0 84 = S 0 84 from g3 0 84 (Or.inr (Or.inr ⟨rfl, by omega⟩)) (by omega)]; exact h.2.2.2.2.2.1, fun q => (h.2.2.2.2.2.2 q).trans (show S' 0 89 = S 0 89 from g3 0 89 (Or.inr (Or.inr ⟨rfl, by omega⟩)) (by omega)).symm⟩
theorem E_least {pa : Nat → Nat} {qa : Nat → Nat} {X : Tr} {K : Tr} {R : Tr} {P : Tr} {L : Lo} {P2 : Tr} {L2 : Lo} {Tn : Tr} {Ti : Tr} {Tu : Tr} {Tv : Tr} {C : Tr} {Z : Tr} {q0 : Nat} {q1 : Nat} {q2 : Nat} {q3 : Nat} {q4 : Nat} {q5 : Nat} {S : Tr} {LM : Lo} {w1 : Int32} {r0 : Int32} {X' : Tr} {L' : Lo} {Tu' : Tr} {Tv' : Tr} {q2' : Nat} {q3' : Nat} {r1 : Int32} {S' : Tr} {LM' : Lo} (hok : xOK pa qa X K R P P2 Tn Ti Tu Tv C Z q0 q1 q4 q5) (jx : jX S) (h : REL X K R P L P2 L2 Tn Ti Tu Tv C Z q0 q1 q2 q3 q4 q5 S LM) (hcx : f_X7_least pa qa X P L Tn Tu Tv q0 q2 q3 q4 w1 = some (r0, X', L', Tu', Tv', q2', q3')) (hcm : f_X8_least S LM w1 = some (r1, S', LM')) : REL (X') K R P (L') P2 L2 Tn Ti (Tu') (Tv') C Z q0 q1 (q2') (q3') q4 q5 S' LM' := by
  have k := (D_to (Q_least S LM w1 jx) _ hcm).2
  have zf9 := zf_G (D_to (t_X8_least S LM w1 jx.1.1 jx.1.2.1 jx.1.2.2.1) _ hcm).2.1
  exact ⟨relT_S h.1 (kpS_W k), flR_W h.2.1 k, nm_W h.2.2.1 jx.1.1 k, zR_f h.2.2.2.1 (zk_f zf9), sR_X (sR_f h.2.2.2.2 zf9) (xz_X7_least pa qa X P L Tn Tu Tv q0 q2 q3 q4 w1 (rfl : xz X X) _ hcx)⟩
theorem E_mine {pa : Nat → Nat} {qa : Nat → Nat} {X : Tr} {K : Tr} {R : Tr} {P : Tr} {L : Lo} {P2 : Tr} {L2 : Lo} {Tn : Tr} {Ti : Tr} {Tu : Tr} {Tv : Tr} {C : Tr} {Z : Tr} {q0 : Nat} {q1 : Nat} {q2 : Nat} {q3 : Nat} {q4 : Nat} {q5 : Nat} {S : Tr} {LM : Lo} {w1 : Int32} {w2 : Int32} {r0 : Int32} {L' : Lo} {Tu' : Tr} {q2' : Nat} {r1 : Int32} {S' : Tr} {LM' : Lo} (hok : xOK pa qa X K R P P2 Tn Ti Tu Tv C Z q0 q1 q4 q5) (jx : jX S) (h : REL X K R P L P2 L2 Tn Ti Tu Tv C Z q0 q1 q2 q3 q4 q5 S LM) (hcx : f_X7_mine pa qa P L Tn Tu q0 q2 q4 w1 w2 = some (r0, L', Tu', q2')) (hcm : f_X8_mine S LM w1 w2 = some (r1, S', LM')) : REL X K R P (L') P2 L2 Tn Ti (Tu') Tv C Z q0 q1 (q2') q3 q4 q5 S' LM' := by
  have k := (D_to (Q_mine S LM w1 w2 jx) _ hcm).2
  have zf9 := zf_G (D_to (t_X8_mine S LM w1 w2 jx.1.1 jx.1.2.1 jx.1.2.2.1) _ hcm).2.1
  exact ⟨relT_S h.1 (kpS_W k), flR_W h.2.1 k, nm_W h.2.2.1 jx.1.1 k, zR_f h.2.2.2.1 (zk_f zf9), sR_f h.2.2.2.2 zf9⟩
theorem E_when {pa : Nat → Nat} {qa : Nat → Nat} {X : Tr} {K : Tr} {R : Tr} {P : Tr} {L : Lo} {P2 : Tr} {L2 : Lo} {Tn : Tr} {Ti : Tr} {Tu : Tr} {Tv : Tr} {C : Tr} {Z : Tr} {q0 : Nat} {q1 : Nat} {q2 : Nat} {q3 : Nat} {q4 : Nat} {q5 : Nat} {S : Tr} {LM : Lo} {w1 : Int32} {w2 : Int32} {r0 : Int32} {L' : Lo} {Tu' : Tr} {Tv' : Tr} {q2' : Nat} {q3' : Nat} {r1 : Int32} {S' : Tr} {LM' : Lo} (hok : xOK pa qa X K R P P2 Tn Ti Tu Tv C Z q0 q1 q4 q5) (jx : jX S) (h : REL X K R P L P2 L2 Tn Ti Tu Tv C Z q0 q1 q2 q3 q4 q5 S LM) (hcx : f_X7_when pa qa P L Tn Tu Tv q0 q2 q3 q4 w1 w2 = some (r0, L', Tu', Tv', q2', q3')) (hcm : f_X8_when S LM w1 w2 = some (r1, S', LM')) : REL X K R P (L') P2 L2 Tn Ti (Tu') (Tv') C Z q0 q1 (q2') (q3') q4 q5 S' LM' := by
  have k := (D_to (Q_when S LM w1 w2 jx) _ hcm).2
  have zf9 := zf_G (D_to (t_X8_when S LM w1 w2 jx.1.1 jx.1.2.1 jx.1.2.2.1) _ hcm).2.1
  exact ⟨relT_S h.1 (kpS_W k), flR_W h.2.1 k, nm_W h.2.2.1 jx.1.1 k, zR_f h.2.2.2.1 (zk_f zf9), sR_f h.2.2.2.2 zf9⟩
theorem E_rests {pa : Nat → Nat} {qa : Nat → Nat} {X : Tr} {K : Tr} {R : Tr} {P : Tr} {L : Lo} {P2 : Tr} {L2 : Lo} {Tn : Tr} {Ti : Tr} {Tu : Tr} {Tv : Tr} {C : Tr} {Z : Tr} {q0 : Nat} {q1 : Nat} {q2 : Nat} {q3 : Nat} {q4 : Nat} {q5 : Nat} {S : Tr} {LM : Lo} {w1 : Int32} {w2 : Int32} {r0 : Int32} {X' : Tr} {L' : Lo} {Tu' : Tr} {q2' : Nat} {r1 : Int32} {S' : Tr} {LM' : Lo} (hok : xOK pa qa X K R P P2 Tn Ti Tu Tv C Z q0 q1 q4 q5) (jx : jX S) (h : REL X K R P L P2 L2 Tn Ti Tu Tv C Z q0 q1 q2 q3 q4 q5 S LM) (hcx : f_X7_rests pa qa X P L Tn Tu q0 q2 q4 w1 w2 = some (r0, X', L', Tu', q2')) (hcm : f_X8_rests S LM w1 w2 = some (r1, S', LM')) : REL (X') K R P (L') P2 L2 Tn Ti (Tu') Tv C Z q0 q1 (q2') q3 q4 q5 S' LM' := by
  have k := (D_to (Q_rests S LM w1 w2 jx) _ hcm).2
  have zf9 := zf_G (D_to (t_X8_rests S LM w1 w2 jx.1.1 jx.1.2.1 jx.1.2.2.1) _ hcm).2.1
  exact ⟨relT_S h.1 (kpS_W k), flR_W h.2.1 k, nm_W h.2.2.1 jx.1.1 k, zR_f h.2.2.2.1 (zk_f zf9), sR_X (sR_f h.2.2.2.2 zf9) (xz_X7_rests pa qa X P L Tn Tu q0 q2 q4 w1 w2 (rfl : xz X X) _ hcx)⟩
theorem E_rest {pa : Nat → Nat} {qa : Nat → Nat} {X : Tr} {K : Tr} {R : Tr} {P : Tr} {L : Lo} {P2 : Tr} {L2 : Lo} {Tn : Tr} {Ti : Tr} {Tu : Tr} {Tv : Tr} {C : Tr} {Z : Tr} {q0 : Nat} {q1 : Nat} {q2 : Nat} {q3 : Nat} {q4 : Nat} {q5 : Nat} {S : Tr} {LM : Lo} {w1 : Int32} {w2 : Int32} {w3 : Int32} {r0 : Int32} {X' : Tr} {L' : Lo} {Tu' : Tr} {q2' : Nat} {r1 : Int32} {S' : Tr} {LM' : Lo} (hok : xOK pa qa X K R P P2 Tn Ti Tu Tv C Z q0 q1 q4 q5) (jx : jX S) (h : REL X K R P L P2 L2 Tn Ti Tu Tv C Z q0 q1 q2 q3 q4 q5 S LM) (hcx : f_X7_rest pa qa X P L Tn Tu q0 q2 q4 w1 w2 w3 = some (r0, X', L', Tu', q2')) (hcm : f_X8_rest S LM w1 w2 w3 = some (r1, S', LM')) : REL (X') K R P (L') P2 L2 Tn Ti (Tu') Tv C Z q0 q1 (q2') q3 q4 q5 S' LM' := by
  have k := (D_to (Q_rest S LM w1 w2 w3 jx) _ hcm).2
  have zf9 := zf_G (D_to (t_X8_rest S LM w1 w2 w3 jx.1.1 jx.1.2.1 jx.1.2.2.1) _ hcm).2.1
  exact ⟨relT_S h.1 (kpS_W k), flR_W h.2.1 k, nm_W h.2.2.1 jx.1.1 k, zR_f h.2.2.2.1 (zk_f zf9), sR_X (sR_f h.2.2.2.2 zf9) (xz_X7_rest pa qa X P L Tn Tu q0 q2 q4 w1 w2 w3 (rfl : xz X X) _ hcx)⟩
theorem E_byRule {pa : Nat → Nat} {qa : Nat → Nat} {X : Tr} {K : Tr} {R : Tr} {P : Tr} {L : Lo} {P2 : Tr} {L2 : Lo} {Tn : Tr} {Ti : Tr} {Tu : Tr} {Tv : Tr} {C : Tr} {Z : Tr} {q0 : Nat} {q1 : Nat} {q2 : Nat} {q3 : Nat} {q4 : Nat} {q5 : Nat} {S : Tr} {LM : Lo} {w1 : Int32} {r0 : Int32} {L' : Lo} {Tu' : Tr} {q2' : Nat} {r1 : Int32} {S' : Tr} {LM' : Lo} (hok : xOK pa qa X K R P P2 Tn Ti Tu Tv C Z q0 q1 q4 q5) (jx : jX S) (h : REL X K R P L P2 L2 Tn Ti Tu Tv C Z q0 q1 q2 q3 q4 q5 S LM) (hcx : f_X7_byRule pa qa P L Tn Tu q0 q2 w1 = some (r0, L', Tu', q2')) (hcm : f_X8_byRule S LM w1 = some (r1, S', LM')) : REL X K R P (L') P2 L2 Tn Ti (Tu') Tv C Z q0 q1 (q2') q3 q4 q5 S' LM' := by
  have k := (D_to (Q_byRule S LM w1 jx) _ hcm).2
  have zf9 := zf_G (D_to (t_X8_byRule S LM w1 jx.1.1 jx.1.2.1 jx.1.2.2.1) _ hcm).2.1
  exact ⟨relT_S h.1 (kpS_W k), flR_W h.2.1 k, nm_W h.2.2.1 jx.1.1 k, zR_f h.2.2.2.1 (zk_f zf9), sR_f h.2.2.2.2 zf9⟩
theorem E_bestRule {pa : Nat → Nat} {qa : Nat → Nat} {X : Tr} {K : Tr} {R : Tr} {P : Tr} {L : Lo} {P2 : Tr} {L2 : Lo} {Tn : Tr} {Ti : Tr} {Tu : Tr} {Tv : Tr} {C : Tr} {Z : Tr} {q0 : Nat} {q1 : Nat} {q2 : Nat} {q3 : Nat} {q4 : Nat} {q5 : Nat} {S : Tr} {LM : Lo}  {r0 : Int32} {L' : Lo} {Tu' : Tr} {q2' : Nat} {r1 : Int32} {S' : Tr} {LM' : Lo} (hok : xOK pa qa X K R P P2 Tn Ti Tu Tv C Z q0 q1 q4 q5) (jx : jX S) (h : REL X K R P L P2 L2 Tn Ti Tu Tv C Z q0 q1 q2 q3 q4 q5 S LM) (hcx : f_X7_bestRule pa qa P L Tn Tu q0 q2 = some (r0, L', Tu', q2')) (hcm : f_X8_bestRule S LM = some (r1, S', LM')) : REL X K R P (L') P2 L2 Tn Ti (Tu') Tv C Z q0 q1 (q2') q3 q4 q5 S' LM' := by
  have k := (D_to (Q_bestRule S LM jx) _ hcm).2
  have zf9 := zf_G (D_to (t_X8_bestRule S LM jx.1.1 jx.1.2.1 jx.1.2.2.1) _ hcm).2.1
  exact ⟨relT_S h.1 (kpS_W k), flR_W h.2.1 k, nm_W h.2.2.1 jx.1.1 k, zR_f h.2.2.2.1 (zk_f zf9), sR_f h.2.2.2.2 zf9⟩
theorem E_missed {pa : Nat → Nat} {qa : Nat → Nat} {X : Tr} {K : Tr} {R : Tr} {P : Tr} {L : Lo} {P2 : Tr} {L2 : Lo} {Tn : Tr} {Ti : Tr} {Tu : Tr} {Tv : Tr} {C : Tr} {Z : Tr} {q0 : Nat} {q1 : Nat} {q2 : Nat} {q3 : Nat} {q4 : Nat} {q5 : Nat} {S : Tr} {LM : Lo} {w1 : Int32} {r0 : Int32} {L' : Lo} {Tu' : Tr} {Tv' : Tr} {q2' : Nat} {q3' : Nat} {r1 : Int32} {S' : Tr} {LM' : Lo} (hok : xOK pa qa X K R P P2 Tn Ti Tu Tv C Z q0 q1 q4 q5) (jx : jX S) (h : REL X K R P L P2 L2 Tn Ti Tu Tv C Z q0 q1 q2 q3 q4 q5 S LM) (hcx : f_X7_missed pa qa P L Tn Tu Tv q0 q2 q3 q4 w1 = some (r0, L', Tu', Tv', q2', q3')) (hcm : f_X8_missed S LM w1 = some (r1, S', LM')) : REL X K R P (L') P2 L2 Tn Ti (Tu') (Tv') C Z q0 q1 (q2') (q3') q4 q5 S' LM' := by
  have k := (D_to (Q_missed S LM w1 jx) _ hcm).2
  have zf9 := zf_G (D_to (t_X8_missed S LM w1 jx.1.1 jx.1.2.1 jx.1.2.2.1) _ hcm).2.1
  exact ⟨relT_S h.1 (kpS_W k), flR_W h.2.1 k, nm_W h.2.2.1 jx.1.1 k, zR_f h.2.2.2.1 (zk_f zf9), sR_f h.2.2.2.2 zf9⟩
theorem E_falls {pa : Nat → Nat} {qa : Nat → Nat} {X : Tr} {K : Tr} {R : Tr} {P : Tr} {L : Lo} {P2 : Tr} {L2 : Lo} {Tn : Tr} {Ti : Tr} {Tu : Tr} {Tv : Tr} {C : Tr} {Z : Tr} {q0 : Nat} {q1 : Nat} {q2 : Nat} {q3 : Nat} {q4 : Nat} {q5 : Nat} {S : Tr} {LM : Lo}  {r0 : Int32} {L' : Lo} {Tu' : Tr} {q2' : Nat} {r1 : Int32} {S' : Tr} {LM' : Lo} (hok : xOK pa qa X K R P P2 Tn Ti Tu Tv C Z q0 q1 q4 q5) (jx : jX S) (h : REL X K R P L P2 L2 Tn Ti Tu Tv C Z q0 q1 q2 q3 q4 q5 S LM) (hcx : f_X7_falls pa qa P L Tn Tu q0 q2 q4 = some (r0, L', Tu', q2')) (hcm : f_X8_falls S LM = some (r1, S', LM')) : REL X K R P (L') P2 L2 Tn Ti (Tu') Tv C Z q0 q1 (q2') q3 q4 q5 S' LM' := by
  have k := (D_to (Q_falls S LM jx) _ hcm).2
  have zf9 := zf_G (D_to (t_X8_falls S LM jx.1.1 jx.1.2.1 jx.1.2.2.1) _ hcm).2.1
  exact ⟨relT_S h.1 (kpS_W k), flR_W h.2.1 k, nm_W h.2.2.1 jx.1.1 k, zR_f h.2.2.2.1 (zk_f zf9), sR_f h.2.2.2.2 zf9⟩
theorem E_asking {pa : Nat → Nat} {qa : Nat → Nat} {X : Tr} {K : Tr} {R : Tr} {P : Tr} {L : Lo} {P2 : Tr} {L2 : Lo} {Tn : Tr} {Ti : Tr} {Tu : Tr} {Tv : Tr} {C : Tr} {Z : Tr} {q0 : Nat} {q1 : Nat} {q2 : Nat} {q3 : Nat} {q4 : Nat} {q5 : Nat} {S : Tr} {LM : Lo}  {r0 : Int32} {L' : Lo} {Tu' : Tr} {q2' : Nat} {r1 : Int32} {S' : Tr} {LM' : Lo} (hok : xOK pa qa X K R P P2 Tn Ti Tu Tv C Z q0 q1 q4 q5) (jx : jX S) (h : REL X K R P L P2 L2 Tn Ti Tu Tv C Z q0 q1 q2 q3 q4 q5 S LM) (hcx : f_X7_asking pa qa P L Tn Tu q0 q2 q4 = some (r0, L', Tu', q2')) (hcm : f_X8_asking S LM = some (r1, S', LM')) : REL X K R P (L') P2 L2 Tn Ti (Tu') Tv C Z q0 q1 (q2') q3 q4 q5 S' LM' := by
  have k := (D_to (Q_asking S LM jx) _ hcm).2
  have zf9 := zf_G (D_to (t_X8_asking S LM jx.1.1 jx.1.2.1 jx.1.2.2.1) _ hcm).2.1
  exact ⟨relT_S h.1 (kpS_W k), flR_W h.2.1 k, nm_W h.2.2.1 jx.1.1 k, zR_f h.2.2.2.1 (zk_f zf9), sR_f h.2.2.2.2 zf9⟩
theorem E_feet {pa : Nat → Nat} {qa : Nat → Nat} {X : Tr} {K : Tr} {R : Tr} {P : Tr} {L : Lo} {P2 : Tr} {L2 : Lo} {Tn : Tr} {Ti : Tr} {Tu : Tr} {Tv : Tr} {C : Tr} {Z : Tr} {q0 : Nat} {q1 : Nat} {q2 : Nat} {q3 : Nat} {q4 : Nat} {q5 : Nat} {S : Tr} {LM : Lo}  {r0 : Int32} {L' : Lo} {Tu' : Tr} {q2' : Nat} {r1 : Int32} {S' : Tr} {LM' : Lo} (hok : xOK pa qa X K R P P2 Tn Ti Tu Tv C Z q0 q1 q4 q5) (jx : jX S) (h : REL X K R P L P2 L2 Tn Ti Tu Tv C Z q0 q1 q2 q3 q4 q5 S LM) (hcx : f_X7_feet pa qa P L Tn Tu q0 q2 q4 = some (r0, L', Tu', q2')) (hcm : f_X8_feet S LM = some (r1, S', LM')) : REL X K R P (L') P2 L2 Tn Ti (Tu') Tv C Z q0 q1 (q2') q3 q4 q5 S' LM' := by
  have k := (D_to (Q_feet S LM jx) _ hcm).2
  have zf9 := zf_G (D_to (t_X8_feet S LM jx.1.1 jx.1.2.1 jx.1.2.2.1) _ hcm).2.1
  exact ⟨relT_S h.1 (kpS_W k), flR_W h.2.1 k, nm_W h.2.2.1 jx.1.1 k, zR_f h.2.2.2.1 (zk_f zf9), sR_f h.2.2.2.2 zf9⟩
theorem E_see {pa : Nat → Nat} {qa : Nat → Nat} {X : Tr} {K : Tr} {R : Tr} {P : Tr} {L : Lo} {P2 : Tr} {L2 : Lo} {Tn : Tr} {Ti : Tr} {Tu : Tr} {Tv : Tr} {C : Tr} {Z : Tr} {q0 : Nat} {q1 : Nat} {q2 : Nat} {q3 : Nat} {q4 : Nat} {q5 : Nat} {S : Tr} {LM : Lo} {w1 : Int32} {w2 : Int32} {w3 : Int32} {w4 : Int32} {r0 : Int32} {Z' : Tr} {r1 : Int32} {S' : Tr} (hok : xOK pa qa X K R P P2 Tn Ti Tu Tv C Z q0 q1 q4 q5) (jx : jX S) (h : REL X K R P L P2 L2 Tn Ti Tu Tv C Z q0 q1 q2 q3 q4 q5 S LM) (hcx : f_X7_see pa qa P Z q4 w1 w2 w3 w4 = some (r0, Z')) (hcm : f_X8_see S w1 w2 w3 w4 = some (r1, S')) : REL X K R P L P2 L2 Tn Ti Tu Tv C (Z') q0 q1 q2 q3 q4 q5 S' LM := by
  have k := (D_to (Q_see S w1 w2 w3 w4 jx) _ hcm).2
  exact ⟨relT_S h.1 (kpS_W k), flR_W h.2.1 k, nm_W h.2.2.1 jx.1.1 k, (e_see pa qa q4 h.2.2.1 h.2.2.2.1 jx.1.1 w1 w2 w3 w4 _ _ hcx hcm).2, sR_g h.2.2.2.2 (sg_X8_see S w1 w2 w3 w4 sg_r _ hcm)⟩
theorem E_strike {pa : Nat → Nat} {qa : Nat → Nat} {X : Tr} {K : Tr} {R : Tr} {P : Tr} {L : Lo} {P2 : Tr} {L2 : Lo} {Tn : Tr} {Ti : Tr} {Tu : Tr} {Tv : Tr} {C : Tr} {Z : Tr} {q0 : Nat} {q1 : Nat} {q2 : Nat} {q3 : Nat} {q4 : Nat} {q5 : Nat} {S : Tr} {LM : Lo} {w1 : Int32} {r0 : Int32} {Z' : Tr} {r1 : Int32} {S' : Tr} (hok : xOK pa qa X K R P P2 Tn Ti Tu Tv C Z q0 q1 q4 q5) (jx : jX S) (h : REL X K R P L P2 L2 Tn Ti Tu Tv C Z q0 q1 q2 q3 q4 q5 S LM) (hcx : f_X7_strike pa qa Z w1 = some (r0, Z')) (hcm : f_X8_strike S w1 = some (r1, S')) : REL X K R P L P2 L2 Tn Ti Tu Tv C (Z') q0 q1 q2 q3 q4 q5 S' LM := by
  have k := (D_to (Q_strike S w1 jx) _ hcm).2
  exact ⟨relT_S h.1 (kpS_W k), flR_W h.2.1 k, nm_W h.2.2.1 jx.1.1 k, (e_strike pa qa h.2.2.2.1 jx.1.1 w1 _ _ hcx hcm).2, sR_g h.2.2.2.2 (sg_X8_strike S w1 sg_r _ hcm)⟩
theorem E_known {pa : Nat → Nat} {qa : Nat → Nat} {X : Tr} {K : Tr} {R : Tr} {P : Tr} {L : Lo} {P2 : Tr} {L2 : Lo} {Tn : Tr} {Ti : Tr} {Tu : Tr} {Tv : Tr} {C : Tr} {Z : Tr} {q0 : Nat} {q1 : Nat} {q2 : Nat} {q3 : Nat} {q4 : Nat} {q5 : Nat} {S : Tr} {LM : Lo} {w1 : Int32} {r0 : Int32} {Z' : Tr} {r1 : Int32} {S' : Tr} (hok : xOK pa qa X K R P P2 Tn Ti Tu Tv C Z q0 q1 q4 q5) (jx : jX S) (h : REL X K R P L P2 L2 Tn Ti Tu Tv C Z q0 q1 q2 q3 q4 q5 S LM) (hcx : f_X7_known pa qa Z w1 = some (r0, Z')) (hcm : f_X8_known S w1 = some (r1, S')) : REL X K R P L P2 L2 Tn Ti Tu Tv C (Z') q0 q1 q2 q3 q4 q5 S' LM := by
  have k := (D_to (Q_known S w1 jx) _ hcm).2
  exact ⟨relT_S h.1 (kpS_W k), flR_W h.2.1 k, nm_W h.2.2.1 jx.1.1 k, (e_known pa qa h.2.2.2.1 w1 _ _ hcx hcm).2, sR_g h.2.2.2.2 (sg_X8_known S w1 sg_r _ hcm)⟩
theorem E_got {pa : Nat → Nat} {qa : Nat → Nat} {X : Tr} {K : Tr} {R : Tr} {P : Tr} {L : Lo} {P2 : Tr} {L2 : Lo} {Tn : Tr} {Ti : Tr} {Tu : Tr} {Tv : Tr} {C : Tr} {Z : Tr} {q0 : Nat} {q1 : Nat} {q2 : Nat} {q3 : Nat} {q4 : Nat} {q5 : Nat} {S : Tr} {LM : Lo} {w1 : Int32} {r0 : Int32} {L' : Lo} {Tu' : Tr} {Z' : Tr} {q2' : Nat} {r1 : Int32} {S' : Tr} {LM' : Lo} (hok : xOK pa qa X K R P P2 Tn Ti Tu Tv C Z q0 q1 q4 q5) (jx : jX S) (h : REL X K R P L P2 L2 Tn Ti Tu Tv C Z q0 q1 q2 q3 q4 q5 S LM) (hcx : f_X7_got pa qa P L Tu Z q2 q4 w1 = some (r0, L', Tu', Z', q2')) (hcm : f_X8_got S LM w1 = some (r1, S', LM')) : REL X K R P (L') P2 L2 Tn Ti (Tu') Tv C (Z') q0 q1 (q2') q3 q4 q5 S' LM' := by
  have k := (D_to (Q_got S LM w1 jx) _ hcm).2
  have zf9 := zf_G (D_to (t_X8_got S LM w1 jx.1.1 jx.1.2.1 jx.1.2.2.1 jx.1.2.2.2.2.2) _ hcm).2.1
  exact ⟨relT_S h.1 (kpS_W k), flR_W h.2.1 k, nm_W h.2.2.1 jx.1.1 k, zR_Z (zR_f h.2.2.2.1 (zk_f zf9)) (zy_X7_got pa qa P L Tu Z q2 q4 w1 zy_r _ hcx), sR_f h.2.2.2.2 zf9⟩
theorem E_chance {pa : Nat → Nat} {qa : Nat → Nat} {X : Tr} {K : Tr} {R : Tr} {P : Tr} {L : Lo} {P2 : Tr} {L2 : Lo} {Tn : Tr} {Ti : Tr} {Tu : Tr} {Tv : Tr} {C : Tr} {Z : Tr} {q0 : Nat} {q1 : Nat} {q2 : Nat} {q3 : Nat} {q4 : Nat} {q5 : Nat} {S : Tr} {LM : Lo} {w1 : Int32} {w2 : Int32} {r0 : Int32} {L' : Lo} {Tu' : Tr} {q2' : Nat} {r1 : Int32} {S' : Tr} {LM' : Lo} (hok : xOK pa qa X K R P P2 Tn Ti Tu Tv C Z q0 q1 q4 q5) (jx : jX S) (h : REL X K R P L P2 L2 Tn Ti Tu Tv C Z q0 q1 q2 q3 q4 q5 S LM) (hcx : f_X7_chance pa qa P L Tn Tu q0 q2 q4 w1 w2 = some (r0, L', Tu', q2')) (hcm : f_X8_chance S LM w1 w2 = some (r1, S', LM')) : REL X K R P (L') P2 L2 Tn Ti (Tu') Tv C Z q0 q1 (q2') q3 q4 q5 S' LM' := by
  have k := (D_to (Q_chance S LM w1 w2 jx) _ hcm).2
  have zf9 := zf_G (D_to (t_X8_chance S LM w1 w2 jx.1.1 jx.1.2.1 jx.1.2.2.1) _ hcm).2.1
  exact ⟨relT_S h.1 (kpS_W k), flR_W h.2.1 k, nm_W h.2.2.1 jx.1.1 k, zR_f h.2.2.2.1 (zk_f zf9), sR_f h.2.2.2.2 zf9⟩
theorem E_tried {pa : Nat → Nat} {qa : Nat → Nat} {X : Tr} {K : Tr} {R : Tr} {P : Tr} {L : Lo} {P2 : Tr} {L2 : Lo} {Tn : Tr} {Ti : Tr} {Tu : Tr} {Tv : Tr} {C : Tr} {Z : Tr} {q0 : Nat} {q1 : Nat} {q2 : Nat} {q3 : Nat} {q4 : Nat} {q5 : Nat} {S : Tr} {LM : Lo} {w1 : Int32} {w2 : Int32} {r0 : Int32} {L' : Lo} {Tu' : Tr} {q2' : Nat} {r1 : Int32} {S' : Tr} {LM' : Lo} (hok : xOK pa qa X K R P P2 Tn Ti Tu Tv C Z q0 q1 q4 q5) (jx : jX S) (h : REL X K R P L P2 L2 Tn Ti Tu Tv C Z q0 q1 q2 q3 q4 q5 S LM) (hcx : f_X7_tried pa qa P L Tn Tu q0 q2 q4 w1 w2 = some (r0, L', Tu', q2')) (hcm : f_X8_tried S LM w1 w2 = some (r1, S', LM')) : REL X K R P (L') P2 L2 Tn Ti (Tu') Tv C Z q0 q1 (q2') q3 q4 q5 S' LM' := by
  have k := (D_to (Q_tried S LM w1 w2 jx) _ hcm).2
  have zf9 := zf_G (D_to (t_X8_tried S LM w1 w2 jx.1.1 jx.1.2.1 jx.1.2.2.1) _ hcm).2.1
  exact ⟨relT_S h.1 (kpS_W k), flR_W h.2.1 k, nm_W h.2.2.1 jx.1.1 k, zR_f h.2.2.2.1 (zk_f zf9), sR_f h.2.2.2.2 zf9⟩
theorem E_undo {pa : Nat → Nat} {qa : Nat → Nat} {X : Tr} {K : Tr} {R : Tr} {P : Tr} {L : Lo} {P2 : Tr} {L2 : Lo} {Tn : Tr} {Ti : Tr} {Tu : Tr} {Tv : Tr} {C : Tr} {Z : Tr} {q0 : Nat} {q1 : Nat} {q2 : Nat} {q3 : Nat} {q4 : Nat} {q5 : Nat} {S : Tr} {LM : Lo}  {r0 : Int32} {Tn' : Tr} {C' : Tr} {r1 : Int32} {S' : Tr} (hok : xOK pa qa X K R P P2 Tn Ti Tu Tv C Z q0 q1 q4 q5) (jx : jX S) (h : REL X K R P L P2 L2 Tn Ti Tu Tv C Z q0 q1 q2 q3 q4 q5 S LM) (hcx : f_X7_undo pa qa Tn C = some (r0, Tn', C')) (hcm : f_X8_undo S = some (r1, S')) : REL X K R P L P2 L2 (Tn') Ti Tu Tv (C') Z q0 q1 q2 q3 q4 q5 S' LM := by
  have k := (D_to (Q_undo S jx) _ hcm).2
  have zf9 := zf_X8_undo S zf_r _ hcm
  exact ⟨relT_S h.1 (kpS_W k), flR_W h.2.1 k, nm_W h.2.2.1 jx.1.1 k, zR_f h.2.2.2.1 (zk_f zf9), sR_T (sR_f h.2.2.2.2 zf9) (tw_X7_undo pa qa Tn C tz_r _ hcx)⟩
theorem E_keep {pa : Nat → Nat} {qa : Nat → Nat} {X : Tr} {K : Tr} {R : Tr} {P : Tr} {L : Lo} {P2 : Tr} {L2 : Lo} {Tn : Tr} {Ti : Tr} {Tu : Tr} {Tv : Tr} {C : Tr} {Z : Tr} {q0 : Nat} {q1 : Nat} {q2 : Nat} {q3 : Nat} {q4 : Nat} {q5 : Nat} {S : Tr} {LM : Lo}  {r0 : Int32} {X' : Tr} {Ti' : Tr} {q1' : Nat} {r1 : Int32} {S' : Tr} {LM' : Lo} (hok : xOK pa qa X K R P P2 Tn Ti Tu Tv C Z q0 q1 q4 q5) (jx : jX S) (h : REL X K R P L P2 L2 Tn Ti Tu Tv C Z q0 q1 q2 q3 q4 q5 S LM) (hcx : f_X7_keep pa qa X Tn Ti q0 q1 = some (r0, X', Ti', q1')) (hcm : f_X8_keep S LM = some (r1, S', LM')) : REL (X') K R P L P2 L2 Tn (Ti') Tu Tv C Z q0 (q1') q2 q3 q4 q5 S' LM' := by
  have k := (D_to (Q_keep S LM jx) _ hcm).2
  obtain ⟨g1, g2, g3, g4, g5⟩ := k_keep S LM _ hcm
  unfold f_X7_keep at hcx
  obtain ⟨v, v1, v2⟩ := tx_bd hcx
  have cp := e_cpy Ti Tn q1 q0 v v1
  have v2 := tx_1 v2
  have e1 : st X 0 4 1 = X' := (Prod.ext_iff.mp (Prod.ext_iff.mp v2).2).1
  have e2 : v.1 = Ti' := (Prod.ext_iff.mp (Prod.ext_iff.mp (Prod.ext_iff.mp v2).2).2).1
  have x4 : ¬ X' 0 4 = 0 := by rw [← e1, st_same]; decide
  have g3 : S' 0 84 = 1 := g3
  exact ⟨relT_S h.1 (kpS_W k), flR_W h.2.1 k, nm_W h.2.2.1 jx.1.1 k, zR_f h.2.2.2.1 g5, h.2.2.2.2.1.trans g2.symm, ⟨fun c => absurd c x4, fun c => by rw [g3] at c; exact absurd c (by decide)⟩, fun _ => by rw [← e2, cp, h.2.2.2.2.1]; exact g4.symm⟩
theorem E_back {pa : Nat → Nat} {qa : Nat → Nat} {X : Tr} {K : Tr} {R : Tr} {P : Tr} {L : Lo} {P2 : Tr} {L2 : Lo} {Tn : Tr} {Ti : Tr} {Tu : Tr} {Tv : Tr} {C : Tr} {Z : Tr} {q0 : Nat} {q1 : Nat} {q2 : Nat} {q3 : Nat} {q4 : Nat} {q5 : Nat} {S : Tr} {LM : Lo}  {r0 : Int32} {Tn' : Tr} {C' : Tr} {q0' : Nat} {r1 : Int32} {S' : Tr} {LM' : Lo} (hok : xOK pa qa X K R P P2 Tn Ti Tu Tv C Z q0 q1 q4 q5) (jx : jX S) (h : REL X K R P L P2 L2 Tn Ti Tu Tv C Z q0 q1 q2 q3 q4 q5 S LM) (hcx : f_X7_back pa qa X Tn Ti C q0 q1 = some (r0, Tn', C', q0')) (hcm : f_X8_back S LM = some (r1, S', LM')) : REL X K R P L P2 L2 (Tn') Ti Tu Tv (C') Z (q0') q1 q2 q3 q4 q5 S' LM' := by
  have k := (D_to (Q_back S LM jx) _ hcm).2
  have g := k_back S LM _ hcm
  unfold f_X7_back at hcx
  by_cases c : X 0 4 = 0
  · rw [if_pos c] at hcx
    have v2 := tx_1 hcx
    have e1 : Tn = Tn' := (Prod.ext_iff.mp (Prod.ext_iff.mp v2).2).1
    rcases g with ⟨_, _, g1, g2, g3, g4⟩ | ⟨g0, _⟩
    · have g2 : S' 0 84 = S 0 84 := g2
      have g3 : S' 0 89 = S 0 89 := g3
      exact ⟨relT_S h.1 (kpS_W k), flR_W h.2.1 k, nm_W h.2.2.1 jx.1.1 k, zR_f h.2.2.2.1 g4, by rw [← e1]; exact h.2.2.2.2.1.trans g1.symm, by rw [g2]; exact h.2.2.2.2.2.1, fun q => (h.2.2.2.2.2.2 q).trans g3.symm⟩
    · exact absurd (h.2.2.2.2.2.1.mp c) g0
  · rw [if_neg c] at hcx
    obtain ⟨v, v1, v2⟩ := tx_bd hcx
    have cp := e_cpy Tn Ti q0 q1 v v1
    have v2 := tx_1 v2
    have e1 : v.1 = Tn' := (Prod.ext_iff.mp (Prod.ext_iff.mp v2).2).1
    rcases g with ⟨g0, _⟩ | ⟨_, _, g1, g2, g3, g4⟩
    · exact absurd (h.2.2.2.2.2.1.mpr g0) c
    · have g1 : S' 62 0 = S 0 89 := g1
      have g2 : S' 0 84 = S 0 84 := g2
      have g3 : S' 0 89 = S 0 89 := g3
      exact ⟨relT_S h.1 (kpS_W k), flR_W h.2.1 k, nm_W h.2.2.1 jx.1.1 k, zR_f h.2.2.2.1 g4, by rw [← e1, cp, h.2.2.2.2.2.2 c, g1], by rw [g2]; exact h.2.2.2.2.2.1, fun q => (h.2.2.2.2.2.2 q).trans g3.symm⟩
theorem E_count {pa : Nat → Nat} {qa : Nat → Nat} {X : Tr} {K : Tr} {R : Tr} {P : Tr} {L : Lo} {P2 : Tr} {L2 : Lo} {Tn : Tr} {Ti : Tr} {Tu : Tr} {Tv : Tr} {C : Tr} {Z : Tr} {q0 : Nat} {q1 : Nat} {q2 : Nat} {q3 : Nat} {q4 : Nat} {q5 : Nat} {S : Tr} {LM : Lo} {w1 : Int32} {r0 : Int32} {r1 : Int32} {S' : Tr} (hok : xOK pa qa X K R P P2 Tn Ti Tu Tv C Z q0 q1 q4 q5) (jx : jX S) (h : REL X K R P L P2 L2 Tn Ti Tu Tv C Z q0 q1 q2 q3 q4 q5 S LM) (hcx : f_X7_count pa qa P Tn C Z q0 q4 w1 = some r0) (hcm : f_X8_count S w1 = some (r1, S')) : REL X K R P L P2 L2 Tn Ti Tu Tv C Z q0 q1 q2 q3 q4 q5 S' LM := by
  have k := (D_to (Q_count S w1 jx) _ hcm).2
  have zf9 := zf_T (D_to (t_X8_count S w1 jx.1.1 jx.1.2.1 jx.1.2.2.1) _ hcm).2.1
  exact ⟨relT_S h.1 (kpS_W k), flR_W h.2.1 k, nm_W h.2.2.1 jx.1.1 k, zR_f h.2.2.2.1 (zk_f zf9), sR_f h.2.2.2.2 zf9⟩
theorem A_go {pa : Nat → Nat} {qa : Nat → Nat} {X : Tr} {K : Tr} {R : Tr} {P : Tr} {L : Lo} {P2 : Tr} {L2 : Lo} {Tn : Tr} {Ti : Tr} {Tu : Tr} {Tv : Tr} {C : Tr} {Z : Tr} {q0 : Nat} {q1 : Nat} {q2 : Nat} {q3 : Nat} {q4 : Nat} {q5 : Nat} {S : Tr} {LM : Lo} {w1 : Int32} {r0 : Int32} {L' : Lo} {Tn' : Tr} {C' : Tr} {r1 : Int32} {S' : Tr} {LM' : Lo} (hok : xOK pa qa X K R P P2 Tn Ti Tu Tv C Z q0 q1 q4 q5) (jx : jX S) (h : REL X K R P L P2 L2 Tn Ti Tu Tv C Z q0 q1 q2 q3 q4 q5 S LM) (hcx : f_X7_go pa qa P L Tn C q0 w1 = some (r0, L', Tn', C')) (hcm : f_X8_go S LM w1 = some (r1, S', LM')) : r0 = r1 := (e_go pa qa P L Tn C q0 S LM w1 h.2.2.2.2.1 jx.1.1 _ _ hcx hcm).1
