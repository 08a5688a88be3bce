/-! worked out for a piece; numbers drawn -/
theorem E2_rb {α β γ : Type} {x : Option α} {y : Option γ} {k' : γ → Option β} {R : α → γ → Prop} {Q : α → β → Prop} (h1 : E2 x y R) (h : ∀ a b, R a b → E2 (some a) (k' b) Q) : E2 x (bd y k') Q := fun a b e1 e2 => by
  obtain ⟨d, hd, hk⟩ := tx_bd e2
  exact h a d (h1 a d e1 hd) a b rfl hk
theorem E2_lb {α β γ : Type} {x : Option γ} {y : Option β} {k : γ → Option α} {R : γ → β → Prop} {Q : α → β → Prop} (h1 : E2 x y R) (h : ∀ a b, R a b → E2 (k a) (some b) Q) : E2 (bd x k) y Q := fun a b e1 e2 => by
  obtain ⟨d, hd, hk⟩ := tx_bd e1
  exact h d b (h1 d b hd e2) a b hk rfl
def clm (v : Int64) (m : Int32) : Int32 := if 0 ≤ (lg_cmp v 0) then (if (lg_cmp v m.toInt64) ≤ 0 then v.toInt32 else m) else 0
theorem e_wi (v : Int64) (m : Int32) : f_X6_within v m = some (clm v m) := by
  unfold f_X6_within clm
  split
  · split <;> rfl
  · rfl
/-- one train of each -/
def Rl (b : Nat) (P T S : Tr) : Prop := rI b S ∧ pK P S ∧ sta b T S ∧ dyn b P T S ∧ inv b S
theorem sta_e {b : Nat} {T T1 S S1 : Tr} (h : sta b T S) (e : o19 T T1) (f : o51 S S1) : sta b T1 S1 := sta_M h (cM_19 e) (aM_51 f)
theorem Rl_e {b : Nat} {P T T1 S S1 : Tr} (h : Rl b P T S) (e : o19 T T1) (f : o51 S S1) : Rl b P T1 S1 := ⟨rI_51 h.1 f, pK_51 h.2.1 f, sta_e h.2.2.1 e f, dyn_19 h.2.2.2.1 h.1.1 e f, inv_51 h.2.2.2.2 f⟩
def nmP (P T : Tr) (able : Int32) (i p : Nat) (ab : Int) (L : Lo) : Prop := L 50 0 = (P 15 i).toInt64 ∧ L 50 1 = (P 16 i).toInt64 ∧ (∃ v : Int32, v.toInt = ab ∧ L 50 2 = v.toInt64) ∧ L 50 3 = (P 8 p).toInt64 ∧ L 50 4 = able.toInt64 ∧ L 50 5 = (T 0 0).toInt64 ∧ L 50 6 = (T 18 p).toInt64
theorem e_able {b o : Nat} {T S : Tr} {xb xo : Int32} (hb : xb.toNatClampNeg = b) (hxb : 0 ≤ xb.toInt ∧ xb.toInt ≤ 1) (ho : xo.toInt = o) (h6 : o ≤ 5) (hs : sta b T S) (hop : (o : Int) < (S 0 13).toInt) : Ep (f_X8_ableOf S xb xo) (fun q => q = T 10 o) := by
  have j6 : (((6 : Int32) * xb) + xo).toNatClampNeg = 6 * b + o := by rw [jx 6 (by decide) (by omega) hxb ho (by omega), hb]
  have e := (hs.1 o hop).2
  unfold f_X8_ableOf
  rw [j6]
  refine Ep_ite (fun c => Ep_ck (Ep_some ?_)) (fun c => Ep_some ?_)
  · rw [e, if_pos c]
  · rw [e, if_neg c]
theorem e_lay {b i p pos o : Nat} {P T S : Tr} {L : Lo} {xb x1 xo : Int32} (hb : xb.toNatClampNeg = b) (hxb : 0 ≤ xb.toInt ∧ xb.toInt ≤ 1) (hR : Rl b P T S) (hi : x1.toInt = i) (hii : (i : Int) < (S 0 14).toInt) (ha : at2 b T S i p pos) (ho : xo.toInt = o) (hop : (o : Int) < (S 0 13).toInt) : Ep (f_X8_layNames S L xb x1 xo) (fun q => nmP P T (T 10 o) i p ((S 56 (5 * b + p)).toInt - 1 - pos) q ∧ oL L q) := by
  obtain ⟨⟨hS, hpI, hg⟩, hK, hs, hd, hv⟩ := hR
  have h14 : (S 0 14).toInt ≤ 10 := (hS 0 14).2
  have h13 : (S 0 13).toInt ≤ 6 := (hS 0 13).2
  have j10 : (((10 : Int32) * xb) + x1).toNatClampNeg = 10 * b + i := by rw [jx 10 (by decide) (by omega) hxb hi (by omega), hb]
  obtain ⟨a1, a2, a3, -⟩ := id ha
  have hp12 : (p : Int) < (S 0 12).toInt := by
    have := (hv.1 i hii).2.2
    rw [← a3, a1] at this; exact this
  have hly : (S 54 (10 * b + i)).toInt = p := by rw [← a3]; exact a1
  unfold f_X8_layNames
  rw [j10]
  refine Ep_ck (Ep_lt (fun y2 e2 => ?_))
  have hy2 : y2.toInt = p := by rw [e2]; exact hly
  rw [i_cn hi, i_cn hy2, hb]
  refine Ep_ck (Ep_lt (fun L4 l4 => Ep_lt (fun L5 l5 => Ep_bd (e_abv ha hb hxb hS hg.1 hi (by omega)).2 (fun r6 h6 => Ep_lt (fun L9 l9 => Ep_ck (Ep_lt (fun L11 l11 => Ep_bd (e_able hb hxb ho (by omega) hs hop) (fun r12 h12 => Ep_lt (fun L15 l15 => Ep_ck (Ep_lt (fun L17 l17 => Ep_bd (e_wgt hb hxb hy2 a2 hS hg.1 hK.2.2.2.1 (hd.2.2.2.2 p (by omega))) (fun r18 h18 => Ep_lt (fun L21 l21 => Ep_some ?_)))))))))))))
  obtain ⟨w1, w2, w3, -⟩ := hK.2.2.2.1 i hii
  refine ⟨⟨?_, ?_, ⟨r6, h6, ?_⟩, ?_, ?_, ?_, ?_⟩, ?_⟩
  · rw [l21, stL_ne (by decide), l17, stL_ne (by decide), l15, stL_ne (by decide), l11, stL_ne (by decide), l9, stL_ne (by decide), l5, stL_ne (by decide), l4, stL_same, w2]
  · rw [l21, stL_ne (by decide), l17, stL_ne (by decide), l15, stL_ne (by decide), l11, stL_ne (by decide), l9, stL_ne (by decide), l5, stL_same, w3]
  · rw [l21, stL_ne (by decide), l17, stL_ne (by decide), l15, stL_ne (by decide), l11, stL_ne (by decide), l9, stL_same]
  · rw [l21, stL_ne (by decide), l17, stL_ne (by decide), l15, stL_ne (by decide), l11, stL_same, (hK.2.1 p hp12).1]
  · rw [l21, stL_ne (by decide), l17, stL_ne (by decide), l15, stL_same, h12]
  · rw [l21, stL_ne (by decide), l17, stL_same, hd.1]
  · rw [l21, stL_same, h18]
  · rw [l21, l17, l15, l11, l9, l5, l4]
    exact oL_s (oL_s (oL_s (oL_s (oL_s (oL_s (oL_s oL_r (Or.inl rfl)) (Or.inl rfl)) (Or.inl rfl)) (Or.inl rfl)) (Or.inl rfl)) (Or.inl rfl)) (Or.inl rfl)
def wkQ (T S : Tr) (L : Lo) (q : Int64 × Tr × Lo) (q' : Int64 × Tr × Lo) : Prop := o19 T q.2.1 ∧ o51 S q'.2.1 ∧ oL L q'.2.2 ∧ ((q.1 = -9223372036854775808 ∧ ¬ q'.2.1 0 51 = 0) ∨ (q'.2.1 0 51 = 0 ∧ q.1 = q'.1 ∧ bnd q.1))
theorem e_wk0 {b i p pos w : Nat} {P T S : Tr} {L Lc : Lo} {x1 xw able : Int32} (hR : Rl b P T S) (hi : x1.toInt = i) (ha : at2 b T S i p pos) (hw : xw.toInt = w) (hw3 : w < 3) (hn : nmP P T able i p ((S 56 (5 * b + p)).toInt - 1 - pos) L) (htold : S 36 w = 1) : E2 (f_X6_worked T P Lc xw x1 able) (f_X8_lawOf S L xw) (wkQ T S L) := by
  obtain ⟨⟨hS, hpI, hg⟩, hK, hs, hd, hv⟩ := hR
  obtain ⟨a1, a2, a3, a4, a5, a6, a7, a8, a9, a10⟩ := id ha
  rcases hK.2.2.2.2.2 w hw3 with ⟨-, l2⟩ | ⟨l1, f, s, s1, l2, l3, l4, l5, l6, l7⟩
  · rw [l2] at htold; exact absurd htold (by decide)
  have n0 : ¬ P (30 + 3 * w) 1 = 0 := fun e => by rw [e, show (0 : Int32).toInt = 0 by decide] at l2; omega
  unfold f_X6_worked
  rw [i_cn hi, i_cn hw]
  refine E2_ckl (fun _ => E2_ltl (fun y2 e2 => E2_ckl (fun _ => E2_ql n0 ?_)))
  have hy2 : y2.toInt = p := by rw [e2]; exact a1
  have c0 : 0 ≤ y2 := Int32.le_iff_toInt_le.mpr (by rw [hy2]; show (0 : Int) ≤ _; omega)
  rw [i_cn hy2]
  refine E2_pl c0 (E2_ltl (fun T6 t6 => E2_ltl (fun T7 t7 => E2_ckl (fun _ => ?_))))
  have o7 : o19 T T7 := by rw [t7, t6]; exact o19_s (o19_s o19_r)
  have ha7 : at2 b T7 S i p pos := by
    unfold at2
    rw [o7 15 i (by omega), o7 17 p (by omega), o7 16 _ (by omega)]
    exact ⟨a1, a2, a3, a4, a5, a6, a7, a8, fun k hk => by rw [o7 16 _ (by omega)]; exact a9 k hk, fun k hk => by rw [o7 16 _ (by omega)]; exact a10 k hk⟩
  refine E2_bl (at_lvl ha7 hi) (fun r9 h9 => E2_ltl (fun T12 t12 => E2_ltl (fun T13 t13 => E2_ltl (fun T14 t14 => E2_ltl (fun T15 t15 => E2_ltl (fun T16 t16 => ?_))))))
  have o14 : o19 T T14 := by rw [t14, t13, t12]; exact o19_s (o19_s (o19_s o7))
  have o15 : o19 T T15 := by rw [t15]; exact o19_s o14
  have o16 : o19 T T16 := by rw [t16]; exact o19_s o15
  have ff : ∀ m : Nat, m ≤ 6 → L 50 m = (T16 19 m).toInt64 := by
    obtain ⟨n0, n1, ⟨v, n2, n2'⟩, n3, n4, n5, n6⟩ := hn
    intro m hm
    rcases (by omega : m = 0 ∨ m = 1 ∨ m = 2 ∨ m = 3 ∨ m = 4 ∨ m = 5 ∨ m = 6) with rfl | rfl | rfl | rfl | rfl | rfl | rfl
    · rw [n0, t16, st_ne (by decide), t15, st_ne (by decide), t14, st_ne (by decide), t13, st_ne (by decide), t12, st_ne (by decide), t7, st_ne (by decide), t6, st_same]
    · rw [n1, t16, st_ne (by decide), t15, st_ne (by decide), t14, st_ne (by decide), t13, st_ne (by decide), t12, st_ne (by decide), t7, st_same]
    · rw [n2', t16, st_ne (by decide), t15, st_ne (by decide), t14, st_ne (by decide), t13, st_ne (by decide), t12, st_same]
      refine congrArg Int32.toInt64 (Int32.toInt_inj.mp ?_)
      rw [n2, o7 17 p (by omega), a4, i_subK (x := (S 56 (5 * b + p)).toInt - 1) (i_subK rfl (by decide) (by omega) (by omega)) h9 (by omega) (by omega)]
    · rw [n3, t16, st_ne (by decide), t15, st_ne (by decide), t14, st_ne (by decide), t13, st_same]
    · rw [n4, t16, st_ne (by decide), t15, st_ne (by decide), t14, st_same]
    · rw [n5, t16, st_ne (by decide), t15, st_same, o14 0 0 (by omega)]
    · rw [n6, t16, st_same, o15 18 p (by omega)]
  refine E2_lb (R := fun q q' => vlQ q q' ∧ o51 S q'.2.1 ∧ oL L q'.2.2) ?_ (fun q q' hq => ?_)
  · intro q q' e e'
    have h1 := e_val (T := T16) hw s1 l2 l4 l3 l5 l6 l7 ff Lc q q' e e'
    exact ⟨h1, fr_law S L xw q' e'⟩
  · refine E2_ltl (fun r17 e17 => E2_ltl (fun L18 e18 => E2_some ⟨o16, hq.2.1, hq.2.2, ?_⟩))
    show (r17 = _ ∧ _) ∨ (_ ∧ r17 = _ ∧ bnd r17)
    rw [e17]; exact hq.1
def wkB (T S : Tr) (L : Lo) (d m : Int32) (q : Int64 × Tr × Lo) (q' : Int32 × Tr × Lo) : Prop := o19 T q.2.1 ∧ o51 S q'.2.1 ∧ oL L q'.2.2 ∧ ((q.1 = -9223372036854775808 ∧ q'.1 = d) ∨ (bnd q.1 ∧ q'.1 = clm q.1 m))
theorem e_wk {b i p pos w : Nat} {P T S : Tr} {L Lc : Lo} {x1 xw able d m : Int32} (hR : Rl b P T S) (hi : x1.toInt = i) (ha : at2 b T S i p pos) (hw : xw.toInt = w) (hw3 : w < 3) (hn : nmP P T able i p ((S 56 (5 * b + p)).toInt - 1 - pos) L) : E2 (f_X6_worked T P Lc xw x1 able) (f_X8_boundLaw S L xw d m) (wkB T S L d m) := by
  unfold f_X8_boundLaw
  rw [i_cn hw]
  refine E2_ckr (fun _ => E2_itr (fun c => ?_) (fun c => ?_))
  · rcases hR.2.1.2.2.2.2.2 w hw3 with ⟨l1, l2⟩ | ⟨l1, -⟩
    · unfold f_X6_worked
      rw [i_cn hw]
      exact E2_ckl (fun _ => E2_ltl (fun y2 e2 => E2_ckl (fun _ => E2_pl l1 (E2_some ⟨o19_r, o51_r, oL_r, Or.inl ⟨rfl, rfl⟩⟩))))
    · rw [l1] at c; exact absurd c (by decide)
  · have ht : S 36 w = 1 := by
      rcases hR.2.1.2.2.2.2.2 w hw3 with ⟨l1, l2⟩ | ⟨l1, -⟩
      · exact absurd l2 c
      · exact l1
    refine E2_rb (e_wk0 (Lc := Lc) hR hi ha hw hw3 hn ht) (fun q q' hq => ?_)
    obtain ⟨u1, u2, u3, u4⟩ := hq
    obtain ⟨v, S4, L5⟩ := q'
    have u2 : o51 S S4 := u2
    have u3 : oL L L5 := u3
    have u4 : (q.1 = -9223372036854775808 ∧ ¬ S4 0 51 = 0) ∨ (S4 0 51 = 0 ∧ q.1 = v ∧ bnd q.1) := u4
    show E2 (some q) (if S4 0 51 = 0 then (if 0 ≤ (lg_cmp v 0) then (if (lg_cmp v m.toInt64) ≤ 0 then (some (v.toInt32, S4, L5)) else (some (m, S4, L5))) else (some (0, S4, L5))) else (some (d, S4, L5))) _
    rcases u4 with ⟨w1, w2⟩ | ⟨w1, w2, w3⟩
    · exact E2_qr w2 (E2_some ⟨u1, u2, u3, Or.inl ⟨w1, rfl⟩⟩)
    · refine E2_pr w1 (E2_itr (fun c1 => E2_itr (fun c2 => E2_some ⟨u1, u2, u3, Or.inr ⟨w3, ?_⟩⟩) (fun c2 => E2_some ⟨u1, u2, u3, Or.inr ⟨w3, ?_⟩⟩)) (fun c1 => E2_some ⟨u1, u2, u3, Or.inr ⟨w3, ?_⟩⟩))
      · rw [w2]; unfold clm; rw [if_pos c1, if_pos c2]
      · rw [w2]; unfold clm; rw [if_pos c1, if_neg c2]
      · rw [w2]; unfold clm; rw [if_neg c1]
