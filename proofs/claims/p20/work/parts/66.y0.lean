theorem tq_search2 {p : Program} {e : Env} {meth : Method} {c : Code} {S : State} {f : JFrame} {a : Addr} {y x : ExceptionTableEntry} {cY cX : ClassId} {cell : Cell} (hm : S.vm.method? f.method = some meth) (hc : meth.code = some c) (hsplit : c.exceptionTable.toList = [y, x]) (hy : covers y f.pc = true) (hx : covers x f.pc = true) (hy0 : y.catchType ≠ 0) (h0 : x.catchType ≠ 0)
    (hl1 : S.vm.ClassLinks e.platform f.method.cls y.catchType cY) (hl2 : (S.setVm (S.vm.noted f.method.cls y.catchType (.cls cY))).vm.ClassLinks e.platform f.method.cls x.catchType cX) (hcell : S.heap[a]? = some cell) (hobj : ∀ k, cell.vm ≠ .statics k) (hk : ∃ k, S.vm.classes[cell.cls]? = some k) (hcy : ∃ k, S.vm.classes[cY]? = some k) (hct : ∃ k, S.vm.classes[cX]? = some k) (hno : S.vm.assignable cell.cls cY = false) (hfit : S.vm.assignable cell.cls cX = true)
    (Q9 : Handler → Pre) (E9 : CtlPost) (d9 : Bool) (ac : List Action) : wp (findHandler f a) Q9 E9 e d9 ac S ↔ Q9 (.found x.handlerPc) d9 ac (S.setVm ((S.vm.noted f.method.cls y.catchType (.cls cY)).noted f.method.cls x.catchType (.cls cX))) := by
  rw [_root_.Jvm.W.findHandler_eq hm hc, hsplit]
  have hx' := hx
  have hy' := hy
  simp only [covers] at hx' hy'
  obtain ⟨ha1, ht1⟩ := (resolveClass_links e.toSetting hl1).op (op := VmOp.resolveClass f.method.cls y.catchType) rfl
  obtain ⟨ha2, ht2⟩ := (resolveClass_links e.toSetting hl2).op (op := VmOp.resolveClass f.method.cls x.catchType) rfl
  have al1 : S.vm.Alike (S.vm.noted f.method.cls y.catchType (.cls cY)) := (Vm.Alike.refl S.vm).noted _ _ _
  have al2 : S.vm.Alike ((S.vm.noted f.method.cls y.catchType (.cls cY)).noted f.method.cls x.catchType (.cls cX)) := al1.noted _ _ _
  obtain ⟨k1, g1⟩ := hk
  obtain ⟨k2, g2⟩ := hct
  obtain ⟨k0, g0⟩ := hcy
  obtain ⟨k3, g3, -⟩ := al2.2.2 _ _ g1
  obtain ⟨k4, g4, -⟩ := al2.2.2 _ _ g2
  obtain ⟨k5, g5, -⟩ := al1.2.2 _ _ g1
  obtain ⟨k6, g6, -⟩ := al1.2.2 _ _ g0
  have g7 : ((S.vm.noted f.method.cls y.catchType (.cls cY)).noted f.method.cls x.catchType (.cls cX)).assignable cell.cls cX = true := by rw [al2.assignable]; exact hfit
  have g8 : (S.vm.noted f.method.cls y.catchType (.cls cY)).assignable cell.cls cY = false := by rw [al1.assignable]; exact hno
  have ha3 : (VmOp.resolveClass f.method.cls x.catchType).answer e (S.vm.noted f.method.cls y.catchType (.cls cY)) = Except.ok cX := ha2
  have ht3 : (VmOp.resolveClass f.method.cls x.catchType).tables e (S.vm.noted f.method.cls y.catchType (.cls cY)) = (S.vm.noted f.method.cls y.catchType (.cls cY)).noted f.method.cls x.catchType (.cls cX) := ht2
  simp [findHandler.go, hx', hy', hy0, h0, ha1, ht1, ha3, ht3, hcell, hobj, g3, g4, g5, g6, g7, g8, VmOp.dirties, VmOp.acts]
  exact Iff.rfl
theorem tq_catch2 {p : Program} {l : Launch} {e : Env} {R : Room} {s : State} {m : MethodId} {args : Array Value} {below : List Frame} {meth : Method} {c : Code} {H : Heap} {locs : List Loc} {cells slots : Nat} {Q : State → Prop} {pc : Nat} {ls : Array Slot} {rest : List Value} {own nameY name E : String} {ce : Cell} {q : Addr} (hown : s.vm.findClass own = some m.cls) (y x : ExceptionTableEntry) (hsplit : c.exceptionTable.toList = [y, x]) (hy : covers y pc = true) (hx : covers x pc = true) (hy0 : y.catchType ≠ 0) (h0 : x.catchType ≠ 0)
    (hlinkY : (Cond.classLink own y.catchType nameY).before args s = true) (hno : va_Nc E nameY s) (hlink : (Cond.classLink own x.catchType name).before args s = true) (hcast : (Cond.castable E name).before args s = true) (hcell : H[q]? = some ce) (hv : ce.vm = .none) (hcl : s.vm.findClass E = some ce.cls)
    (kk : W p l e R s m args below meth c H locs cells slots Q (F0 m x.handlerPc ls [.ref q])) : vx_W p l e R s m args below meth c H locs cells slots Q (F0 m pc ls rest) q := by
  intro T hT X
  have hpl : e.platform.magicAccessors = ({} : Platform).magicAccessors := by rw [X.admits.platform]
  obtain ⟨c3, c4, hc3, hc4, hasg⟩ := Cond.castable_spec hcast
  cases Option.some.inj (hc3.symm.trans hcl)
  obtain ⟨c5, hc5, hcl5⟩ := Cond.classLink_spec hown hlink e.platform hpl
  cases Option.some.inj (hc4.symm.trans hc5)
  obtain ⟨c6, hc6, hcl6⟩ := Cond.classLink_spec hown hlinkY e.platform hpl
  obtain ⟨a8, b8, n1, n2, n3⟩ := hno
  cases Option.some.inj (n1.symm.trans hcl)
  cases Option.some.inj (n2.symm.trans hc6)
  obtain ⟨k9, h9, -⟩ := Vm.findClass_spec hcl
  obtain ⟨dk, _, _, kt, hd, _, _, _, _, hkt, _, hopen⟩ := hcl5.here
  obtain ⟨dk6, _, _, kt6, hd6, _, _, _, _, hkt6, _, hopen6⟩ := hcl6.here
  have hW := X.warmed
  obtain ⟨k7, h7, -⟩ := hW.alike.2.2 _ _ h9
  obtain ⟨k8, h8, -⟩ := hW.alike.2.2 _ _ hkt
  obtain ⟨k10, h10, -⟩ := hW.alike.2.2 _ _ hkt6
  have X1 := X.noted (hW.noted hd6 hopen6 (State.rightAt_cls hcl6))
  have hW1 := X1.warmed
  have X' := X1.noted (hW1.noted hd hopen (State.rightAt_cls hcl5))
  have hfind := tq_search2 (p := p) (e := e) (meth := meth) (c := c) (S := (T.setTop (F0 m pc ls rest)).pushFrame (.throwing q)) (f := F0 m pc ls rest) (a := q) (y := y) (x := x) (cY := c6) (cX := c4) (cell := ce) X.method' X.code hsplit hy hx hy0 h0 (hW.classLinks hcl6) (hW1.classLinks hcl5) (by show T.heap[q]? = some ce; rw [hT]; exact hcell) (fun k => by rw [hv]; intro hh; cases hh) ⟨k7, h7⟩ ⟨k10, h10⟩ ⟨k8, h8⟩ (by show T.vm.assignable ce.cls c6 = false; rw [hW.alike.assignable]; exact n3) (by show T.vm.assignable ce.cls c4 = true; rw [hW.alike.assignable]; exact hasg)
  obtain ⟨V, hV⟩ : ∃ V, V = (T.vm.noted m.cls y.catchType (.cls c6)).noted m.cls x.catchType (.cls c4) := ⟨_, rfl⟩
  obtain ⟨t, a1, b1⟩ := kk (T.setVm V) hT (by rw [hV]; exact X')
  refine ⟨t, ?_, b1⟩
  have h : At T (F0 m pc ls rest).method c below := X.here
  obtain ⟨hgo, hw⟩ := h.throwing q
  refine Steps.head hgo hw ?_
  have hstep : (stepThrowing e ((T.setTop (F0 m pc ls rest)).pushFrame (.throwing q)) q (.java (F0 m pc ls rest) :: T.frames.tail)).Is ((((T.setTop (F0 m pc ls rest)).pushFrame (.throwing q)).setVm V).setFrames (.java { F0 m pc ls rest with pc := x.handlerPc, stack := [.ref q] } :: T.frames.tail)) [] := by
    simp only [stepThrowing, searchFrame, vmDo]
    generalize hr : Sem.go _ e false [] ((T.setTop (F0 m pc ls rest)).pushFrame (.throwing q)) = res
    obtain ⟨as, rfl, ha⟩ := Sem.eq_ok_of hr (a := Handler.found x.handlerPc) (s' := ((T.setTop (F0 m pc ls rest)).pushFrame (.throwing q)).setVm V) (acts' := []) (by rw [hV]; simp [hfind]; rfl)
    exact ⟨rfl, ha⟩
  rw [stepThread_throwing (frames_entered h.top _), hstep.1]
  obtain ⟨g₀, hg⟩ := Option.isSome_iff_exists.mp h.top
  obtain ⟨r, hr⟩ := State.topJava?_eq_some.mp hg
  have e1 : ∀ (u : State) (v : Vm) (F G : List Frame), ((u.setFrames F).setVm v).setFrames G = (u.setVm v).setFrames G := fun u v F G => by
    rw [show (u.setFrames F).setVm v = (u.setVm v).setFrames F from rfl, State.setFrames_setFrames]
  have hr' : (T.setVm V).frames = .java g₀ :: r := hr
  have a2 := a1
  rw [show (T.setVm V).setTop (F0 m x.handlerPc ls [.ref q]) = (T.setVm V).setFrames (.java (F0 m x.handlerPc ls [.ref q]) :: r) from State.setTop_of_frames _ hr'] at a2
  rw [hr, List.tail_cons, State.pushFrame, e1, State.setTop_of_frames _ hr, e1]
  exact a2
