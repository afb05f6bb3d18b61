/-! a throw that comes to a handler of the method itself: tables of one row and of two -/
section XH
variable {p : Program} {l : Launch} {e : Env} {R : Room} {s : State} {m : MethodId} {args : Array Value} {below : List Frame} {meth : Method} {c : Code} {H : Heap} {locs : List Loc} {cells slots : Nat} {Q : State → Prop}
/-- one row of the table that covers the place: its class is looked up; it takes the thing, or the search goes on -/
theorem xh_row {P : Handler → Pre} {E : CtlPost} {d : Bool} {acts : List Action} {S : State} {f : JFrame} {a : Addr} {x : ExceptionTableEntry} {t : List ExceptionTableEntry} {k : ClassId} {cell : Cell} (hx : covers x f.pc = true) (h0 : x.catchType ≠ 0) (hl : S.vm.ClassLinks e.platform f.method.cls x.catchType k) (hcell : S.heap[a]? = some cell) (hv : cell.vm = .none) (hk : ∃ q, S.vm.classes[cell.cls]? = some q) (hc : ∃ q, S.vm.classes[k]? = some q) :
    wp (findHandler.go f a (x :: t)) P E e d acts S ↔ if S.vm.assignable cell.cls k = true then P (.found x.handlerPc) d acts (S.setVm (S.vm.noted f.method.cls x.catchType (.cls k))) else wp (findHandler.go f a t) P E e d acts (S.setVm (S.vm.noted f.method.cls x.catchType (.cls k))) := by
  have hal : S.vm.Alike (S.vm.noted f.method.cls x.catchType (.cls k)) := (Vm.Alike.refl S.vm).noted _ _ _
  have hr := (resolveClass_links e.toSetting hl).op (op := VmOp.resolveClass f.method.cls x.catchType) rfl
  have hno : ∀ q, cell.vm ≠ .statics q := fun q h => by rw [hv] at h; cases h
  obtain ⟨q1, e1⟩ := hk
  obtain ⟨q2, e2⟩ := hc
  obtain ⟨r1, f1, -⟩ := hal.2.2 _ _ e1
  obtain ⟨r2, f2, -⟩ := hal.2.2 _ _ e2
  have hcov := hx
  simp only [covers] at hcov
  have has := hal.assignable (s := cell.cls) (t := k)
  cases hfit : S.vm.assignable cell.cls k <;> rw [hfit] at has <;> simp [findHandler.go, hcov, h0, hr.1, hr.2, hcell, hno, f1, f2, has, VmOp.dirties, VmOp.acts]
/-- the step of the machine -/
theorem xh_step {tb : Tables} {S target : State} {g : JFrame} {a : Addr} {pc : Nat} {vm1 : Vm} (h : At S g.method c below)
    (hf : ∀ (P : Handler → Pre) (E : CtlPost) (d : Bool) (acts : List Action), wp (findHandler g a) P E e d acts ((S.setTop g).pushFrame (.throwing a)) ↔ P (.found pc) d acts (((S.setTop g).pushFrame (.throwing a)).setVm vm1))
    (hgo : Steps tb e below ((S.setVm vm1).setTop { g with pc := pc, stack := [.ref a] }) target) : Steps tb e below ((S.setTop g).pushFrame (.throwing a)) target := by
  have one : (stepThrowing e ((S.setTop g).pushFrame (.throwing a)) a (.java g :: S.frames.tail)).1 = ((((S.setTop g).pushFrame (.throwing a)).setVm vm1).setFrames (.java { g with pc := pc, stack := [.ref a] } :: S.frames.tail)) := by
    simp only [stepThrowing, searchFrame, vmDo]
    generalize hr : Sem.go _ e false [] ((S.setTop g).pushFrame (.throwing a)) = res
    obtain ⟨as, rfl, -⟩ := Sem.eq_ok_of hr (a := Handler.found pc) (s' := ((S.setTop g).pushFrame (.throwing a)).setVm vm1) (acts' := []) (by simp [hf _ _ _ _])
    rfl
  obtain ⟨h1, h2⟩ := h.throwing a
  refine Steps.head h1 h2 ?_
  rw [stepThread_throwing (frames_entered h.top _), one]
  obtain ⟨g0, e0⟩ := Option.isSome_iff_exists.mp h.top
  obtain ⟨r, er⟩ := State.topJava?_eq_some.mp e0
  have er2 : (S.setVm vm1).frames = .java g0 :: r := er
  rw [State.setTop_of_frames _ er2] at hgo
  have key : ∀ F G : List Frame, ((S.setFrames F).setVm vm1).setFrames G = (S.setVm vm1).setFrames G := fun F G => by
    rw [show (S.setFrames F).setVm vm1 = (S.setVm vm1).setFrames F from rfl, State.setFrames_setFrames]
  rw [er, List.tail_cons, State.pushFrame, State.setTop_of_frames _ er, State.setFrames_setFrames, key]
  exact hgo
/-- what the words say of a row's class -/
theorem xh_link {T : State} (X : Stand p l e R s m args below meth c T locs cells slots) {own nm : String} (hown : s.vm.findClass own = some m.cls) {j : Nat} (hl : (Cond.classLink own j nm).before args s = true) : ∃ k, s.vm.findClass nm = some k ∧ s.vm.ClassLinks e.platform m.cls j k :=
  Cond.classLink_spec hown hl e.platform (by rw [X.admits.platform])
theorem xh_note {S : State} {j : Nat} {k : ClassId} (hl : s.vm.ClassLinks e.platform m.cls j k) (hW : s.WarmedH S.vm) : s.WarmedH (S.vm.noted m.cls j (.cls k)) ∧ S.vm.ClassLinks e.platform m.cls j k ∧ ∃ q, S.vm.classes[k]? = some q := by
  have hl2 := hl
  obtain ⟨dk, _, _, kt, hd, _, _, _, _, hkt, _, hopen⟩ := hl2.here
  obtain ⟨q, hq, -⟩ := hW.alike.2.2 _ _ hkt
  exact ⟨hW.noted hd hopen (State.rightAt_cls hl), hW.classLinks hl, q, hq⟩
/-- the first row takes it -/
theorem xh_first {own nm E : String} {ce : Cell} {q : Addr} {pc : Nat} {ls : Array Slot} {rest : List Value} {x : ExceptionTableEntry} {t : List ExceptionTableEntry} (hown : s.vm.findClass own = some m.cls) (hs : c.exceptionTable.toList = x :: t) (hx : covers x pc = true) (h0 : x.catchType ≠ 0) (hl : (Cond.classLink own x.catchType nm).before args s = true) (hca : va_Nw (.castable E nm) s) (hcell : H[q]? = some ce) (hv : ce.vm = .none) (hcl : s.vm.findClass E = some ce.cls)
    (kk : W p l e R s m args below meth c H locs cells slots Q (F0 m x.handlerPc ls [.ref q])) : vx_W p l e R s m args below meth c H locs cells slots Q (F0 m pc ls rest) q := by
  intro T hT X
  obtain ⟨k, hk, hlk⟩ := xh_link X hown hl
  have hasg : s.vm.assignable ce.cls k = true := by
    obtain ⟨j1, j2, w1, w2, w3⟩ := Cond.castable_spec hca
    rw [Option.some.inj (w1.symm.trans hcl), Option.some.inj (w2.symm.trans hk)] at w3
    exact w3
  obtain ⟨n1, n2, n3⟩ := xh_note hlk X.warmed
  have hfit : T.vm.assignable ce.cls k = true := by rw [X.warmed.alike.assignable]; exact hasg
  have hcq : ∃ r, T.vm.classes[ce.cls]? = some r := Vm.classAt_of_assignable hfit n3
  obtain ⟨t2, a1, b1⟩ := kk (T.setVm (T.vm.noted m.cls x.catchType (.cls k))) hT (X.noted n1)
  refine ⟨t2, xh_step (vm1 := T.vm.noted m.cls x.catchType (.cls k)) (pc := x.handlerPc) (g := F0 m pc ls rest) X.here (fun P E2 d acts => ?_) a1, b1⟩
  rw [W.findHandler_eq (s := (T.setTop (F0 m pc ls rest)).pushFrame (.throwing q)) (f := F0 m pc ls rest) X.method' X.code, hs, xh_row (S := (T.setTop (F0 m pc ls rest)).pushFrame (.throwing q)) (f := F0 m pc ls rest) hx h0 n2 (by rw [← hT] at hcell; exact hcell) hv hcq n3, if_pos (show ((T.setTop (F0 m pc ls rest)).pushFrame (.throwing q)).vm.assignable ce.cls k = true from hfit)]
  rfl
/-- the first row lets it pass, the second takes it -/
theorem xh_second {own nm nm1 E : String} {ce : Cell} {q : Addr} {pc : Nat} {ls : Array Slot} {rest : List Value} {x y : ExceptionTableEntry} {t : List ExceptionTableEntry} (hown : s.vm.findClass own = some m.cls) (hs : c.exceptionTable.toList = x :: y :: t) (hx : covers x pc = true) (h0 : x.catchType ≠ 0) (hl : (Cond.classLink own x.catchType nm).before args s = true) (hno : va_Nc E nm s) (hy : covers y pc = true) (h1 : y.catchType ≠ 0) (hl1 : (Cond.classLink own y.catchType nm1).before args s = true) (hca : va_Nw (.castable E nm1) s) (hcell : H[q]? = some ce) (hv : ce.vm = .none) (hcl : s.vm.findClass E = some ce.cls)
    (kk : W p l e R s m args below meth c H locs cells slots Q (F0 m y.handlerPc ls [.ref q])) : vx_W p l e R s m args below meth c H locs cells slots Q (F0 m pc ls rest) q := by
  intro T hT X
  obtain ⟨k, hk, hlk⟩ := xh_link X hown hl
  obtain ⟨k1, hk1, hlk1⟩ := xh_link X hown hl1
  have hnasg : s.vm.assignable ce.cls k = false := by
    obtain ⟨j1, j2, w1, w2, w3⟩ := hno
    rw [Option.some.inj (w1.symm.trans hcl), Option.some.inj (w2.symm.trans hk)] at w3
    exact w3
  have hasg : s.vm.assignable ce.cls k1 = true := by
    obtain ⟨j1, j2, w1, w2, w3⟩ := Cond.castable_spec hca
    rw [Option.some.inj (w1.symm.trans hcl), Option.some.inj (w2.symm.trans hk1)] at w3
    exact w3
  obtain ⟨n1, n2, n3⟩ := xh_note hlk X.warmed
  obtain ⟨m1, m2, m3⟩ := xh_note (S := T.setVm (T.vm.noted m.cls x.catchType (.cls k))) hlk1 n1
  obtain ⟨p1, p2, p3⟩ := xh_note hlk1 X.warmed
  have hfit0 : T.vm.assignable ce.cls k = false := by rw [X.warmed.alike.assignable]; exact hnasg
  have hfit1 : T.vm.assignable ce.cls k1 = true := by rw [X.warmed.alike.assignable]; exact hasg
  have hfit2 : (T.vm.noted m.cls x.catchType (.cls k)).assignable ce.cls k1 = true := by rw [n1.alike.assignable]; exact hasg
  have hcq : ∃ r, T.vm.classes[ce.cls]? = some r := Vm.classAt_of_assignable hfit1 p3
  have hcq2 : ∃ r, (T.vm.noted m.cls x.catchType (.cls k)).classes[ce.cls]? = some r := Vm.classAt_of_assignable hfit2 m3
  rw [← hT] at hcell
  obtain ⟨t2, a1, b1⟩ := kk (T.setVm ((T.vm.noted m.cls x.catchType (.cls k)).noted m.cls y.catchType (.cls k1))) hT (X.noted m1)
  refine ⟨t2, xh_step (vm1 := (T.vm.noted m.cls x.catchType (.cls k)).noted m.cls y.catchType (.cls k1)) (pc := y.handlerPc) (g := F0 m pc ls rest) X.here (fun P E2 d acts => ?_) a1, b1⟩
  rw [W.findHandler_eq (s := (T.setTop (F0 m pc ls rest)).pushFrame (.throwing q)) (f := F0 m pc ls rest) X.method' X.code, hs, xh_row (S := (T.setTop (F0 m pc ls rest)).pushFrame (.throwing q)) (f := F0 m pc ls rest) hx h0 n2 hcell hv hcq n3, if_neg (show ¬ ((T.setTop (F0 m pc ls rest)).pushFrame (.throwing q)).vm.assignable ce.cls k = true from by rw [show ((T.setTop (F0 m pc ls rest)).pushFrame (.throwing q)).vm.assignable ce.cls k = false from hfit0]; decide)]
  refine (xh_row (S := ((T.setTop (F0 m pc ls rest)).pushFrame (.throwing q)).setVm (T.vm.noted m.cls x.catchType (.cls k))) (f := F0 m pc ls rest) hy h1 m2 hcell hv hcq2 m3).trans ?_
  rw [if_pos (show (((T.setTop (F0 m pc ls rest)).pushFrame (.throwing q)).setVm (T.vm.noted m.cls x.catchType (.cls k))).vm.assignable ce.cls k1 = true from hfit2)]
  rfl
end XH
