/-- one row of a table, whose kind is linked: it takes the thrown one, or it is passed -/
theorem k_row {e : Env} {d : Bool} {acts : List Action} {S : State} {f : JFrame} {a : Addr} {Q : Handler → Pre} {EP : CtlPost} {x : ExceptionTableEntry} {t : List ExceptionTableEntry} {c : ClassId} {cell : Cell} (hx : covers x f.pc = true) (h0 : x.catchType ≠ 0)
    (hl : S.vm.ClassLinks e.platform f.method.cls x.catchType c) (hcell : S.heap[a]? = some cell) (hobj : ∀ k, cell.vm ≠ .statics k) (hk : ∃ k, S.vm.classes[cell.cls]? = some k) (hc : ∃ k, S.vm.classes[c]? = some k) (bb : Bool) (hfit : S.vm.assignable cell.cls c = bb) :
    wp (findHandler.go f a (x :: t)) Q EP e d acts S ↔ (match bb with | true => Q (.found x.handlerPc) d acts (S.setVm (S.vm.noted f.method.cls x.catchType (.cls c))) | false => wp (findHandler.go f a t) Q EP e d acts (S.setVm (S.vm.noted f.method.cls x.catchType (.cls c)))) := by
  have hx2 : (x.startPc ≤ f.pc && f.pc < x.endPc) = true := hx
  obtain ⟨ha, ht⟩ := (resolveClass_links e.toSetting hl).op (op := VmOp.resolveClass f.method.cls x.catchType) rfl
  have hal : S.vm.Alike (S.vm.noted f.method.cls x.catchType (.cls c)) := (Vm.Alike.refl S.vm).noted _ _ _
  obtain ⟨k1, hk1⟩ := hk
  obtain ⟨k2, hk2⟩ := hc
  obtain ⟨k1', hk1', -⟩ := hal.2.2 _ _ hk1
  obtain ⟨k2', hk2', -⟩ := hal.2.2 _ _ hk2
  have hfit' : (S.vm.noted f.method.cls x.catchType (.cls c)).assignable cell.cls c = bb := by rw [hal.assignable]; exact hfit
  cases bb <;> simp [findHandler.go, hx2, h0, ha, ht, hcell, hobj, hk1', hk2', hfit', VmOp.dirties, VmOp.acts]
/-- the search through rows that all reach here: the first that takes E -/
theorem k_rows {e : Env} {s : State} {args : Array Value} {f : JFrame} {a : Addr} {cell : Cell} {own E : String} (hpl : e.platform.magicAccessors = ({} : Platform).magicAccessors) (hown : s.vm.findClass own = some f.method.cls) (hobj : ∀ k, cell.vm ≠ .statics k) (hE : s.vm.findClass E = some cell.cls)
    (x : ExceptionTableEntry) (suf : List ExceptionTableEntry) (nm : String) (hx : covers x f.pc = true) (hx0 : x.catchType ≠ 0) (hxl : (Cond.classLink own x.catchType nm).before args s = true) (hxc : va_Nw (.castable E nm) s) :
    ∀ (pre : List (ExceptionTableEntry × String)) (S : State), s.WarmedH S.vm → S.heap[a]? = some cell → (∀ y ∈ pre, covers y.1 f.pc = true ∧ y.1.catchType ≠ 0 ∧ (Cond.classLink own y.1.catchType y.2).before args s = true ∧ va_Nc E y.2 s) →
      ∃ vm', s.WarmedH vm' ∧ ∀ (Q : Handler → Pre) (EP : CtlPost) (d : Bool) (acts : List Action), wp (findHandler.go f a (pre.map (fun y => y.1) ++ x :: suf)) Q EP e d acts S ↔ Q (.found x.handlerPc) d acts (S.setVm vm') := by
  obtain ⟨k0, hk0, -⟩ := Vm.findClass_spec hE
  intro pre
  induction pre with
  | nil =>
    intro S hW hcell _
    obtain ⟨k0', hk0', -⟩ := hW.alike.2.2 _ _ hk0
    obtain ⟨c3, c4, hc3, hc4, hasg⟩ := Cond.castable_spec hxc
    cases Option.some.inj (hc3.symm.trans hE)
    obtain ⟨c5, hc5, hcl5⟩ := Cond.classLink_spec hown hxl e.platform hpl
    cases Option.some.inj (hc4.symm.trans hc5)
    obtain ⟨dk, _, _, kt, hd, _, _, _, _, hkt, _, hopen⟩ := hcl5.here
    obtain ⟨kt', hkt', -⟩ := hW.alike.2.2 _ _ hkt
    exact ⟨_, hW.noted hd hopen (State.rightAt_cls hcl5), fun Q EP d acts => k_row hx hx0 (hW.classLinks hcl5) hcell hobj ⟨k0', hk0'⟩ ⟨kt', hkt'⟩ true (by rw [hW.alike.assignable]; exact hasg)⟩
  | cons y ys ih =>
    intro S hW hcell hall
    obtain ⟨k0', hk0', -⟩ := hW.alike.2.2 _ _ hk0
    obtain ⟨y1, y2, y3, y4⟩ := hall y List.mem_cons_self
    obtain ⟨c3, c4, hc3, hc4, hasg⟩ := y4
    cases Option.some.inj (hc3.symm.trans hE)
    obtain ⟨c5, hc5, hcl5⟩ := Cond.classLink_spec hown y3 e.platform hpl
    cases Option.some.inj (hc4.symm.trans hc5)
    obtain ⟨dk, _, _, kt, hd, _, _, _, _, hkt, _, hopen⟩ := hcl5.here
    obtain ⟨kt', hkt', -⟩ := hW.alike.2.2 _ _ hkt
    obtain ⟨vm', hW', hq⟩ := ih (S.setVm (S.vm.noted f.method.cls y.1.catchType (.cls c4))) (hW.noted hd hopen (State.rightAt_cls hcl5)) hcell (fun z hz => hall z (List.mem_cons_of_mem _ hz))
    exact ⟨vm', hW', fun Q EP d acts => (k_row y1 y2 (hW.classLinks hcl5) hcell hobj ⟨k0', hk0'⟩ ⟨kt', hkt'⟩ false (by rw [hW.alike.assignable]; exact hasg)).trans (hq Q EP d acts)⟩
/-- caught: on to the handler -/
theorem k_caught {p : Program} {l : Launch} {e : Env} {R : Room} {s : State} {m : MethodId} {args : Array Value} {below : List Frame} {meth : Method} {c : Code} {H : Heap} {locs : List Loc} {cells slots : Nat} {Q : State → Prop} {pc : Nat} {ls : Array Slot} {rest : List Value} {own E : String} {ce : Cell} {q : Addr}
    (hown : s.vm.findClass own = some m.cls) (pre : List (ExceptionTableEntry × String)) (x : ExceptionTableEntry) (nm : String) (suf : List ExceptionTableEntry) (hsplit : c.exceptionTable.toList = pre.map (fun y => y.1) ++ x :: suf)
    (hpre : ∀ y ∈ pre, covers y.1 pc = true ∧ y.1.catchType ≠ 0 ∧ (Cond.classLink own y.1.catchType y.2).before args s = true ∧ va_Nc E y.2 s) (hx : covers x pc = true) (hx0 : x.catchType ≠ 0) (hxl : (Cond.classLink own x.catchType nm).before args s = true) (hxc : va_Nw (.castable E nm) s)
    (hcell : H[q]? = some ce) (hv : ce.vm = .none) (hcl : s.vm.findClass E = some ce.cls) (kk : W p l e R s m args below meth c H locs cells slots Q (F0 m x.handlerPc ls [.ref q])) : vx_W p l e R s m args below meth c H locs cells slots Q (F0 m pc ls rest) q := by
  intro T hT X
  have hpl : e.platform.magicAccessors = ({} : Platform).magicAccessors := by rw [X.admits.platform]
  have hobj : ∀ k, ce.vm ≠ .statics k := fun k => by rw [hv]; intro h; cases h
  obtain ⟨vm', hW', hq⟩ := k_rows (f := F0 m pc ls rest) (a := q) (cell := ce) hpl hown hobj hcl x suf nm hx hx0 hxl hxc pre ((T.setTop (F0 m pc ls rest)).pushFrame (.throwing q)) X.warmed (by
    show T.heap[q]? = some ce
    rw [hT]; exact hcell) hpre
  have hfind : ∀ (Q2 : Handler → Pre) (EP : CtlPost) (d : Bool) (acts : List Action), wp (findHandler (F0 m pc ls rest) q) Q2 EP e d acts ((T.setTop (F0 m pc ls rest)).pushFrame (.throwing q)) ↔ Q2 (.found x.handlerPc) d acts (((T.setTop (F0 m pc ls rest)).pushFrame (.throwing q)).setVm vm') := by
    intro Q2 EP d acts
    rw [W.findHandler_eq (meth := meth) (code := c) X.method' X.code, hsplit]
    exact hq Q2 EP d acts
  have hstep : (stepThrowing e ((T.setTop (F0 m pc ls rest)).pushFrame (.throwing q)) q (.java (F0 m pc ls rest) :: T.frames.tail)).Is ((((T.setTop (F0 m pc ls rest)).pushFrame (.throwing q)).setVm vm').setFrames (.java { F0 m pc ls rest with pc := x.handlerPc, stack := [.ref q] } :: T.frames.tail)) [] := by
    simp only [stepThrowing, searchFrame, vmDo]
    generalize hr : Sem.go _ e false [] _ = res
    obtain ⟨as, rfl, ha⟩ := Sem.eq_ok_of hr (a := Handler.found x.handlerPc) (s' := ((T.setTop (F0 m pc ls rest)).pushFrame (.throwing q)).setVm vm') (acts' := []) (by simp [hfind _ _ _ _])
    exact ⟨rfl, ha⟩
  obtain ⟨t, a1, b1⟩ := kk (T.setVm vm') hT (X.noted hW')
  refine ⟨t, ?_, b1⟩
  have h : At T m c below := X.here
  obtain ⟨hgo, hw⟩ := At.throwing (g := F0 m pc ls rest) h q
  refine Steps.head hgo hw ?_
  obtain ⟨g₀, hg⟩ := Option.isSome_iff_exists.mp h.top
  obtain ⟨r, hr⟩ := State.topJava?_eq_some.mp hg
  rw [stepThread_throwing (frames_entered h.top _)]
  have e9 : T.frames.tail = r := by rw [hr]; rfl
  rw [hstep.1]
  have hr' : (T.setVm vm').frames = .java g₀ :: r := hr
  have e1 : (((T.setTop (F0 m pc ls rest)).pushFrame (.throwing q)).setVm vm').setFrames (.java { F0 m pc ls rest with pc := x.handlerPc, stack := [.ref q] } :: T.frames.tail) = (T.setVm vm').setTop (F0 m x.handlerPc ls [.ref q]) := by
    rw [State.setTop_of_frames _ hr', e9, State.pushFrame, State.setTop_of_frames _ hr]
    have e2 : ∀ (u : State) (F : List Frame), (u.setFrames F).setVm vm' = (u.setVm vm').setFrames F := fun _ _ => rfl
    rw [e2, State.setFrames_setFrames, e2, State.setFrames_setFrames]
  rw [e1]
  exact a1
