/-! a callee's throw, caught by a row of this method's own table behind rows that pass it on -/
section XH
variable {e : Env} {s₀ : State} {f : JFrame} {a : Addr} {cell : Cell}
/-- what a row that covers the place does: it notes its class, takes the object or hands it on -/
theorem xh_row {Q : Handler → Pre} {E : CtlPost} {d : Bool} {acts : List Action} {S : State} {x : ExceptionTableEntry} {t : List ExceptionTableEntry} {c : ClassId} (hx : covers x f.pc = true) (h0 : x.catchType ≠ 0) (hl : S.vm.ClassLinks e.platform f.method.cls x.catchType c) (hcell : S.heap[a]? = some cell) (hobj : ∀ k, cell.vm ≠ .statics k) (hk : ∃ k, S.vm.classes[cell.cls]? = some k) (hc : ∃ k, S.vm.classes[c]? = some k) :
    wp (findHandler.go f a (x :: t)) Q E e d acts S ↔ if S.vm.assignable cell.cls c = true then Q (.found x.handlerPc) d acts (S.setVm (S.vm.noted f.method.cls x.catchType (.cls c))) else wp (findHandler.go f a t) Q E e d acts (S.setVm (S.vm.noted f.method.cls x.catchType (.cls c))) := by
  have hal : S.vm.Alike (S.vm.noted f.method.cls x.catchType (.cls c)) := (Vm.Alike.refl S.vm).noted _ _ _
  have hres := (resolveClass_links e.toSetting hl).op (op := VmOp.resolveClass f.method.cls x.catchType) rfl
  rcases hk with ⟨k1, hk1⟩
  rcases hc with ⟨k2, hk2⟩
  rcases hal.2.2 _ _ hk1 with ⟨m1, hm1, -⟩
  rcases hal.2.2 _ _ hk2 with ⟨m2, hm2, -⟩
  have has : (S.vm.noted f.method.cls x.catchType (.cls c)).assignable cell.cls c = S.vm.assignable cell.cls c := hal.assignable _ _
  simp only [covers] at hx
  cases hv : S.vm.assignable cell.cls c <;> simp [findHandler.go, hx, h0, hres.1, hres.2, hcell, hobj, hm1, hm2, has, hv, VmOp.dirties, VmOp.acts]
theorem xh_go (hobj : ∀ k, cell.vm ≠ .statics k) (hk0 : ∃ k, s₀.vm.classes[cell.cls]? = some k) {x : ExceptionTableEntry} {rest : List ExceptionTableEntry} (hx : covers x f.pc = true) (h0 : x.catchType ≠ 0) {cT : ClassId} (hl : s₀.vm.ClassLinks e.platform f.method.cls x.catchType cT) (hfit : s₀.vm.assignable cell.cls cT = true) :
    ∀ (pre : List ExceptionTableEntry) (S : State), s₀.WarmedH S.vm → S.heap[a]? = some cell → (∀ y ∈ pre, covers y f.pc = false ∨ (y.catchType ≠ 0 ∧ ∃ c, s₀.vm.ClassLinks e.platform f.method.cls y.catchType c ∧ s₀.vm.assignable cell.cls c = false)) →
      ∃ vm', s₀.WarmedH vm' ∧ ∀ (Q : Handler → Pre) (E : CtlPost) (d : Bool) (acts : List Action), wp (findHandler.go f a (pre ++ x :: rest)) Q E e d acts S ↔ Q (.found x.handlerPc) d acts (S.setVm vm') := by
  rcases hk0 with ⟨k0, hk0⟩
  have step : ∀ (S : State), s₀.WarmedH S.vm → S.heap[a]? = some cell → ∀ (y : ExceptionTableEntry) (c : ClassId) (t : List ExceptionTableEntry), covers y f.pc = true → y.catchType ≠ 0 → s₀.vm.ClassLinks e.platform f.method.cls y.catchType c →
      s₀.WarmedH (S.vm.noted f.method.cls y.catchType (.cls c)) ∧ ∀ (Q : Handler → Pre) (E : CtlPost) (d : Bool) (acts : List Action), (wp (findHandler.go f a (y :: t)) Q E e d acts S ↔ if s₀.vm.assignable cell.cls c = true then Q (.found y.handlerPc) d acts (S.setVm (S.vm.noted f.method.cls y.catchType (.cls c))) else wp (findHandler.go f a t) Q E e d acts (S.setVm (S.vm.noted f.method.cls y.catchType (.cls c)))) := by
    intro S hW hcell y c t hy hy0 hyl
    rcases hyl.here with ⟨dk, _, _, kt, hd, _, _, _, _, hkt, _, hopen⟩
    rcases hW.alike.2.2 _ _ hk0 with ⟨j0, hj0, -⟩
    rcases hW.alike.2.2 _ _ hkt with ⟨jt, hjt, -⟩
    refine ⟨hW.noted hd hopen (State.rightAt_cls hyl), fun Q E d acts => ?_⟩
    rw [xh_row hy hy0 (hW.classLinks hyl) hcell hobj ⟨j0, hj0⟩ ⟨jt, hjt⟩, hW.alike.assignable]
  intro pre
  induction pre with
  | nil =>
    intro S hW hcell _
    rcases step S hW hcell x cT rest hx h0 hl with ⟨h1, h2⟩
    exact ⟨_, h1, fun Q E d acts => by rw [List.nil_append, h2, if_pos hfit]⟩
  | cons y ys ih =>
    intro S hW hcell hp
    have hys := fun z hz => hp z (List.mem_cons_of_mem y hz)
    cases hcov : covers y f.pc with
    | false =>
      rcases ih S hW hcell hys with ⟨vm', h1, h2⟩
      exact ⟨vm', h1, fun Q E d acts => by rw [List.cons_append, W.findHandler_go_skip hcov]; exact h2 Q E d acts⟩
    | true =>
      rcases hp y List.mem_cons_self with h | ⟨hy0, c, hyl, hno⟩
      · rw [h] at hcov; cases hcov
      · rcases step S hW hcell y c (ys ++ x :: rest) hcov hy0 hyl with ⟨h1, h2⟩
        rcases ih (S.setVm (S.vm.noted f.method.cls y.catchType (.cls c))) h1 hcell hys with ⟨vm', h3, h4⟩
        exact ⟨vm', h3, fun Q E d acts => by rw [List.cons_append, h2, if_neg (by rw [hno]; decide)]; exact h4 Q E d acts⟩
theorem xh_frames (u : State) (vm' : Vm) (F G : List Frame) : ((u.setFrames F).setVm vm').setFrames G = (u.setVm vm').setFrames G := by
  show ((u.setVm vm').setFrames F).setFrames G = _
  rw [State.setFrames_setFrames]
variable {p : Program} {l : Launch} {R : Room} {s : State} {m : MethodId} {args : Array Value} {below : List Frame} {meth : Method} {c : Code} {T : State} {locs : List Loc} {cells slots : Nat}
theorem xh_caught (X : Stand p l e R s m args below meth c T locs cells slots) {g : JFrame} (hg : g.method = m) (hcell : T.heap[a]? = some cell) (hobj : cell.vm.isStatics = false) (hk0 : ∃ k, s.vm.classes[cell.cls]? = some k)
    (pre : List ExceptionTableEntry) (x : ExceptionTableEntry) (rest : List ExceptionTableEntry) (hsplit : c.exceptionTable.toList = pre ++ x :: rest)
    (hpass : ∀ y ∈ pre, covers y g.pc = false ∨ (y.catchType ≠ 0 ∧ ∃ c, s.vm.ClassLinks e.platform m.cls y.catchType c ∧ s.vm.assignable cell.cls c = false)) (hx : covers x g.pc = true) (h0 : x.catchType ≠ 0) {cT : ClassId} (hl : s.vm.ClassLinks e.platform m.cls x.catchType cT) (hfit : s.vm.assignable cell.cls cT = true) :
    ∃ vm', Stand p l e R s m args below meth c (T.setVm vm') locs cells slots ∧ Steps p.tables e below ((T.setTop g).pushFrame (.throwing a)) ((T.setVm vm').setTop { g with pc := x.handlerPc, stack := [.ref a] }) := by
  subst hg
  have hst : ∀ k, cell.vm ≠ .statics k := fun k h => by rw [h] at hobj; cases hobj
  rcases xh_go (e := e) (f := g) (a := a) hst hk0 (rest := rest) hx h0 hl hfit pre ((T.setTop g).pushFrame (.throwing a)) X.warmed hcell hpass with ⟨vm', hW', hq⟩
  refine ⟨vm', X.noted hW', ?_⟩
  have hfind : ∀ (Q : Handler → Pre) (E : CtlPost) (d : Bool) (acts : List Action), wp (findHandler g a) Q E e d acts ((T.setTop g).pushFrame (.throwing a)) ↔ Q (.found x.handlerPc) d acts (((T.setTop g).pushFrame (.throwing a)).setVm vm') := fun Q E d acts => by
    rw [W.findHandler_eq (s := (T.setTop g).pushFrame (.throwing a)) (f := g) (meth := meth) (code := c) X.method' X.code, hsplit]
    exact hq Q E d acts
  have hcatch : ∀ r : List Frame, (stepThrowing e ((T.setTop g).pushFrame (.throwing a)) a (.java g :: r)).Is ((((T.setTop g).pushFrame (.throwing a)).setVm vm').setFrames (.java { g with pc := x.handlerPc, stack := [.ref a] } :: r)) [] := by
    intro r
    simp only [stepThrowing, searchFrame, vmDo]
    generalize hr : Sem.go _ e false [] ((T.setTop g).pushFrame (.throwing a)) = res
    rcases Sem.eq_ok_of hr (a := Handler.found x.handlerPc) (s' := ((T.setTop g).pushFrame (.throwing a)).setVm vm') (acts' := []) (by simp [hfind _ _ _ _]) with ⟨as, rfl, ha⟩
    exact ⟨rfl, ha⟩
  rcases X.here.throwing a with ⟨hgo, hw⟩
  refine Steps.head hgo hw ?_
  rw [stepThread_throwing (frames_entered X.here.top _), (hcatch _).1]
  rcases Option.isSome_iff_exists.mp X.here.top with ⟨g₀, hg0⟩
  rcases State.topJava?_eq_some.mp hg0 with ⟨r, hr⟩
  have hr' : (T.setVm vm').frames = .java g₀ :: r := hr
  rw [State.setTop_of_frames _ hr', hr, List.tail_cons, State.pushFrame, xh_frames, State.setTop_of_frames _ hr, xh_frames]
  exact Steps.refl _
end XH
