/-! CATCHING BY A TABLE OF ONE'S OWN: written anew, since what the printed rows name for it (a law of the shelf that rounds don't hold) isn't there. -/
section IRC
variable {p : Program} {l : Launch} {e : Env} {R : Room} {s : State} {m : MethodId} {args : Array Value} {below : List Frame} {meth : Method} {c : Code} {H : Heap} {locs : List Loc} {cells slots : Nat} {Q : State → Prop}
/-- the search along a table: rows that don't take the thrown cell, then one that does; the tables it leaves are warmer at most -/
theorem ir_seek {S s0 : State} {f : JFrame} {a : Addr} {cell : Cell} {k0 : Class} (hobj : ∀ k, cell.vm ≠ .statics k) (hk0 : s0.vm.classes[cell.cls]? = some k0)
    (x : ExceptionTableEntry) (suf : List ExceptionTableEntry) (hx : covers x f.pc = true) (hx0 : x.catchType ≠ 0) {ct : ClassId} (hxl : s0.vm.ClassLinks e.platform f.method.cls x.catchType ct) (hxa : s0.vm.assignable cell.cls ct = true) :
    ∀ (pre : List ExceptionTableEntry) (S : State), s0.WarmedH S.vm → S.heap[a]? = some cell →
      (∀ z ∈ pre, covers z f.pc = false ∨ (z.catchType ≠ 0 ∧ ∃ d, s0.vm.ClassLinks e.platform f.method.cls z.catchType d ∧ s0.vm.assignable cell.cls d = false)) →
      ∃ vm', s0.WarmedH vm' ∧ ∀ (Q : Handler → Pre) (E : CtlPost) (d : Bool) (acts : List Action), wp (findHandler.go f a (pre ++ x :: suf)) Q E e d acts S ↔ Q (.found x.handlerPc) d acts (S.setVm vm') := by
  intro pre
  induction pre with
  | nil =>
    intro S hW hcell _
    obtain ⟨dk, _, _, kt, hd, _, _, _, _, hkt, _, hopen⟩ := hxl.here
    have hW1 : s0.WarmedH (S.vm.noted f.method.cls x.catchType (.cls ct)) := hW.noted hd hopen (State.rightAt_cls hxl)
    refine ⟨_, hW1, fun Q E d acts => ?_⟩
    obtain ⟨q1, q2⟩ := (resolveClass_links e.toSetting (hW.classLinks hxl)).op (op := VmOp.resolveClass f.method.cls x.catchType) rfl
    obtain ⟨a1, ha1, -⟩ := hW1.alike.2.2 _ _ hk0
    obtain ⟨a2, ha2, -⟩ := hW1.alike.2.2 _ _ hkt
    have hasg := hxa
    rw [← hW1.alike.assignable] at hasg
    simp only [covers] at hx
    simp [findHandler.go, hx, hx0, q1, q2, hcell, hobj, ha1, ha2, hasg, VmOp.dirties, VmOp.acts]
  | cons y ys ih =>
    intro S hW hcell hp
    have hp' := fun z hz => hp z (List.mem_cons_of_mem _ hz)
    rcases hp y List.mem_cons_self with h | ⟨h0, d, hl, hno⟩
    · obtain ⟨vm', h1, h2⟩ := ih S hW hcell hp'
      refine ⟨vm', h1, fun Q E d acts => ?_⟩
      rw [List.cons_append, W.findHandler_go_skip h]
      exact h2 Q E d acts
    · by_cases hc : covers y f.pc = true
      · obtain ⟨dk, _, _, kt, hd, _, _, _, _, hkt, _, hopen⟩ := hl.here
        have hW1 : s0.WarmedH (S.vm.noted f.method.cls y.catchType (.cls d)) := hW.noted hd hopen (State.rightAt_cls hl)
        obtain ⟨vm', h1, h2⟩ := ih (S.setVm (S.vm.noted f.method.cls y.catchType (.cls d))) hW1 hcell hp'
        refine ⟨vm', h1, fun Q E d acts => ?_⟩
        obtain ⟨q1, q2⟩ := (resolveClass_links e.toSetting (hW.classLinks hl)).op (op := VmOp.resolveClass f.method.cls y.catchType) rfl
        obtain ⟨a1, ha1, -⟩ := hW1.alike.2.2 _ _ hk0
        obtain ⟨a2, ha2, -⟩ := hW1.alike.2.2 _ _ hkt
        have hasg := hno
        rw [← hW1.alike.assignable] at hasg
        have h3 := h2 Q E d acts
        simp only [covers] at hc
        refine Iff.trans ?_ h3
        rw [List.cons_append]
        simp [findHandler.go, hc, h0, q1, q2, hcell, hobj, ha1, ha2, hasg, VmOp.dirties, VmOp.acts]
      · obtain ⟨vm', h1, h2⟩ := ih S hW hcell hp'
        refine ⟨vm', h1, fun Q E d acts => ?_⟩
        rw [List.cons_append, W.findHandler_go_skip (by simpa using hc)]
        exact h2 Q E d acts
/-- one step: the machine goes from the note over the frame to the handler -/
theorem ir_land {tb : Tables} {S target : State} {g : JFrame} {a : Addr} (h : At S g.method c below) {pc : Nat} {vm' : Vm}
    (hf : ∀ (Q : Handler → Pre) (E : CtlPost) (d : Bool) (acts : List Action), wp (findHandler g a) Q E e d acts ((S.setTop g).pushFrame (.throwing a)) ↔ Q (.found pc) d acts (((S.setTop g).pushFrame (.throwing a)).setVm vm'))
    (hrest : Steps tb e below ((S.setVm vm').setTop { g with pc := pc, stack := [.ref a] }) target) : Steps tb e below ((S.setTop g).pushFrame (.throwing a)) target := by
  obtain ⟨hgo, hw⟩ := h.throwing a
  refine Steps.head hgo hw ?_
  have hstep : (stepThrowing e ((S.setTop g).pushFrame (.throwing a)) a (.java g :: S.frames.tail)).1 = (((S.setTop g).pushFrame (.throwing a)).setVm vm').setFrames (.java { g with pc := pc, stack := [.ref a] } :: S.frames.tail) := by
    simp only [stepThrowing, searchFrame, vmDo]
    generalize hr : Sem.go _ e false [] ((S.setTop g).pushFrame (.throwing a)) = res
    obtain ⟨as, rfl, ha⟩ := Sem.eq_ok_of hr (a := Handler.found pc) (s' := ((S.setTop g).pushFrame (.throwing a)).setVm vm') (acts' := []) (by simp [hf _ _ _ _])
    rfl
  rw [stepThread_throwing (frames_entered h.top _), hstep]
  obtain ⟨g0, hg⟩ := Option.isSome_iff_exists.mp h.top
  obtain ⟨r, hr⟩ := State.topJava?_eq_some.mp hg
  have hr' : (S.setVm vm').frames = .java g0 :: r := hr
  rw [State.setTop_of_frames _ hr'] at hrest
  have e1 : (((S.setTop g).pushFrame (.throwing a)).setVm vm').setFrames (.java { g with pc := pc, stack := [.ref a] } :: S.frames.tail) = (S.setVm vm').setFrames (.java { g with pc := pc, stack := [.ref a] } :: r) := by
    rw [State.pushFrame, State.setTop_of_frames _ hr, hr, List.tail_cons]
    show (((S.setVm vm').setFrames _).setFrames _).setFrames _ = _
    rw [State.setFrames_setFrames, State.setFrames_setFrames]
  rw [e1]
  exact hrest
/-- caught by the row x of this method's table; the rows ahead of it don't take it -/
theorem ir_catch {pc : Nat} {ls : Array Slot} {rest : List Value} {own name E : String} {ce : Cell} {q : Addr} (hown : s.vm.findClass own = some m.cls) (pre : List ExceptionTableEntry) (x : ExceptionTableEntry) (suf : List ExceptionTableEntry) (hsplit : c.exceptionTable.toList = pre ++ x :: suf)
    (hpass : ∀ z ∈ pre, covers z pc = false ∨ (z.catchType ≠ 0 ∧ ∃ nm : String, (Cond.classLink own z.catchType nm).before args s = true ∧ va_Nc E nm s)) (hx : covers x pc = true) (h0 : x.catchType ≠ 0)
    (hlink : (Cond.classLink own x.catchType name).before args s = true) (hcast : (Cond.castable E name).before args s = true) (hcell : H[q]? = some ce) (hv : ce.vm = .none) (hcl : s.vm.findClass E = some ce.cls)
    (kk : W p l e R s m args below meth c H locs cells slots Q (F0 m x.handlerPc ls [.ref q])) : vx_W p l e R s m args below meth c H locs cells slots Q (F0 m pc ls rest) q := by
  intro T hT X
  have hpl : e.platform.magicAccessors = ({} : Platform).magicAccessors := by rw [X.admits.platform]
  obtain ⟨c3, c4, hc3, hc4, hasg⟩ := Cond.castable_spec hcast
  cases Option.some.inj (hc3.symm.trans hcl)
  obtain ⟨c5, hc5, hcl5⟩ := Cond.classLink_spec hown hlink e.platform hpl
  cases Option.some.inj (hc4.symm.trans hc5)
  obtain ⟨k9, h9, -⟩ := Vm.findClass_spec hcl
  have hobj : ∀ k, ce.vm ≠ .statics k := fun k hk => by rw [hv] at hk; cases hk
  obtain ⟨vm', hW', hq⟩ := ir_seek (S := T) (e := e) (s0 := s) (f := F0 m pc ls rest) (a := q) hobj h9 x suf hx h0 hcl5 hasg pre ((T.setTop (F0 m pc ls rest)).pushFrame (.throwing q)) X.warmed (by rw [← hT] at hcell; exact hcell)
    (fun z hz => by
      rcases hpass z hz with h | ⟨hz0, nm, hl1, hn1⟩
      · exact Or.inl h
      · obtain ⟨c6, hc6, hcl6⟩ := Cond.classLink_spec hown hl1 e.platform hpl
        obtain ⟨a8, b8, h1, h2, h3⟩ := hn1
        cases Option.some.inj (h1.symm.trans hcl)
        cases Option.some.inj (h2.symm.trans hc6)
        exact Or.inr ⟨hz0, _, hcl6, h3⟩)
  obtain ⟨t, a1, b1⟩ := kk (T.setVm vm') hT (X.noted hW')
  refine ⟨t, ?_, b1⟩
  refine ir_land (c := c) (S := T) (g := F0 m pc ls rest) X.here (pc := x.handlerPc) (vm' := vm') (fun Q E d acts => ?_) a1
  have hm9 : ((T.setTop (F0 m pc ls rest)).pushFrame (.throwing q)).vm.method? (F0 m pc ls rest).method = some meth := X.method'
  rw [W.findHandler_eq hm9 X.code, hsplit]
  exact hq Q E d acts
end IRC
