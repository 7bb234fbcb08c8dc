/-! CALLS: what a method is asked for and gives; the machine's call from a frame; what comes behind it. -/
def ir_at (w : ir_Wd) (s : State) (c0 s0 : Nat) (M : ir_M) : Prop := c0 ≤ ir_nc M ∧ s0 ≤ ir_ns M ∧ (ir_ex M = true → s.heap.size + ir_nc M = w.1 + ir_nx M + c0)
theorem ir_at.gr {w : ir_Wd} {s : State} {c0 s0 : Nat} {M M' : ir_M} (h : ir_at w s c0 s0 M) (g : ir_gr M M') : ir_at w s c0 s0 M' := by
  obtain ⟨h1, h2, h3⟩ := h
  obtain ⟨g1, g2, g3⟩ := g
  refine ⟨by omega, by omega, fun q => ?_⟩
  obtain ⟨k1, k2⟩ := g3 q
  have := h3 k1
  omega
def ir_Pc (w : ir_Wd) (as : List Value) (M : ir_M) : Array Value → State → Prop := fun a U => a = (as.map (ir_tr w)).toArray ∧ ir_rep w M U.heap ∧ ir_ext w U U.heap ∧ (ir_ex M = true → U.heap.size = w.1 + ir_nx M)
def ir_Qc (w : ir_Wd) (r : Option Value ⊕ Nat) (M : ir_M) : Array Value → State → Outcome → State → Prop := fun _ st o t => (∃ v, r = .inl v ∧ o = .returned (v.map (ir_tr w))) ∧ ir_rep w M t.heap ∧ va_F (ir_A w) st t
def ir_XC (w : ir_Wd) (r : Option Value ⊕ Nat) (M : ir_M) : String → State → State → Prop := fun E st t => (∃ k, r = .inr k ∧ 1 ≤ k ∧ k ≤ 4 ∧ E = ir_exn k) ∧ ir_rep w M t.heap ∧ va_F (ir_A w) st t
def ir_rmm (d mc ms : Nat) : Room := { frames := d + 6, locals := 100 + 48 * d, cells := mc, slots := ms }
def ir_ws (y : Nat) : List Cond := ir_cw y :: ir_Tb
def ir_Mt (l : Launch) (w : ir_Wd) (d y : Nat) (as : List Value) (M : ir_M) (z : (Option Value ⊕ Nat) × ir_M) : Prop :=
  vx_Met l (ir_nm y) (ir_ws y) (ir_rmm d (ir_nc z.2 - ir_nc M) (ir_ns z.2 - ir_ns M)) (ir_Pc w as M) (ir_Qc w z.1 z.2) (ir_XC w z.1 z.2) (ir_nc z.2 - ir_nc M) (ir_ns z.2 - ir_ns M) (ir_A w)
theorem ir_Pc_blind (w : ir_Wd) (as : List Value) (M : ir_M) : FrameBlind (ir_Pc w as M) := fun a U g mk h => ⟨h.1, h.2.1, ir_ext_same (s := U) (U := U.calling g mk a) rfl h.2.2.1, h.2.2.2⟩
theorem ir_good : GoodIn ir_Tb ir_Tb := fun w hw => ⟨hw, good_of_word (List.mem_filter.mp hw).2⟩
theorem ir_ws_good {y : Nat} (h : ir_cw y ∈ ir_Tb) : GoodIn ir_Tb (ir_ws y) := by
  intro v hv
  rcases List.mem_cons.mp hv with rfl | hv
  · exact ⟨h, good_of_word (List.mem_filter.mp h).2⟩
  · exact ir_good v hv
theorem ir_cw_e {y : Nat} (h : (ir_hh y).isEmpty = true) : ir_cw y = Cond.code (ir_nm y) (ir_co y) (ir_mo y).2.2.2.1 (ir_mo y).2.2.2.2 := by
  unfold ir_cw
  split
  · rfl
  · rename_i h2
    cases hq : ir_hh y with
    | nil => exact absurd hq h2
    | cons a b => rw [hq] at h; exact nomatch h
theorem ir_cw_h {y : Nat} (h : ¬ (ir_hh y).isEmpty = true) : ir_cw y = Cond.codeWith (ir_nm y) (ir_co y) (ir_mo y).2.2.2.1 (ir_mo y).2.2.2.2 (ir_hh y) := by
  unfold ir_cw
  split
  · rename_i h2
    rw [h2] at h
    exact absurd rfl h
  · rfl
section IRC
variable {p : Program} {l : Launch} {e : Env} {R : Room} {s : State} {m : MethodId} {args : Array Value} {below : List Frame} {meth : Method} {c : Code}
/-- the constructor's call, with what it may throw -/
theorem ir_callI {T : State} {locs : List Loc} {cells slots : Nat} (X : Stand p l e R s m args below meth c T locs cells slots) (hexec : p.tables.exec = Jvm.exec) {own : String} {index : Nat} {y : MethodName} {bytes : ByteArray} {maxL : Nat}
    (hown : s.vm.findClass own = some m.cls) (hy1 : y.name = "<init>") (hlink : (Cond.methodLink own index y).before args s = true ∨ ∃ host, (Cond.methodLinkNest own index y host).before args s = true) (hinst : (Cond.instanceMethod y).before args s = true)
    (hcode : (Cond.code y bytes maxL none).before args s = true) (hy : y.cls ≠ "java/lang/invoke/MethodHandle" ∧ y.cls ≠ "java/lang/invoke/VarHandle")
    {W9 : Nat} {Pre : Pt → Array Value → Prop} {Post : Pt → Array Value → Option Value → Pt → Prop} {PostX : Pt → Array Value → Addr → Pt → Prop} (hK : vx_Back l R p e below s args y 3 W9 Pre Post PostX)
    {g : JFrame} (hg : g.method = m) (hsize : g.locals.size = c.maxLocals) {a : Addr} {argsL rest : List Value} (hlen : ∀ sig, parseMethodDescriptor y.desc = some sig → argsL.length = sig.parameters.length)
    (hstack : g.stack = argsL.reverse ++ .ref a :: rest) (hW : 2 * g.monitorRoom + (rest.map fun v => v.category).sum ≤ W9) (hdg : decode c.code g.pc = .ok (.invokespecial index, 3))
    (hpre : ∀ vm₁, s.WarmedH vm₁ → Pre ⟨T.setVm vm₁, locs, cells, slots⟩ (Value.ref a :: argsL).toArray) :
    (∃ (v : Option Value) (vm₁ : Vm) (B : Pt), s.WarmedH vm₁ ∧ Stand p l e R s m args below meth c B.U B.locs B.cells B.slots ∧ Post ⟨T.setVm vm₁, locs, cells, slots⟩ (Value.ref a :: argsL).toArray v B ∧
      ∀ target, Steps p.tables e below (B.U.setTop { g with pc := g.pc + 3, stack := v.toList ++ rest }) target → Steps p.tables e below (T.setTop g) target) ∨
    (∃ (q : Addr) (vm₁ : Vm) (B : Pt), s.WarmedH vm₁ ∧ Stand p l e R s m args below meth c B.U B.locs B.cells B.slots ∧ PostX ⟨T.setVm vm₁, locs, cells, slots⟩ (Value.ref a :: argsL).toArray q B ∧
      Steps p.tables e below (T.setTop g) ((B.U.setTop { g with stack := rest }).pushFrame (.throwing q))) := by
  subst hg
  have hpl : e.platform.magicAccessors = ({} : Platform).magicAccessors := by rw [X.admits.platform]
  have hst : ∃ (mk : MethodId) (vm₁ : Vm), s.methodNamed? y = some mk ∧ s.WarmedH vm₁ ∧ ∀ target, (∀ acts, Steps p.tables e below (doInvoke e ((T.setVm vm₁).setTop { g with stack := rest }) acts mk (Value.ref a :: argsL).toArray).1 target) → Steps p.tables e below (T.setTop g) target := by
    rcases hlink with hlink | ⟨host, hlink⟩
    · obtain ⟨mk, methM, cM, kP, vm₁, hnamed, -, -, -, -, -, -, -, hW₁, hstep₁⟩ := Steps.initColdArgs (e := e) X.here hexec X.warmed hpl hown hy1 hy hlink hinst hcode (f := g) rfl hlen hstack hdg
      exact ⟨mk, vm₁, hnamed, hW₁, hstep₁⟩
    · obtain ⟨mk, methM, cM, kP, vm₁, hnamed, -, -, -, -, -, -, -, hW₁, hstep₁⟩ := Steps.initColdArgsNest (e := e) X.here hexec X.warmed hpl hown hy1 hy hlink hinst hcode (f := g) rfl hlen hstack hdg
      exact ⟨mk, vm₁, hnamed, hW₁, hstep₁⟩
  obtain ⟨mk, vm₁, hnamed, hW₁, hstep₁⟩ := hst
  have X₁ := X.noted hW₁
  rcases hK g.method meth c ⟨T.setVm vm₁, locs, cells, slots⟩ { g with stack := rest } (.invokespecial index) mk (Value.ref a :: argsL).toArray X₁ rfl hsize hdg hW (X₁.named hnamed) (hpre vm₁ X₁.warmed) with ⟨v, B, X', hpost, hsteps⟩ | ⟨q, B, X', hpost, hsteps⟩
  · exact Or.inl ⟨v, vm₁, B, X₁.warmed, X', hpost, fun target h => hstep₁ _ fun acts => by rw [doInvoke_state]; exact hsteps.trans h⟩
  · exact Or.inr ⟨q, vm₁, B, X₁.warmed, X', hpost, hstep₁ _ fun acts => by rw [doInvoke_state]; exact hsteps⟩
variable {H : Heap} {locs : List Loc} {cells slots : Nat} {Q : State → Prop} {w : ir_Wd}
theorem ir_runI {y : MethodName} {bytes cc : ByteArray} {maxL mc ms n index : Nat} {ws : List Cond} {rm : Room} {Pc : Array Value → State → Prop} {Qc : Array Value → State → Outcome → State → Prop} {XC : String → State → State → Prop} {free : Addr → Prop} {own : String} {b : Addr} {As rest : List Value} {g : JFrame}
    (hx : p.tables.exec = Jvm.exec) (hb : c.code = cc) (ho : s.vm.findClass own = some m.cls) (hM : vx_Met l y ws rm Pc Qc XC mc ms free)
    (hrc : rm.cells = mc) (hrs : rm.slots = ms) (hfr : rm.frames + 1 ≤ R.frames) (hlo : 8 + (maxL + 11) + rm.locals ≤ R.locals) (hws : ∀ w ∈ ws, ∀ (a' : Array Value) (U : State), s.WarmedH U.vm → w.before a' U = true) (hcw : Cond.code y bytes maxL none ∈ ws)
    (hcode : (Cond.code y bytes maxL none).before args s = true) (hini : (Cond.initialized y.cls).before args s = true) (hy : y.cls ≠ "java/lang/invoke/MethodHandle" ∧ y.cls ≠ "java/lang/invoke/VarHandle") (hlen : ∀ sig, parseMethodDescriptor y.desc = some sig → n = sig.parameters.length)
    (hl : (Cond.methodLink own index y).before args s = true ∨ ∃ host, (Cond.methodLinkNest own index y host).before args s = true) (hy1 : y.name = "<init>") (hin : (Cond.instanceMethod y).before args s = true) (hp : PreS s H Pc (.ref b :: As))
    (hg : g.method = m) (hn : As.length = n) (hsize : g.locals.size = c.maxLocals) (hstack : g.stack = As.reverse ++ .ref b :: rest) (hW : 2 * g.monitorRoom + (rest.map fun v => v.category).sum ≤ 8) (hdg : decode cc g.pc = .ok (.invokespecial index, 3)) (hf : cells + mc ≤ R.cells ∧ slots + ms ≤ R.slots) :
    vx_Run p l e R s m args below meth c H locs cells slots mc ms g rest (Qc (Value.ref b :: As).toArray) XC free := by
  have hK : vx_Back l R p e below s args y 3 8 (PreOf R mc ms Pc) (PostOf Qc mc ms free) (vx_Post XC mc ms free) := vx_back (bytes := bytes) (maxL := maxL) (ret := none) hM hp.1 hrc hrs hfr hlo hws hcw (fun a' U hW => word_at hW (Or.inl (by first | rfl | simp [Cond.onTables, Cond.keeps, Cond.steady])) hini)
  intro T hT X
  rcases ir_callI X hx (bytes := bytes) (maxL := maxL) ho hy1 hl hin hcode hy hK hg hsize (a := b) (argsL := As) (rest := rest) (fun sig h => hn.trans (hlen sig h)) hstack hW (by rw [hb]; exact hdg)
    (fun vm₁ hW₁ => ⟨hf.1, hf.2, hp.2 (T.setVm vm₁) hT hW₁⟩) with ⟨v, vm₁, ⟨U', l2, c2, s2⟩, hW₁, X', ⟨g', mk, t, L, e1, e2, hq, h1, hL, h2, h3⟩, st⟩ | ⟨q, vm₁, ⟨U', l2, c2, s2⟩, hW₁, X', ⟨g', mk, t, L, E, ce, e1, e2, hq, hce, hcv, hcl, h1, hL, h2, h3⟩, st⟩
  · dsimp only [Pt.U, Pt.locs, Pt.cells, Pt.slots] at X' e1 e2 h1 h2 h3 st
    subst h1; subst h2; subst h3
    exact Or.inl ⟨v, (T.setVm vm₁).calling g' mk (Value.ref b :: As).toArray, t, U', L, hT, X', hL, e1, e2, hq, st⟩
  · dsimp only [Pt.U, Pt.locs, Pt.cells, Pt.slots] at X' e1 e2 h1 h2 h3 st hcl
    subst h1; subst h2; subst h3
    exact Or.inr ⟨q, (T.setVm vm₁).calling g' mk (Value.ref b :: As).toArray, t, U', L, E, ce, hT, X', hL, e1, e2, hq, hce, hcv, vx_cls hW₁ hcl, st⟩
/-- what comes behind a call -/
theorem ir_after {r : Option Value ⊕ Nat} {M' : ir_M} {a : Array Value} {mc ms pc : Nat} {ls : Array Slot} {st0 rest : List Value} (hr : vx_Run p l e R s m args below meth c H locs cells slots mc ms (F0 m pc ls st0) rest (ir_Qc w r M' a) (ir_XC w r M') (ir_A w)) (hS : va_S (ir_A w) s.heap H locs)
    (kk : ∀ (v : Option Value) (H1 : Heap) (locs1 : List Loc), r = .inl v → ir_rep w M' H1 → va_S (ir_A w) s.heap H1 locs1 → W p l e R s m args below meth c H1 locs1 (cells + mc) (slots + ms) Q (F0 m (pc + 3) ls ((v.map (ir_tr w)).toList ++ rest)))
    (kx : ∀ (k : Nat) (ce : Cell) (q : Addr) (H1 : Heap) (locs1 : List Loc), r = .inr k → 1 ≤ k → k ≤ 4 → ir_rep w M' H1 → va_S (ir_A w) s.heap H1 locs1 → H1[q]? = some ce → ce.vm = .none → s.vm.findClass (ir_exn k) = some ce.cls → vx_W p l e R s m args below meth c H1 locs1 (cells + mc) (slots + ms) Q (F0 m pc ls rest) q) :
    W p l e R s m args below meth c H locs cells slots Q (F0 m pc ls st0) := by
  intro T hT X
  rcases hr T hT X with ⟨v, st₀, t, T', L, h0, X', hL, e1, e2, ⟨⟨u, hu, hv⟩, hb, hF⟩, st⟩ | ⟨q, st₀, t, T', L, E, ce, h0, X', hL, e1, e2, ⟨⟨k, hk, k1, k4, hE⟩, hb, hF⟩, hce, hcv, hcl, st⟩
  · cases hv
    obtain ⟨k1, k2, k3⟩ := vx_keep h0 e1 hS (fun q _ h => h) (fun q h => h) hL hF
    obtain ⟨t2, a1, b1⟩ := kk u T'.heap (locs ++ L) hu (by rw [e1]; exact hb) k3 T' rfl X'
    exact ⟨t2, st t2 a1, b1⟩
  · subst hE
    obtain ⟨-, -, k3⟩ := vx_keep h0 e1 hS (fun q _ h => h) (fun q h => h) hL hF
    obtain ⟨t2, a1, b1⟩ := kx k ce q T'.heap (locs ++ L) hk k1 k4 (by rw [e1]; exact hb) k3 (by rw [e1]; exact hce) hcv hcl T' rfl X'
    exact ⟨t2, st.trans a1, b1⟩
theorem ir_pre {as : List Value} {M : ir_M} (hE : ir_ext w s s.heap) (hR : ir_rep w M H) (hS : va_S (ir_A w) s.heap H locs) (hz : ir_ex M = true → H.size = w.1 + ir_nx M) : ∀ U : State, U.heap = H → s.WarmedH U.vm → ir_Pc w as M (as.map (ir_tr w)).toArray U := by
  intro U hU hW
  refine ⟨rfl, by rw [hU]; exact hR, ?_, by rw [hU]; exact hz⟩
  rw [hU]
  exact ir_ext_kept hS.2.1 (ir_ext_warm hW hE)
/-- the call of method y' by an instruction of kind 0, 1 or 2 -/
theorem ir_ex6 {b : Nat} (h : 1000000 ≤ b ∧ b < 1000055) : ∃ i : Nat, i < 55 ∧ b = 1000000 + i := ⟨b - 1000000, by omega, by omega⟩
theorem ir_call {M : ir_M} {z' : (Option Value ⊕ Nat) × ir_M} {y y' d j pc kind k rc t : Nat} {x : List Nat} {as r : List Value} {ls : Array Slot} (hd : decode (ir_co y) pc = .ok ((match kind with | 0 => .invokevirtual j | 1 => .invokespecial j | _ => .invokestatic j), 3)) (hx : p.tables.exec = Jvm.exec) (hb : c.code = ir_co y) (hml : ls.size = c.maxLocals) (ho : s.vm.findClass (ir_on (ir_o y)) = some m.cls) (hT : ∀ v ∈ ir_Tb, v.before args s = true) (hE : ir_ext w s s.heap)
    (hR : ir_rep w M H) (hS : va_S (ir_A w) s.heap H locs) (hz : ir_ex M = true → H.size = w.1 + ir_nx M) (hfr : d + 1 + 6 ≤ R.frames) (hlo : 100 + 48 * (d + 1) ≤ R.locals)
    (hok : ir_oki y j kind (kind :: y' :: k :: t :: rc :: x) = true) (hk3 : kind = 0 ∨ kind = 1 ∨ kind = 2) (hlen : as.length = k) (hrm : (r.map ir_cat).sum ≤ 8) (hrcv : ir_rcv M kind rc as = true) (hM : ir_Mt l w d y' as M z')
    (hf : cells + (ir_nc z'.2 - ir_nc M) ≤ R.cells ∧ slots + (ir_ns z'.2 - ir_ns M) ≤ R.slots) :
    vx_Run p l e R s m args below meth c H locs cells slots (ir_nc z'.2 - ir_nc M) (ir_ns z'.2 - ir_ns M) (F0 m pc ls ((as.reverse ++ r).map (ir_tr w))) (r.map (ir_tr w)) (ir_Qc w z'.1 z'.2 (as.map (ir_tr w)).toArray) (ir_XC w z'.1 z'.2) (ir_A w) := by
  have hcat : w.2.2.1.category = 1 := hE.2.2.2.2.2.2.2.2.2.2.2.2.2.2
  have hW8 : 2 * (F0 m pc ls ((as.reverse ++ r).map (ir_tr w))).monitorRoom + ((r.map (ir_tr w)).map fun v => v.category).sum ≤ 8 := lv_room (by rw [ir_sum_cat hcat]; exact hrm)
  have hok' : (Nat.beq kind kind && (ir_elM (ir_o y) j kind y' k rc && (Nat.blt y' 383 && (!(Nat.beq y' ir_lawN) && (Nat.beq t (ir_rtc y') && ((Nat.beq kind 2 || (ir_hh y').isEmpty) && (!(Nat.beq kind 1) || (ir_mo y').2.2.2.2.isNone))))))) = true := by
    rcases hk3 with rfl | rfl | rfl <;> exact hok
  obtain ⟨-, o2⟩ := ir_and hok'
  obtain ⟨o2, o3⟩ := ir_and o2
  obtain ⟨o3, o4⟩ := ir_and o3
  obtain ⟨o4, o5⟩ := ir_and o4
  obtain ⟨-, o6⟩ := ir_and o5
  obtain ⟨o6, o7⟩ := ir_and o6
  have hy : y' < 383 := ir_blt o3
  have hyl : y' ≠ ir_lawN := by
    intro q
    rw [q] at o4
    simp at o4
  obtain ⟨w1, w2, w3, w4, w5⟩ := ir_cw_ok y' hy hyl
  have hG := ir_ws_good w1
  have hpre := ir_pre (as := as) hE hR hS hz
  have hmP := ir_elM_inv o2
  have hfr' : (ir_rmm d (ir_nc z'.2 - ir_nc M) (ir_ns z'.2 - ir_ns M)).frames + 1 ≤ R.frames := by show d + 6 + 1 ≤ R.frames; omega
  have hlo' : 8 + ((ir_mo y').2.2.2.1 + 11) + (ir_rmm d (ir_nc z'.2 - ir_nc M) (ir_ns z'.2 - ir_ns M)).locals ≤ R.locals := by
    show 8 + ((ir_mo y').2.2.2.1 + 11) + (100 + 48 * d) ≤ R.locals
    omega
  have hSf : CallFix p m c (ir_co y) c.maxLocals s args ir_Tb (ir_on (ir_o y)) := ⟨hx, hb, rfl, ho, hT⟩
  rcases hk3 with rfl | rfl | rfl
  · obtain ⟨v1, v2, v3, v4, ⟨k', rfl, v5⟩, v6⟩ := (show ir_VOK (ir_o y) j y' k rc from hmP)
    have hem : (ir_hh y').isEmpty = true := o6
    obtain ⟨b, as', rfl⟩ : ∃ (b : Nat) (as' : List Value), as = .ref b :: as' := by
      cases as with
      | nil => exact nomatch hrcv
      | cons a9 t9 => cases a9 <;> first | exact ⟨_, _, rfl⟩ | exact nomatch hrcv
    have hg : ir_gk M b rc = true := hrcv
    obtain ⟨hkd, hn⟩ := ir_gk_inv hg
    have hcell : ∃ cellB : Cell, H[ir_ro w b]? = some cellB ∧ cellB.vm.isStatics = false ∧ s.vm.findClass (ir_nm y').cls = some cellB.cls := by
      rcases v6 with ⟨q, q1, q2⟩ | ⟨q1, q2⟩
      · have hrc : rc < 13 := (List.getElem?_eq_some_iff.mp q1).1
        have hb1 : b < 1000000 := ir_kd_own hkd (by omega)
        obtain ⟨a1, a2, a3⟩ := ir_own_at hR hb1 hn (by omega)
        rw [ir_ce_o hkd (by omega)] at a3
        rw [ir_ro_own hb1, ← q2]
        exact va_recv hE.1 hR.1 q1 a3
      · rw [q1] at hkd
        have hb1 : ¬ b < 1000000 := fun q => ir_lay_ne b q hkd
        rw [ir_kd_ext hb1] at hkd
        have hb2 : 1000000 ≤ b ∧ b < 1000055 := by
          split at hkd
          · assumption
          · split at hkd
            · exact nomatch hkd
            · split at hkd <;> exact nomatch hkd
        obtain ⟨i, hi, rfl⟩ := ir_ex6 hb2
        obtain ⟨cell, z1, z2, z3, z4⟩ := va_O.kept (hE.2.1 i hi).1.1 hS.2.1
        rw [ir_ro_ext hb1, q2]
        exact ⟨cell, z1, z2, z3⟩
    refine vx_runV (cc := ir_co y) (nL := c.maxLocals) (Ts := ir_Tb) (own := ir_on (ir_o y)) (C := (ir_nm y').cls) (index := j) (bytes := ir_co y') (maxL := (ir_mo y').2.2.2.1) (ret := (ir_mo y').2.2.2.2) (n := k') (b := ir_ro w b) (As := as'.map (ir_tr w)) hSf hM
      ⟨callB_of k' hT hG (ws' := ir_Tb) (by rw [ir_ws, ir_cw_e hem]) rfl rfl (hT _ v4) (hT _ v1) v5 ⟨hfr', hlo'⟩, hT _ v2, hT _ v3⟩ ⟨ir_Pc_blind w _ M, hcell, hpre⟩ rfl (by simpa using hlen) hml ?_ hW8 hd hf
    show List.map (ir_tr w) ((.ref b :: as').reverse ++ r) = _
    simp [List.map_append, List.map_reverse, ir_tr]
  · obtain ⟨v1, v2, v4, v3, ⟨k', rfl, v5⟩⟩ := (show ir_IOK (ir_o y) j y' k from hmP)
    have hem : (ir_hh y').isEmpty = true := o6
    have hno : (ir_mo y').2.2.2.2 = none := Option.isNone_iff_eq_none.mp o7
    obtain ⟨b, as', rfl⟩ : ∃ (b : Nat) (as' : List Value), as = .ref b :: as' := by
      cases as with
      | nil => exact nomatch hrcv
      | cons a9 t9 => cases a9 <;> first | exact ⟨_, _, rfl⟩ | exact nomatch hrcv
    have hlk : (Cond.methodLink (ir_on (ir_o y)) j (ir_nm y')).before args s = true ∨ ∃ host, (Cond.methodLinkNest (ir_on (ir_o y)) j (ir_nm y') host).before args s = true := by
      rcases v1 with v1 | ⟨h, v1⟩
      · exact Or.inl (hT _ v1)
      · exact Or.inr ⟨h, va_Nw.use rfl (hE.2.2.2.2.2.2.2.2.2.1 _ v1)⟩
    have hcw : Cond.code (ir_nm y') (ir_co y') (ir_mo y').2.2.2.1 none ∈ ir_ws y' := by
      rw [ir_ws, ir_cw_e hem, hno]; exact List.mem_cons_self
    refine ir_runI (cc := ir_co y) (own := ir_on (ir_o y)) (index := j) (bytes := ir_co y') (maxL := (ir_mo y').2.2.2.1) (n := k') (b := ir_ro w b) (As := as'.map (ir_tr w)) hx hb ho hM rfl rfl hfr' hlo' (pay_in hT hG) hcw (hT _ (hG _ hcw).1) (hT _ v4) ⟨v5.1, v5.2.1⟩ (fun sig h => ?_) hlk v3 (hT _ v2) ⟨ir_Pc_blind w _ M, hpre⟩ rfl (by simpa using hlen) hml ?_ hW8 hd hf
    · have h2 := v5.2.2
      rw [h] at h2
      exact (Option.some.inj h2).symm
    · show List.map (ir_tr w) ((.ref b :: as').reverse ++ r) = _
      simp [List.map_append, List.map_reverse, ir_tr]
  · obtain ⟨v1, v2, v4, v5⟩ := (show ir_SOK (ir_o y) j y' k from hmP)
    have hst : (F0 m pc ls ((as.reverse ++ r).map (ir_tr w))).stack = (as.map (ir_tr w)).reverse ++ r.map (ir_tr w) := by
      show List.map (ir_tr w) (as.reverse ++ r) = _
      simp [List.map_append, List.map_reverse]
    by_cases hem : (ir_hh y').isEmpty = true
    · exact vx_runS (cc := ir_co y) (nL := c.maxLocals) (Ts := ir_Tb) (own := ir_on (ir_o y)) (index := j) (bytes := ir_co y') (maxL := (ir_mo y').2.2.2.1) (ret := (ir_mo y').2.2.2.2) (n := k) (As := as.map (ir_tr w)) hSf hM
        ⟨callB_of k hT hG (ws' := ir_Tb) (by rw [ir_ws, ir_cw_e hem]) rfl rfl (hT _ v4) (hT _ v1) v5 ⟨hfr', hlo'⟩, hT _ v2⟩ ⟨ir_Pc_blind w _ M, hpre⟩ rfl (by simpa using hlen) hml hst hW8 hd hf
    · have hcw : Cond.codeWith (ir_nm y') (ir_co y') (ir_mo y').2.2.2.1 (ir_mo y').2.2.2.2 (ir_hh y') ∈ ir_ws y' := by
        rw [ir_ws, ir_cw_h hem]; exact List.mem_cons_self
      refine vx_runSX (hh := ir_hh y') (cc := ir_co y) (nL := c.maxLocals) (Ts := ir_Tb) (own := ir_on (ir_o y)) (index := j) (bytes := ir_co y') (maxL := (ir_mo y').2.2.2.1) (ret := (ir_mo y').2.2.2.2) (n := k) (As := as.map (ir_tr w)) hSf hM
        ⟨⟨rfl, rfl, hfr', hlo', pay_in hT hG, hcw⟩, hT _ (hG _ hcw).1, hT _ v4, ⟨v5.1, v5.2.1⟩, fun sig h => ?_, hT _ v1, hT _ v2⟩ ⟨ir_Pc_blind w _ M, hpre⟩ rfl (by simpa using hlen) hml hst hW8 hd hf
      have h2 := v5.2.2
      rw [h] at h2
      exact (Option.some.inj h2).symm
end IRC
