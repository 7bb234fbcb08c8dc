/-! ONE STEP, all instructions; then a whole body, then a method. -/
def ir_cx (w : ir_Wd) (p : Program) (l : Launch) (R : Room) (s : State) (m : MethodId) (args : Array Value) (meth : Method) (c : Code) (y d : Nat) : Prop :=
  p.tables.exec = Jvm.exec ∧ c.code = ir_co y ∧ c.maxLocals = ir_ml y ∧ s.vm.findClass (ir_on (ir_o y)) = some m.cls ∧ (∀ v ∈ ir_Tb, v.before args s = true) ∧ ir_ext w s s.heap ∧ w.1 + 1 ≤ s.heap.size ∧ l.stackTraces = false ∧ meth.locks = false ∧ meth.name = (ir_nm y).name ∧ meth.sig.returnType = (ir_mo y).2.2.2.2 ∧
  c.exceptionTable.toList = tableOf (ir_hh y) ∧ d + 6 ≤ R.frames ∧ 100 + 48 * d ≤ R.locals ∧ y < 383
def ir_Gd (w : ir_Wd) (p : Program) (l : Launch) (e : Env) (R : Room) (s : State) (m : MethodId) (args : Array Value) (below : List Frame) (meth : Method) (c : Code) (z : (Option Value ⊕ Nat) × ir_M) (c0 s0 : Nat) (pc : Nat) (L : ir_L) (st : List Value) (M : ir_M) : Prop :=
  ∀ (H : Heap) (locs : List Loc), ir_rep w M H → va_S (ir_A w) s.heap H locs → ir_at w s c0 s0 M → ir_V w p l e R s m args below meth c H locs (ir_nc M - c0) (ir_ns M - s0) (vx_MQ below (ir_Qc w z.1 z.2) (ir_XC w z.1 z.2) args s (ir_nc z.2 - c0) (ir_ns z.2 - s0) (ir_A w)) pc L st
theorem ir_hcL_le : ∀ e ∈ ir_hcL, 1 ≤ e.2.2 ∧ e.2.2 ≤ 4 := by decide +kernel
theorem ir_xL_le : ∀ e ∈ ir_xL, 1 ≤ e.2.2.1 ∧ e.2.2.1 ≤ 4 := by decide +kernel
theorem ir_b_inv {F : ir_F} {hd : ir_H} {pc n t : Nat} {L : ir_L} {r : List Value} {g : ir_R} {z : (Option Value ⊕ Nat) × ir_M}
    (h : (match t with
    | 0 => ir_bV g (fun M' => F n L r M') (fun e M' => ir_hx F pc L e M' hd)
    | 1 => ir_bI g (fun v M' => F n L (.int v :: r) M') (fun e M' => ir_hx F pc L e M' hd)
    | 2 => ir_bJ g (fun v M' => F n L (.long v :: r) M') (fun e M' => ir_hx F pc L e M' hd)
    | _ => ir_bP g (fun v M' => F n L (.ref v :: r) M') (fun e M' => ir_hx F pc L e M' hd)) = some z) :
    ∃ z' : (Option Value ⊕ Nat) × ir_M, g = some z' ∧ ((∃ v : Option Value, z'.1 = .inl v ∧ F n L (v.toList ++ r) z'.2 = some z) ∨ ∃ e, z'.1 = .inr e ∧ ir_hx F pc L e z'.2 hd = some z) := by
  split at h
  · unfold ir_bV at h
    split at h
    · exact ⟨_, rfl, Or.inl ⟨none, rfl, h⟩⟩
    · exact ⟨_, rfl, Or.inr ⟨_, rfl, h⟩⟩
    · exact nomatch h
  · unfold ir_bI at h
    split at h
    · exact ⟨_, rfl, Or.inl ⟨_, rfl, h⟩⟩
    · exact ⟨_, rfl, Or.inr ⟨_, rfl, h⟩⟩
    · exact nomatch h
  · unfold ir_bJ at h
    split at h
    · exact ⟨_, rfl, Or.inl ⟨_, rfl, h⟩⟩
    · exact ⟨_, rfl, Or.inr ⟨_, rfl, h⟩⟩
    · exact nomatch h
  · unfold ir_bP at h
    split at h
    · exact ⟨_, rfl, Or.inl ⟨_, rfl, h⟩⟩
    · exact ⟨_, rfl, Or.inr ⟨_, rfl, h⟩⟩
    · exact nomatch h
theorem ir_hn_gr {F : ir_F} {pc k : Nat} {L : ir_L} {M : ir_M} {z : (Option Value ⊕ Nat) × ir_M} (hF : ∀ pc L st, F pc L st M = some z → ir_gr M z.2) : ∀ hd : ir_H, ir_hn F pc L k M hd = some z → ir_gr M z.2
  | [], h => nomatch h
  | (f, t, x, s, p) :: l, h => by
    unfold ir_hn at h
    split at h
    · split at h
      · obtain ⟨L', h, -⟩ := ir_ms_inv _ _ _ h
        exact hF _ _ _ h
      · exact ir_hn_gr hF l h
    · exact ir_hn_gr hF l h
theorem ir_hx_gr {F : ir_F} {pc k : Nat} {L : ir_L} {M : ir_M} {z : (Option Value ⊕ Nat) × ir_M} {hd : ir_H} (h : ir_hx F pc L k M hd = some z) (hF : ∀ pc L st, F pc L st M = some z → ir_gr M z.2) : ir_gr M z.2 := by
  cases hd with
  | nil => cases (Option.some.inj h); exact ir_gr.rf M
  | cons q l => exact ir_hn_gr hF (q :: l) h
theorem ir_mapL {w : ir_Wd} (v : Option Value) (r : List Value) : (v.map (ir_tr w)).toList ++ r.map (ir_tr w) = (v.toList ++ r).map (ir_tr w) := by
  cases v <;> rfl
section IRH
variable {p : Program} {l : Launch} {e : Env} {R : Room} {s : State} {m : MethodId} {args : Array Value} {below : List Frame} {meth : Method} {c : Code} {H : Heap} {locs : List Loc} {cells slots : Nat} {Q : State → Prop}
variable {w : ir_Wd} {M : ir_M} {F : ir_F} {z : (Option Value ⊕ Nat) × ir_M} {pc y : Nat} {L : ir_L} {ls : Array Slot} {rest : List Value}
theorem ir_lo_ms {ls' : Array Slot} {L' : ir_L} {i : Nat} {u : Value} (hc : w.2.2.1.category = 1) (h' : lv_has ls' L.length ((i, u) :: (ir_la w 0 L).filter (fun q => !(q.1 == i) && !(q.1 + 1 == i && q.2.category == 2)))) (hlen : L'.length = L.length)
    (hp : ∀ j x, ir_nth L' j = some (some x) → j ≠ i ∧ ir_nth L j = some (some x) ∧ ¬ (j + 1 = i ∧ x.category = 2)) : ir_lo w ls' L' := by
  refine ir_lo_sub h' hlen (fun j x hj => ?_)
  obtain ⟨h1, h2, h3⟩ := hp j x hj
  refine List.mem_cons_of_mem _ (List.mem_filter.mpr ⟨(ir_la_mem w L 0 _).mpr ⟨j, x, h2, by rw [Nat.zero_add]⟩, ?_⟩)
  dsimp only
  rw [ir_tr_cat hc]
  by_cases h4 : j + 1 = i
  · have : x.category ≠ 2 := fun q => h3 ⟨h4, q⟩
    simp [h1, this]
  · simp [h1, h4]
theorem ir_hand (hx : p.tables.exec = Jvm.exec) (hb : c.code = ir_co y) (ho : s.vm.findClass (ir_on (ir_o y)) = some m.cls) (hT : ∀ v ∈ ir_Tb, v.before args s = true) (hE : ir_ext w s s.heap) {k : Nat} (k1 : 1 ≤ k) (k4 : k ≤ 4) {ce : Cell} {q : Addr} (hcell : H[q]? = some ce) (hv : ce.vm = .none) (hcl : s.vm.findClass (ir_exn k) = some ce.cls)
    (hl : ir_lo w ls L) (hn : L.length = c.maxLocals) (hF : ∀ (pc : Nat) (L : ir_L) (st : List Value), F pc L st M = some z → ir_V w p l e R s m args below meth c H locs cells slots Q pc L st) :
    ∀ (a : ir_H) (b : List (Nat × Nat × Nat × Nat)) (pre : List ExceptionTableEntry), ir_hdp y a b = true → c.exceptionTable.toList = pre ++ tableOf b → (∀ x ∈ pre, covers x pc = false ∨ (x.catchType ≠ 0 ∧ ∃ nm : String, (Cond.classLink (ir_on (ir_o y)) x.catchType nm).before args s = true ∧ va_Nc (ir_exn k) nm s)) →
      ir_hn F pc L k M a = some z → vx_W p l e R s m args below meth c H locs cells slots Q (F0 m pc ls rest) q
  | [], _, _, _, _, _, h => nomatch h
  | _ :: _, [], _, h0, _, _, _ => nomatch h0
  | (f, t, ck, sl, pp) :: a, (f', t', hp, ct) :: b, pre, h0, htab, hpre, h => by
    have hcat : w.2.2.1.category = 1 := hE.2.2.2.2.2.2.2.2.2.2.2.2.2.2
    obtain ⟨g1, h01⟩ := ir_and h0
    obtain ⟨g2, h02⟩ := ir_and h01
    obtain ⟨g3, h03⟩ := ir_and h02
    obtain ⟨g4, h04⟩ := ir_and h03
    have e1 := ir_beq g1
    have e2 := ir_beq g2
    subst e1; subst e2
    have hm := ir_i3L_inv g3
    obtain ⟨c1, c2, c3⟩ := ir_hc_ok _ hm
    obtain ⟨b1, b4⟩ := ir_hcL_le _ hm
    dsimp only at c1 c2 c3 b1 b4
    have htab' : c.exceptionTable.toList = (pre ++ [⟨f, t, hp, ct⟩]) ++ tableOf b := by rw [htab]; simp [tableOf]
    unfold ir_hn at h
    split at h
    · rename_i hcv
      obtain ⟨v1, v2⟩ := ir_and hcv
      have v1 : f ≤ pc := Nat.le_of_ble_eq_true v1
      have v2 : pc < t := ir_blt v2
      by_cases hk : k = ck
      · rw [if_pos hk] at h
        subst hk
        obtain ⟨L', h, hlen, hlt, hq⟩ := ir_ms_inv _ _ _ h
        refine ir_catch ho pre ⟨f, t, hp, ct⟩ (tableOf b) (by rw [htab]; rfl) hpre (by simp [covers, v1, v2]) c3 (hT _ c1) (va_Nw.use rfl (hE.2.2.2.2.2.2.2.2.2.1 _ c2)) hcell hv hcl ?_
        have fin : ∀ ls' : Array Slot, lv_has ls' L.length ((sl, Value.ref q) :: (ir_la w 0 L).filter (fun q => !(q.1 == sl) && !(q.1 + 1 == sl && q.2.category == 2))) → W p l e R s m args below meth c H locs cells slots Q (F0 m pp ls' []) :=
          fun ls' h' => hF _ _ _ h ls' (ir_lo_ms hcat h' hlen hq) (hlen.trans hn)
        split at g4
        · rename_i j hd
          obtain ⟨j1, j2⟩ := ir_and g4
          have j1 := ir_beq j1
          have j2 := ir_beq j2
          subst j1; subst j2
          exact lv_astore hx hb hd (show lv_has ls L.length (ir_la w 0 L) from hl) hlt rfl fin
        · rename_i j hd
          obtain ⟨j1, j2⟩ := ir_and g4
          have j1 := ir_beq j1
          have j2 := ir_beq j2
          subst j2
          exact lv_astore_n hx hb hd j1 (show lv_has ls L.length (ir_la w 0 L) from hl) hlt rfl fin
        · exact nomatch g4
      · rw [if_neg hk] at h
        refine ir_hand hx hb ho hT hE k1 k4 hcell hv hcl hl hn hF a b _ h04 htab' (fun x hx' => ?_) h
        rcases List.mem_append.mp hx' with hx' | hx'
        · exact hpre x hx'
        · rw [List.mem_singleton.mp hx']
          exact Or.inr ⟨c3, ir_exn ck, hT _ c1, hE.2.2.2.2.2.2.2.2.2.2.1 k ck hk k1 k4 b1 b4⟩
    · rename_i hcv
      refine ir_hand hx hb ho hT hE k1 k4 hcell hv hcl hl hn hF a b _ h04 htab' (fun x hx' => ?_) h
      rcases List.mem_append.mp hx' with hx' | hx'
      · exact hpre x hx'
      · rw [List.mem_singleton.mp hx']
        refine Or.inl ?_
        cases hq : covers ⟨f, t, hp, ct⟩ pc with
        | false => rfl
        | true =>
          exfalso
          simp only [covers, Bool.and_eq_true, decide_eq_true_eq] at hq
          have : (Nat.ble f pc && Nat.blt pc t) = true := by rw [Nat.ble_eq_true_of_le hq.1, ir_blt_t hq.2]; rfl
          rw [this] at hcv
          exact nomatch hcv
end IRH
section IRT
variable {p : Program} {l : Launch} {e : Env} {R : Room} {s : State} {m : MethodId} {args : Array Value} {below : List Frame} {meth : Method} {c : Code} {c0 s0 : Nat}
variable {w : ir_Wd} {M : ir_M} {F : ir_F} {G : ir_G} {z : (Option Value ⊕ Nat) × ir_M} {pc y d n : Nat} {L : ir_L} {st : List Value} {x : List Nat}
theorem ir_hd_nil (hy : y < 383) (h : ir_hd y = []) : ir_hh y = [] := by
  have h1 := ir_hd_ok hy
  rw [h] at h1
  cases hq : ir_hh y with
  | nil => rfl
  | cons a b => rw [hq] at h1; exact nomatch h1
theorem ir_c_call (K : ir_cx w p l R s m args meth c y d) (hc : ir_nc z.2 ≤ c0 + R.cells) (hs : ir_ns z.2 ≤ s0 + R.slots) (hF : ∀ pc L st M', F pc L st M' = some z → ir_gr M' z.2 ∧ ir_Gd w p l e R s m args below meth c z c0 s0 pc L st M')
    (hG : ∀ y' as M' z', y' < 383 → y' ≠ ir_lawN → (ir_arg as).length ≤ ir_ml y' → G y' as M' = some z' → ir_gr M' z'.2 ∧ ∃ d', d = d' + 1 ∧ ir_Mt l w d' y' as M' z')
    {j kind y' k t rc : Nat} (hd : decode (ir_co y) pc = .ok ((match kind with | 0 => .invokevirtual j | 1 => .invokespecial j | _ => .invokestatic j), 3))
    (h : ir_tk k st [] (fun as r => ir_rm r (ir_ft0 y' as (ir_ck (ir_rcv M kind rc as) (match t with
    | 0 => ir_bV (G y' as M) (fun M' => F n L r M') (fun e M' => ir_hx F pc L e M' (ir_hd y))
    | 1 => ir_bI (G y' as M) (fun v M' => F n L (.int v :: r) M') (fun e M' => ir_hx F pc L e M' (ir_hd y))
    | 2 => ir_bJ (G y' as M) (fun v M' => F n L (.long v :: r) M') (fun e M' => ir_hx F pc L e M' (ir_hd y))
    | _ => ir_bP (G y' as M) (fun v M' => F n L (.ref v :: r) M') (fun e M' => ir_hx F pc L e M' (ir_hd y)))))) = some z)
    (hk3 : kind = 0 ∨ kind = 1 ∨ kind = 2) (hn : n = pc + 3) (hok : ir_oki y j kind (kind :: y' :: k :: t :: rc :: x) = true) : ir_Gd w p l e R s m args below meth c z c0 s0 pc L st M := by
  obtain ⟨hx, hb, hml, ho, hT, hE, hA, hlt, hlk, hnm, hret, htab, hfr, hlo, hy⟩ := K
  obtain ⟨as, r, rfl, hlen, h⟩ := ir_tk_inv _ _ _ _ h
  rw [List.append_nil] at h
  obtain ⟨hrm, h⟩ := ir_rm_inv h
  obtain ⟨hft, h⟩ := ir_ft0_inv h
  obtain ⟨hrcv, h⟩ := ir_ck_inv h
  obtain ⟨z', hg, h⟩ := ir_b_inv h
  have hok' : (Nat.beq kind kind && (ir_elM (ir_o y) j kind y' k rc && (Nat.blt y' 383 && (!(Nat.beq y' ir_lawN) && (Nat.beq t (ir_rtc y') && ((Nat.beq kind 2 || (ir_hh y').isEmpty) && (!(Nat.beq kind 1) || (ir_mo y').2.2.2.2.isNone))))))) = true := by
    rcases hk3 with rfl | rfl | rfl <;> exact hok
  have o3 := (ir_and (ir_and (ir_and hok').2).2)
  have hyl : y' ≠ ir_lawN := by
    intro q
    have o4 := (ir_and o3.2).1
    rw [q] at o4
    simp at o4
  obtain ⟨hgr, d', rfl, hM⟩ := hG y' as M z' (ir_blt o3.1) hyl hft hg
  obtain ⟨gr1, gr2, gr3⟩ := id hgr
  subst hn
  intro H locs hR hS hat ls hl hnn
  obtain ⟨at1, at2, at3⟩ := id hat
  have hzc : ir_nc z'.2 ≤ ir_nc z.2 ∧ ir_ns z'.2 ≤ ir_ns z.2 := by
    rcases h with ⟨v, -, h⟩ | ⟨k9, -, h⟩
    · have := (hF _ _ _ _ h).1
      exact ⟨this.1, this.2.1⟩
    · have := ir_hx_gr h (fun pc L st h => (hF pc L st _ h).1)
      exact ⟨this.1, this.2.1⟩
  refine ir_size fun hz => ?_
  have hzz : ir_ex M = true → H.size = w.1 + ir_nx M := by
    intro q
    have h1 := at3 q
    have h2 := hR.2.2.2.1
    omega
  have hcells : ∀ H1 locs1 (g : JFrame), W p l e R s m args below meth c H1 locs1 (ir_nc z'.2 - c0) (ir_ns z'.2 - s0) (vx_MQ below (ir_Qc w z.1 z.2) (ir_XC w z.1 z.2) args s (ir_nc z.2 - c0) (ir_ns z.2 - s0) (ir_A w)) g → W p l e R s m args below meth c H1 locs1 (ir_nc M - c0 + (ir_nc z'.2 - ir_nc M)) (ir_ns M - s0 + (ir_ns z'.2 - ir_ns M)) (vx_MQ below (ir_Qc w z.1 z.2) (ir_XC w z.1 z.2) args s (ir_nc z.2 - c0) (ir_ns z.2 - s0) (ir_A w)) g := by
    intro H1 locs1 g hw
    rw [show ir_nc M - c0 + (ir_nc z'.2 - ir_nc M) = ir_nc z'.2 - c0 by omega, show ir_ns M - s0 + (ir_ns z'.2 - ir_ns M) = ir_ns z'.2 - s0 by omega]
    exact hw
  refine ir_after (ir_call hd hx hb (hl.1.trans hnn) ho hT hE hR hS hzz hfr hlo hok hk3 hlen hrm hrcv hM ⟨by omega, by omega⟩) hS (fun v H1 locs1 hv hR1 hS1 => ?_) (fun k9 ce q H1 locs1 hk k1 k4 hR1 hS1 hcell hcv hcl => ?_)
  · rcases h with ⟨v', hv', h⟩ | ⟨k9, hk9, -⟩
    · rw [hv'] at hv
      cases hv
      rw [ir_mapL]
      exact hcells _ _ _ ((hF _ _ _ _ h).2 H1 locs1 hR1 hS1 (hat.gr hgr) ls hl hnn)
    · rw [hk9] at hv
      exact nomatch hv
  · rcases h with ⟨v', hv', -⟩ | ⟨k8, hk8, h⟩
    · rw [hv'] at hk
      exact nomatch hk
    · rw [hk8] at hk
      cases hk
      rw [show ir_nc M - c0 + (ir_nc z'.2 - ir_nc M) = ir_nc z'.2 - c0 by omega, show ir_ns M - s0 + (ir_ns z'.2 - ir_ns M) = ir_ns z'.2 - s0 by omega]
      cases hh : ir_hd y with
      | nil =>
        rw [hh] at h
        have h : z = (.inr k9, z'.2) := (Option.some.inj h).symm
        subst h
        refine vx_out (E := ir_exn k9) (fun x9 hx9 => ?_) hlk hcell hcv hcl (fun t9 ht9 _ => ⟨⟨k9, rfl, k1, k4, rfl⟩, by rw [ht9]; exact hR1, hS1.F ht9⟩) hS1.2.2 (Nat.le_refl _) (Nat.le_refl _)
        rw [htab, ir_hd_nil hy hh] at hx9
        exact absurd hx9 List.not_mem_nil
      | cons q9 l9 =>
        have h2 := ir_hd_ok hy
        rw [hh] at h h2
        exact ir_hand hx hb ho hT hE k1 k4 hcell hcv hcl hl hnn (fun pc L st h => (hF pc L st _ h).2 H1 locs1 hR1 hS1 (hat.gr hgr)) (q9 :: l9) (ir_hh y) [] h2 htab (fun x9 hx9 => absurd hx9 List.not_mem_nil) h
end IRT
