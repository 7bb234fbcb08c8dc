/-! ONE STEP, the instructions that leave the memory as it is. -/
def ir_V (w : ir_Wd) (p : Program) (l : Launch) (e : Env) (R : Room) (s : State) (m : MethodId) (args : Array Value) (below : List Frame) (meth : Method) (c : Code) (H : Heap) (locs : List Loc) (cells slots : Nat) (Q : State → Prop) (pc : Nat) (L : ir_L) (st : List Value) : Prop :=
  ∀ ls : Array Slot, ir_lo w ls L → L.length = c.maxLocals → W p l e R s m args below meth c H locs cells slots Q (F0 m pc ls (st.map (ir_tr w)))
theorem ir_lk_sw {pc : Nat} {a : Int32} {d : Nat} {dflt : Int} (hd : (pc : Int) + dflt = (d : Int)) {k : Nat → ir_R} {z : (Option Value ⊕ Nat) × ir_M} : ∀ (ps : List (Int × Int)) (x : List Nat), ir_lkS pc ps x = true → ir_swt k a d x = some z → ∃ t : Nat, k t = some z ∧ (pc : Int) + Op.lookupswitch.offset ps dflt a.toInt = (t : Int)
  | [], [], _, h => ⟨d, h, hd⟩
  | [], _ :: _, h0, _ => nomatch h0
  | _ :: _, [], h0, _ => nomatch h0
  | (_, _) :: _, [_], h0, _ => nomatch h0
  | (q, o) :: ps, c :: t :: x, h0, h => by
    obtain ⟨h1, h2⟩ := ir_and h0
    obtain ⟨h2, h3⟩ := ir_and h2
    have h1 := of_decide_eq_true h1
    have h2 := of_decide_eq_true h2
    unfold ir_swt at h
    by_cases ha : a = Int32.ofNat c
    · rw [if_pos ha] at h
      refine ⟨t, h, ?_⟩
      rw [Op.lookupswitch.offset_cons, if_pos (by rw [ha, h1])]
      exact h2
    · rw [if_neg ha] at h
      rw [lv_osw ha h1]
      exact ir_lk_sw hd ps x h3 h
theorem ir_tb_sw {pc : Nat} {a : Int32} {d : Nat} {k : Nat → ir_R} {z : (Option Value ⊕ Nat) × ir_M} : ∀ (os : List Int) (lo : Int) (x : List Nat), ir_tbS pc lo os x = true → ir_swt k a d x = some z → (∃ (j t : Nat) (o : Int), os[j]? = some o ∧ a.toInt = lo + (j : Int) ∧ (pc : Int) + o = (t : Int) ∧ k t = some z) ∨ ((∀ j : Nat, j < os.length → a.toInt ≠ lo + (j : Int)) ∧ k d = some z)
  | [], lo, [], _, h => Or.inr ⟨fun j hj => absurd hj (Nat.not_lt_zero j), h⟩
  | [], _, _ :: _, h0, _ => nomatch h0
  | _ :: _, _, [], h0, _ => nomatch h0
  | _ :: _, _, [_], h0, _ => nomatch h0
  | o :: os, lo, c :: t :: x, h0, h => by
    obtain ⟨h1, h2⟩ := ir_and h0
    obtain ⟨h2, h3⟩ := ir_and h2
    have h1 := of_decide_eq_true h1
    have h2 := of_decide_eq_true h2
    unfold ir_swt at h
    by_cases ha : a = Int32.ofNat c
    · rw [if_pos ha] at h
      exact Or.inl ⟨0, t, o, rfl, by rw [ha, h1]; omega, h2, h⟩
    · rw [if_neg ha] at h
      rcases ir_tb_sw os (lo + 1) x h3 h with ⟨j, t', o', g1, g2, g3, g4⟩ | ⟨g1, g2⟩
      · exact Or.inl ⟨j + 1, t', o', g1, by rw [g2]; omega, g3, g4⟩
      · refine Or.inr ⟨fun j hj => ?_, g2⟩
        cases j with
        | zero =>
          intro q
          exact lv_neT ha h1 (by rw [q]; omega)
        | succ j =>
          intro q
          exact g1 j (by simp only [List.length_cons] at hj; omega) (by rw [q]; omega)
theorem ir_tr_ext {w : ir_Wd} {a : Nat} (h : ¬ a < 1000000) : ir_tr w (.ref a) = .ref (w.2.1 a) := congrArg Value.ref (ir_ro_ext h)
section IRS
variable {p : Program} {l : Launch} {e : Env} {R : Room} {s : State} {m : MethodId} {args : Array Value} {below : List Frame} {meth : Method} {c : Code} {H : Heap} {locs : List Loc} {cells slots : Nat} {Q : State → Prop}
variable {w : ir_Wd} {M : ir_M} {F : ir_F} {z : (Option Value ⊕ Nat) × ir_M} {pc y n : Nat} {L : ir_L} {st : List Value} {x : List Nat} {v : Value}
theorem ir_c_iconst (hx : p.tables.exec = Jvm.exec) (hb : c.code = ir_co y) (hF : ∀ (pc : Nat) (L : ir_L) (st : List Value), F pc L st M = some z → ir_V w p l e R s m args below meth c H locs cells slots Q pc L st) (k : Int) (hok : (ir_d y pc (.iconst k) 1 n && decide (v = .int (Int32.ofInt k))) = true) (h : F n L (v :: st) M = some z) : ir_V w p l e R s m args below meth c H locs cells slots Q pc L st := by
  obtain ⟨h1, h2⟩ := ir_and hok
  obtain ⟨hd, rfl⟩ := ir_d_inv h1
  have h2 := of_decide_eq_true h2
  subst h2
  exact fun ls hl hn => lv_iconst hx hb hd rfl (hF _ _ _ h ls hl hn)
theorem ir_c_bipush (hx : p.tables.exec = Jvm.exec) (hb : c.code = ir_co y) (hF : ∀ (pc : Nat) (L : ir_L) (st : List Value), F pc L st M = some z → ir_V w p l e R s m args below meth c H locs cells slots Q pc L st) (k : Int) (hok : (ir_d y pc (.bipush k) 2 n && decide (v = .int (Int8.ofInt k).toInt32)) = true) (h : F n L (v :: st) M = some z) : ir_V w p l e R s m args below meth c H locs cells slots Q pc L st := by
  obtain ⟨h1, h2⟩ := ir_and hok
  obtain ⟨hd, rfl⟩ := ir_d_inv h1
  have h2 := of_decide_eq_true h2
  subst h2
  exact fun ls hl hn => lv_bipush hx hb hd rfl (hF _ _ _ h ls hl hn)
theorem ir_c_sipush (hx : p.tables.exec = Jvm.exec) (hb : c.code = ir_co y) (hF : ∀ (pc : Nat) (L : ir_L) (st : List Value), F pc L st M = some z → ir_V w p l e R s m args below meth c H locs cells slots Q pc L st) (k : Int) (hok : (ir_d y pc (.sipush k) 3 n && decide (v = .int (Int16.ofInt k).toInt32)) = true) (h : F n L (v :: st) M = some z) : ir_V w p l e R s m args below meth c H locs cells slots Q pc L st := by
  obtain ⟨h1, h2⟩ := ir_and hok
  obtain ⟨hd, rfl⟩ := ir_d_inv h1
  have h2 := of_decide_eq_true h2
  subst h2
  exact fun ls hl hn => lv_sipush hx hb hd rfl (hF _ _ _ h ls hl hn)
theorem ir_c_lconst (hx : p.tables.exec = Jvm.exec) (hb : c.code = ir_co y) (hF : ∀ (pc : Nat) (L : ir_L) (st : List Value), F pc L st M = some z → ir_V w p l e R s m args below meth c H locs cells slots Q pc L st) (k : Fin 2) (hok : (ir_d y pc (.lconst k) 1 n && decide (v = .long (Int64.ofNat k))) = true) (h : F n L (v :: st) M = some z) : ir_V w p l e R s m args below meth c H locs cells slots Q pc L st := by
  obtain ⟨h1, h2⟩ := ir_and hok
  obtain ⟨hd, rfl⟩ := ir_d_inv h1
  have h2 := of_decide_eq_true h2
  subst h2
  exact fun ls hl hn => lv_lconst hx hb hd rfl (hF _ _ _ h ls hl hn)
theorem ir_c_iload (hx : p.tables.exec = Jvm.exec) (hb : c.code = ir_co y) (hF : ∀ (pc : Nat) (L : ir_L) (st : List Value), F pc L st M = some z → ir_V w p l e R s m args below meth c H locs cells slots Q pc L st) (j : Nat) (hok : (ir_d y pc (.iload j) 2 n && ir_hd1 x j) = true) (h : ir_mi (ir_ld L x) (fun v => F n L (.int v :: st) M) = some z) : ir_V w p l e R s m args below meth c H locs cells slots Q pc L st := by
  obtain ⟨h1, h2⟩ := ir_and hok
  obtain ⟨hd, rfl⟩ := ir_d_inv h1
  obtain ⟨u, g1, hh0⟩ := ir_mi_inv h
  obtain ⟨i, xs, rfl, g2⟩ := ir_ld_inv g1
  have e1 := ir_hd1_inv h2
  subst e1
  exact fun ls hl hn => lv_iload hx hb hd (ir_lo_at hl g2) (hF _ _ _ hh0 ls hl hn)
theorem ir_c_iload_n (hx : p.tables.exec = Jvm.exec) (hb : c.code = ir_co y) (hF : ∀ (pc : Nat) (L : ir_L) (st : List Value), F pc L st M = some z → ir_V w p l e R s m args below meth c H locs cells slots Q pc L st) (j : Fin 4) (hok : (ir_d y pc (.iload_n j) 1 n && ir_hd1 x j) = true) (h : ir_mi (ir_ld L x) (fun v => F n L (.int v :: st) M) = some z) : ir_V w p l e R s m args below meth c H locs cells slots Q pc L st := by
  obtain ⟨h1, h2⟩ := ir_and hok
  obtain ⟨hd, rfl⟩ := ir_d_inv h1
  obtain ⟨u, g1, hh0⟩ := ir_mi_inv h
  obtain ⟨i, xs, rfl, g2⟩ := ir_ld_inv g1
  have e1 := ir_hd1_inv h2
  subst e1
  exact fun ls hl hn => lv_iload_n hx hb hd rfl (ir_lo_at hl g2) (hF _ _ _ hh0 ls hl hn)
theorem ir_c_lload (hx : p.tables.exec = Jvm.exec) (hb : c.code = ir_co y) (hF : ∀ (pc : Nat) (L : ir_L) (st : List Value), F pc L st M = some z → ir_V w p l e R s m args below meth c H locs cells slots Q pc L st) (j : Nat) (hok : (ir_d y pc (.lload j) 2 n && ir_hd1 x j) = true) (h : ir_mj (ir_ld L x) (fun v => F n L (.long v :: st) M) = some z) : ir_V w p l e R s m args below meth c H locs cells slots Q pc L st := by
  obtain ⟨h1, h2⟩ := ir_and hok
  obtain ⟨hd, rfl⟩ := ir_d_inv h1
  obtain ⟨u, g1, hh0⟩ := ir_mj_inv h
  obtain ⟨i, xs, rfl, g2⟩ := ir_ld_inv g1
  have e1 := ir_hd1_inv h2
  subst e1
  exact fun ls hl hn => lv_lload hx hb hd (ir_lo_at hl g2) (hF _ _ _ hh0 ls hl hn)
theorem ir_c_lload_n (hx : p.tables.exec = Jvm.exec) (hb : c.code = ir_co y) (hF : ∀ (pc : Nat) (L : ir_L) (st : List Value), F pc L st M = some z → ir_V w p l e R s m args below meth c H locs cells slots Q pc L st) (j : Fin 4) (hok : (ir_d y pc (.lload_n j) 1 n && ir_hd1 x j) = true) (h : ir_mj (ir_ld L x) (fun v => F n L (.long v :: st) M) = some z) : ir_V w p l e R s m args below meth c H locs cells slots Q pc L st := by
  obtain ⟨h1, h2⟩ := ir_and hok
  obtain ⟨hd, rfl⟩ := ir_d_inv h1
  obtain ⟨u, g1, hh0⟩ := ir_mj_inv h
  obtain ⟨i, xs, rfl, g2⟩ := ir_ld_inv g1
  have e1 := ir_hd1_inv h2
  subst e1
  exact fun ls hl hn => lv_lload_n hx hb hd rfl (ir_lo_at hl g2) (hF _ _ _ hh0 ls hl hn)
theorem ir_c_aload (hx : p.tables.exec = Jvm.exec) (hb : c.code = ir_co y) (hF : ∀ (pc : Nat) (L : ir_L) (st : List Value), F pc L st M = some z → ir_V w p l e R s m args below meth c H locs cells slots Q pc L st) (j : Nat) (hok : (ir_d y pc (.aload j) 2 n && ir_hd1 x j) = true) (h : ir_mr (ir_ld L x) (fun v => F n L (.ref v :: st) M) = some z) : ir_V w p l e R s m args below meth c H locs cells slots Q pc L st := by
  obtain ⟨h1, h2⟩ := ir_and hok
  obtain ⟨hd, rfl⟩ := ir_d_inv h1
  obtain ⟨u, g1, hh0⟩ := ir_mr_inv h
  obtain ⟨i, xs, rfl, g2⟩ := ir_ld_inv g1
  have e1 := ir_hd1_inv h2
  subst e1
  exact fun ls hl hn => lv_aload hx hb hd (ir_lo_at hl g2) (hF _ _ _ hh0 ls hl hn)
theorem ir_c_aload_n (hx : p.tables.exec = Jvm.exec) (hb : c.code = ir_co y) (hF : ∀ (pc : Nat) (L : ir_L) (st : List Value), F pc L st M = some z → ir_V w p l e R s m args below meth c H locs cells slots Q pc L st) (j : Fin 4) (hok : (ir_d y pc (.aload_n j) 1 n && ir_hd1 x j) = true) (h : ir_mr (ir_ld L x) (fun v => F n L (.ref v :: st) M) = some z) : ir_V w p l e R s m args below meth c H locs cells slots Q pc L st := by
  obtain ⟨h1, h2⟩ := ir_and hok
  obtain ⟨hd, rfl⟩ := ir_d_inv h1
  obtain ⟨u, g1, hh0⟩ := ir_mr_inv h
  obtain ⟨i, xs, rfl, g2⟩ := ir_ld_inv g1
  have e1 := ir_hd1_inv h2
  subst e1
  exact fun ls hl hn => lv_aload_n hx hb hd rfl (ir_lo_at hl g2) (hF _ _ _ hh0 ls hl hn)
theorem ir_c_istore (hx : p.tables.exec = Jvm.exec) (hb : c.code = ir_co y) (hF : ∀ (pc : Nat) (L : ir_L) (st : List Value), F pc L st M = some z → ir_V w p l e R s m args below meth c H locs cells slots Q pc L st) (hcat : w.2.2.1.category = 1) (j : Nat) (hok : (ir_d y pc (.istore j) 2 n && ir_hd1 x j) = true) (h : ir_i1 st (fun v r => ir_s1 L x (.int v) fun L' => F n L' r M) = some z) : ir_V w p l e R s m args below meth c H locs cells slots Q pc L st := by
  obtain ⟨h1, h2⟩ := ir_and hok
  obtain ⟨hd, rfl⟩ := ir_d_inv h1
  obtain ⟨u, r, rfl, hh0⟩ := ir_i1_inv h
  obtain ⟨i, xs, rfl, hh1⟩ := ir_s1_inv hh0
  have e1 := ir_hd1_inv h2
  subst e1
  obtain ⟨L', hh2, hlen, hlt, hp⟩ := ir_pt_inv _ _ _ hh1
  exact fun ls hl hn => lv_istore hx hb hd (show lv_has ls L.length (ir_la w 0 L) from hl) hlt rfl (fun ls' hh2' => hF _ _ _ hh2 ls' (ir_lo_st1 (v := .int u) hcat hh2' hlen rfl hp) (hlen.trans hn))
theorem ir_c_istore_n (hx : p.tables.exec = Jvm.exec) (hb : c.code = ir_co y) (hF : ∀ (pc : Nat) (L : ir_L) (st : List Value), F pc L st M = some z → ir_V w p l e R s m args below meth c H locs cells slots Q pc L st) (hcat : w.2.2.1.category = 1) (j : Fin 4) (hok : (ir_d y pc (.istore_n j) 1 n && ir_hd1 x j) = true) (h : ir_i1 st (fun v r => ir_s1 L x (.int v) fun L' => F n L' r M) = some z) : ir_V w p l e R s m args below meth c H locs cells slots Q pc L st := by
  obtain ⟨h1, h2⟩ := ir_and hok
  obtain ⟨hd, rfl⟩ := ir_d_inv h1
  obtain ⟨u, r, rfl, hh0⟩ := ir_i1_inv h
  obtain ⟨i, xs, rfl, hh1⟩ := ir_s1_inv hh0
  have e1 := ir_hd1_inv h2
  subst e1
  obtain ⟨L', hh2, hlen, hlt, hp⟩ := ir_pt_inv _ _ _ hh1
  exact fun ls hl hn => lv_istore_n hx hb hd rfl (show lv_has ls L.length (ir_la w 0 L) from hl) hlt rfl (fun ls' hh2' => hF _ _ _ hh2 ls' (ir_lo_st1 (v := .int u) hcat hh2' hlen rfl hp) (hlen.trans hn))
theorem ir_c_lstore (hx : p.tables.exec = Jvm.exec) (hb : c.code = ir_co y) (hF : ∀ (pc : Nat) (L : ir_L) (st : List Value), F pc L st M = some z → ir_V w p l e R s m args below meth c H locs cells slots Q pc L st) (hcat : w.2.2.1.category = 1) (j : Nat) (hok : (ir_d y pc (.lstore j) 2 n && ir_hd1 x j) = true) (h : ir_l1 st (fun v r => ir_s2 L x (.long v) fun L' => F n L' r M) = some z) : ir_V w p l e R s m args below meth c H locs cells slots Q pc L st := by
  obtain ⟨h1, h2⟩ := ir_and hok
  obtain ⟨hd, rfl⟩ := ir_d_inv h1
  obtain ⟨u, r, rfl, hh0⟩ := ir_l1_inv h
  obtain ⟨i, xs, rfl, hh1⟩ := ir_s2_inv hh0
  have e1 := ir_hd1_inv h2
  subst e1
  obtain ⟨L', hh2, hlen, hlt, hp⟩ := ir_pt2_inv _ _ _ hh1
  exact fun ls hl hn => lv_lstore hx hb hd (show lv_has ls L.length (ir_la w 0 L) from hl) hlt rfl (fun ls' hh2' => hF _ _ _ hh2 ls' (ir_lo_st2 (v := .long u) hcat hh2' hlen rfl hp) (hlen.trans hn))
theorem ir_c_lstore_n (hx : p.tables.exec = Jvm.exec) (hb : c.code = ir_co y) (hF : ∀ (pc : Nat) (L : ir_L) (st : List Value), F pc L st M = some z → ir_V w p l e R s m args below meth c H locs cells slots Q pc L st) (hcat : w.2.2.1.category = 1) (j : Fin 4) (hok : (ir_d y pc (.lstore_n j) 1 n && ir_hd1 x j) = true) (h : ir_l1 st (fun v r => ir_s2 L x (.long v) fun L' => F n L' r M) = some z) : ir_V w p l e R s m args below meth c H locs cells slots Q pc L st := by
  obtain ⟨h1, h2⟩ := ir_and hok
  obtain ⟨hd, rfl⟩ := ir_d_inv h1
  obtain ⟨u, r, rfl, hh0⟩ := ir_l1_inv h
  obtain ⟨i, xs, rfl, hh1⟩ := ir_s2_inv hh0
  have e1 := ir_hd1_inv h2
  subst e1
  obtain ⟨L', hh2, hlen, hlt, hp⟩ := ir_pt2_inv _ _ _ hh1
  exact fun ls hl hn => lv_lstore_n hx hb hd rfl (show lv_has ls L.length (ir_la w 0 L) from hl) hlt rfl (fun ls' hh2' => hF _ _ _ hh2 ls' (ir_lo_st2 (v := .long u) hcat hh2' hlen rfl hp) (hlen.trans hn))
theorem ir_c_astore (hx : p.tables.exec = Jvm.exec) (hb : c.code = ir_co y) (hF : ∀ (pc : Nat) (L : ir_L) (st : List Value), F pc L st M = some z → ir_V w p l e R s m args below meth c H locs cells slots Q pc L st) (hcat : w.2.2.1.category = 1) (j : Nat) (hok : (ir_d y pc (.astore j) 2 n && ir_hd1 x j) = true) (h : ir_r1 st (fun v r => ir_s1 L x (.ref v) fun L' => F n L' r M) = some z) : ir_V w p l e R s m args below meth c H locs cells slots Q pc L st := by
  obtain ⟨h1, h2⟩ := ir_and hok
  obtain ⟨hd, rfl⟩ := ir_d_inv h1
  obtain ⟨u, r, rfl, hh0⟩ := ir_r1_inv h
  obtain ⟨i, xs, rfl, hh1⟩ := ir_s1_inv hh0
  have e1 := ir_hd1_inv h2
  subst e1
  obtain ⟨L', hh2, hlen, hlt, hp⟩ := ir_pt_inv _ _ _ hh1
  exact fun ls hl hn => lv_astore hx hb hd (show lv_has ls L.length (ir_la w 0 L) from hl) hlt rfl (fun ls' hh2' => hF _ _ _ hh2 ls' (ir_lo_st1 (v := .ref u) hcat hh2' hlen rfl hp) (hlen.trans hn))
theorem ir_c_astore_n (hx : p.tables.exec = Jvm.exec) (hb : c.code = ir_co y) (hF : ∀ (pc : Nat) (L : ir_L) (st : List Value), F pc L st M = some z → ir_V w p l e R s m args below meth c H locs cells slots Q pc L st) (hcat : w.2.2.1.category = 1) (j : Fin 4) (hok : (ir_d y pc (.astore_n j) 1 n && ir_hd1 x j) = true) (h : ir_r1 st (fun v r => ir_s1 L x (.ref v) fun L' => F n L' r M) = some z) : ir_V w p l e R s m args below meth c H locs cells slots Q pc L st := by
  obtain ⟨h1, h2⟩ := ir_and hok
  obtain ⟨hd, rfl⟩ := ir_d_inv h1
  obtain ⟨u, r, rfl, hh0⟩ := ir_r1_inv h
  obtain ⟨i, xs, rfl, hh1⟩ := ir_s1_inv hh0
  have e1 := ir_hd1_inv h2
  subst e1
  obtain ⟨L', hh2, hlen, hlt, hp⟩ := ir_pt_inv _ _ _ hh1
  exact fun ls hl hn => lv_astore_n hx hb hd rfl (show lv_has ls L.length (ir_la w 0 L) from hl) hlt rfl (fun ls' hh2' => hF _ _ _ hh2 ls' (ir_lo_st1 (v := .ref u) hcat hh2' hlen rfl hp) (hlen.trans hn))
theorem ir_c_iinc (hx : p.tables.exec = Jvm.exec) (hb : c.code = ir_co y) (hF : ∀ (pc : Nat) (L : ir_L) (st : List Value), F pc L st M = some z → ir_V w p l e R s m args below meth c H locs cells slots Q pc L st) (hcat : w.2.2.1.category = 1) (j : Nat) (k : Int) (hok : (ir_d y pc (.iinc j k) 3 n && (ir_hd1 x j && decide (v = .int (Int32.ofInt k)))) = true) (h : ir_mi (some v) (fun c => ir_mi (ir_ld L x) fun v => ir_s1 L x (.int (v + c)) fun L' => F n L' st M) = some z) : ir_V w p l e R s m args below meth c H locs cells slots Q pc L st := by
  obtain ⟨h1, h23⟩ := ir_and hok
  obtain ⟨h2, h30⟩ := ir_and h23
  obtain ⟨hd, rfl⟩ := ir_d_inv h1
  have h3 := of_decide_eq_true h30
  subst h3
  obtain ⟨c9, g0, hh0⟩ := ir_mi_inv h
  cases g0
  obtain ⟨u, g1, hh1⟩ := ir_mi_inv hh0
  obtain ⟨i, xs, rfl, g2⟩ := ir_ld_inv g1
  have e1 := ir_hd1_inv h2
  subst e1
  obtain ⟨L', hh2, hlen, hlt, hp⟩ := ir_pt_inv _ _ _ hh1
  obtain ⟨q, hq⟩ := List.getElem?_of_mem ((ir_la_mem w L 0 (i, ir_tr w (.int u))).mpr ⟨i, .int u, g2, by rw [Nat.zero_add]⟩)
  exact fun ls hl hn => lv_iinc (k := q) hx hb hd (show lv_has ls L.length (ir_la w 0 L) from hl) hq rfl hlt rfl (fun ls' hh2' => hF _ _ _ hh2 ls' (ir_lo_st1 (v := .int (u + Int32.ofInt k)) hcat hh2' hlen rfl hp) (hlen.trans hn))
theorem ir_c_iadd (hx : p.tables.exec = Jvm.exec) (hb : c.code = ir_co y) (hF : ∀ (pc : Nat) (L : ir_L) (st : List Value), F pc L st M = some z → ir_V w p l e R s m args below meth c H locs cells slots Q pc L st) (hok : ir_d y pc .iadd 1 n = true) (h : ir_i2 st (fun a b r => F n L (.int (a + b) :: r) M) = some z) : ir_V w p l e R s m args below meth c H locs cells slots Q pc L st := by
  obtain ⟨hd, rfl⟩ := ir_d_inv hok
  obtain ⟨a, b, r, rfl, hh0⟩ := ir_i2_inv h
  exact fun ls hl hn => lv_iadd hx hb hd (hF _ _ _ hh0 ls hl hn)
theorem ir_c_isub (hx : p.tables.exec = Jvm.exec) (hb : c.code = ir_co y) (hF : ∀ (pc : Nat) (L : ir_L) (st : List Value), F pc L st M = some z → ir_V w p l e R s m args below meth c H locs cells slots Q pc L st) (hok : ir_d y pc .isub 1 n = true) (h : ir_i2 st (fun a b r => F n L (.int (a - b) :: r) M) = some z) : ir_V w p l e R s m args below meth c H locs cells slots Q pc L st := by
  obtain ⟨hd, rfl⟩ := ir_d_inv hok
  obtain ⟨a, b, r, rfl, hh0⟩ := ir_i2_inv h
  exact fun ls hl hn => lv_isub hx hb hd (hF _ _ _ hh0 ls hl hn)
theorem ir_c_imul (hx : p.tables.exec = Jvm.exec) (hb : c.code = ir_co y) (hF : ∀ (pc : Nat) (L : ir_L) (st : List Value), F pc L st M = some z → ir_V w p l e R s m args below meth c H locs cells slots Q pc L st) (hok : ir_d y pc .imul 1 n = true) (h : ir_i2 st (fun a b r => F n L (.int (a * b) :: r) M) = some z) : ir_V w p l e R s m args below meth c H locs cells slots Q pc L st := by
  obtain ⟨hd, rfl⟩ := ir_d_inv hok
  obtain ⟨a, b, r, rfl, hh0⟩ := ir_i2_inv h
  exact fun ls hl hn => lv_imul hx hb hd (hF _ _ _ hh0 ls hl hn)
theorem ir_c_iand (hx : p.tables.exec = Jvm.exec) (hb : c.code = ir_co y) (hF : ∀ (pc : Nat) (L : ir_L) (st : List Value), F pc L st M = some z → ir_V w p l e R s m args below meth c H locs cells slots Q pc L st) (hok : ir_d y pc .iand 1 n = true) (h : ir_i2 st (fun a b r => F n L (.int (a &&& b) :: r) M) = some z) : ir_V w p l e R s m args below meth c H locs cells slots Q pc L st := by
  obtain ⟨hd, rfl⟩ := ir_d_inv hok
  obtain ⟨a, b, r, rfl, hh0⟩ := ir_i2_inv h
  exact fun ls hl hn => lv_iand hx hb hd (hF _ _ _ hh0 ls hl hn)
theorem ir_c_ior (hx : p.tables.exec = Jvm.exec) (hb : c.code = ir_co y) (hF : ∀ (pc : Nat) (L : ir_L) (st : List Value), F pc L st M = some z → ir_V w p l e R s m args below meth c H locs cells slots Q pc L st) (hok : ir_d y pc .ior 1 n = true) (h : ir_i2 st (fun a b r => F n L (.int (a ||| b) :: r) M) = some z) : ir_V w p l e R s m args below meth c H locs cells slots Q pc L st := by
  obtain ⟨hd, rfl⟩ := ir_d_inv hok
  obtain ⟨a, b, r, rfl, hh0⟩ := ir_i2_inv h
  exact fun ls hl hn => lv_ior hx hb hd (hF _ _ _ hh0 ls hl hn)
theorem ir_c_ixor (hx : p.tables.exec = Jvm.exec) (hb : c.code = ir_co y) (hF : ∀ (pc : Nat) (L : ir_L) (st : List Value), F pc L st M = some z → ir_V w p l e R s m args below meth c H locs cells slots Q pc L st) (hok : ir_d y pc .ixor 1 n = true) (h : ir_i2 st (fun a b r => F n L (.int (a ^^^ b) :: r) M) = some z) : ir_V w p l e R s m args below meth c H locs cells slots Q pc L st := by
  obtain ⟨hd, rfl⟩ := ir_d_inv hok
  obtain ⟨a, b, r, rfl, hh0⟩ := ir_i2_inv h
  exact fun ls hl hn => lv_ixor hx hb hd (hF _ _ _ hh0 ls hl hn)
theorem ir_c_ishl (hx : p.tables.exec = Jvm.exec) (hb : c.code = ir_co y) (hF : ∀ (pc : Nat) (L : ir_L) (st : List Value), F pc L st M = some z → ir_V w p l e R s m args below meth c H locs cells slots Q pc L st) (hok : ir_d y pc .ishl 1 n = true) (h : ir_i2 st (fun a b r => F n L (.int (a <<< (b &&& 31)) :: r) M) = some z) : ir_V w p l e R s m args below meth c H locs cells slots Q pc L st := by
  obtain ⟨hd, rfl⟩ := ir_d_inv hok
  obtain ⟨a, b, r, rfl, hh0⟩ := ir_i2_inv h
  exact fun ls hl hn => lv_ishl hx hb hd (hF _ _ _ hh0 ls hl hn)
theorem ir_c_ishr (hx : p.tables.exec = Jvm.exec) (hb : c.code = ir_co y) (hF : ∀ (pc : Nat) (L : ir_L) (st : List Value), F pc L st M = some z → ir_V w p l e R s m args below meth c H locs cells slots Q pc L st) (hok : ir_d y pc .ishr 1 n = true) (h : ir_i2 st (fun a b r => F n L (.int (a >>> (b &&& 31)) :: r) M) = some z) : ir_V w p l e R s m args below meth c H locs cells slots Q pc L st := by
  obtain ⟨hd, rfl⟩ := ir_d_inv hok
  obtain ⟨a, b, r, rfl, hh0⟩ := ir_i2_inv h
  exact fun ls hl hn => lv_ishr hx hb hd (hF _ _ _ hh0 ls hl hn)
theorem ir_c_iushr (hx : p.tables.exec = Jvm.exec) (hb : c.code = ir_co y) (hF : ∀ (pc : Nat) (L : ir_L) (st : List Value), F pc L st M = some z → ir_V w p l e R s m args below meth c H locs cells slots Q pc L st) (hok : ir_d y pc .iushr 1 n = true) (h : ir_i2 st (fun a b r => F n L (.int ((a.toUInt32 >>> (b.toUInt32 &&& Int32.toUInt32 31)).toInt32) :: r) M) = some z) : ir_V w p l e R s m args below meth c H locs cells slots Q pc L st := by
  obtain ⟨hd, rfl⟩ := ir_d_inv hok
  obtain ⟨a, b, r, rfl, hh0⟩ := ir_i2_inv h
  exact fun ls hl hn => lv_iushr hx hb hd rfl (hF _ _ _ hh0 ls hl hn)
theorem ir_c_idiv (hx : p.tables.exec = Jvm.exec) (hb : c.code = ir_co y) (hF : ∀ (pc : Nat) (L : ir_L) (st : List Value), F pc L st M = some z → ir_V w p l e R s m args below meth c H locs cells slots Q pc L st) (hok : ir_d y pc .idiv 1 n = true) (h : ir_i2 st (fun a b r => ir_dI b (F n L (.int (a / b) :: r) M)) = some z) : ir_V w p l e R s m args below meth c H locs cells slots Q pc L st := by
  obtain ⟨hd, rfl⟩ := ir_d_inv hok
  obtain ⟨a, b, r, rfl, hh0⟩ := ir_i2_inv h
  obtain ⟨hz, hh1⟩ := ir_dI_inv hh0
  exact fun ls hl hn => lv_idiv hx hb hd hz (hF _ _ _ hh1 ls hl hn)
theorem ir_c_irem (hx : p.tables.exec = Jvm.exec) (hb : c.code = ir_co y) (hF : ∀ (pc : Nat) (L : ir_L) (st : List Value), F pc L st M = some z → ir_V w p l e R s m args below meth c H locs cells slots Q pc L st) (hok : ir_d y pc .irem 1 n = true) (h : ir_i2 st (fun a b r => ir_dI b (F n L (.int (a - a / b * b) :: r) M)) = some z) : ir_V w p l e R s m args below meth c H locs cells slots Q pc L st := by
  obtain ⟨hd, rfl⟩ := ir_d_inv hok
  obtain ⟨a, b, r, rfl, hh0⟩ := ir_i2_inv h
  obtain ⟨hz, hh1⟩ := ir_dI_inv hh0
  exact fun ls hl hn => lv_irem hx hb hd hz (hF _ _ _ hh1 ls hl hn)
theorem ir_c_ladd (hx : p.tables.exec = Jvm.exec) (hb : c.code = ir_co y) (hF : ∀ (pc : Nat) (L : ir_L) (st : List Value), F pc L st M = some z → ir_V w p l e R s m args below meth c H locs cells slots Q pc L st) (hok : ir_d y pc .ladd 1 n = true) (h : ir_l2 st (fun a b r => F n L (.long (a + b) :: r) M) = some z) : ir_V w p l e R s m args below meth c H locs cells slots Q pc L st := by
  obtain ⟨hd, rfl⟩ := ir_d_inv hok
  obtain ⟨a, b, r, rfl, hh0⟩ := ir_l2_inv h
  exact fun ls hl hn => lv_ladd hx hb hd (hF _ _ _ hh0 ls hl hn)
theorem ir_c_lsub (hx : p.tables.exec = Jvm.exec) (hb : c.code = ir_co y) (hF : ∀ (pc : Nat) (L : ir_L) (st : List Value), F pc L st M = some z → ir_V w p l e R s m args below meth c H locs cells slots Q pc L st) (hok : ir_d y pc .lsub 1 n = true) (h : ir_l2 st (fun a b r => F n L (.long (a - b) :: r) M) = some z) : ir_V w p l e R s m args below meth c H locs cells slots Q pc L st := by
  obtain ⟨hd, rfl⟩ := ir_d_inv hok
  obtain ⟨a, b, r, rfl, hh0⟩ := ir_l2_inv h
  exact fun ls hl hn => lv_lsub hx hb hd (hF _ _ _ hh0 ls hl hn)
theorem ir_c_lmul (hx : p.tables.exec = Jvm.exec) (hb : c.code = ir_co y) (hF : ∀ (pc : Nat) (L : ir_L) (st : List Value), F pc L st M = some z → ir_V w p l e R s m args below meth c H locs cells slots Q pc L st) (hok : ir_d y pc .lmul 1 n = true) (h : ir_l2 st (fun a b r => F n L (.long (a * b) :: r) M) = some z) : ir_V w p l e R s m args below meth c H locs cells slots Q pc L st := by
  obtain ⟨hd, rfl⟩ := ir_d_inv hok
  obtain ⟨a, b, r, rfl, hh0⟩ := ir_l2_inv h
  exact fun ls hl hn => lv_lmul hx hb hd (hF _ _ _ hh0 ls hl hn)
theorem ir_c_land (hx : p.tables.exec = Jvm.exec) (hb : c.code = ir_co y) (hF : ∀ (pc : Nat) (L : ir_L) (st : List Value), F pc L st M = some z → ir_V w p l e R s m args below meth c H locs cells slots Q pc L st) (hok : ir_d y pc .land 1 n = true) (h : ir_l2 st (fun a b r => F n L (.long (a &&& b) :: r) M) = some z) : ir_V w p l e R s m args below meth c H locs cells slots Q pc L st := by
  obtain ⟨hd, rfl⟩ := ir_d_inv hok
  obtain ⟨a, b, r, rfl, hh0⟩ := ir_l2_inv h
  exact fun ls hl hn => lv_land hx hb hd (hF _ _ _ hh0 ls hl hn)
theorem ir_c_lor (hx : p.tables.exec = Jvm.exec) (hb : c.code = ir_co y) (hF : ∀ (pc : Nat) (L : ir_L) (st : List Value), F pc L st M = some z → ir_V w p l e R s m args below meth c H locs cells slots Q pc L st) (hok : ir_d y pc .lor 1 n = true) (h : ir_l2 st (fun a b r => F n L (.long (a ||| b) :: r) M) = some z) : ir_V w p l e R s m args below meth c H locs cells slots Q pc L st := by
  obtain ⟨hd, rfl⟩ := ir_d_inv hok
  obtain ⟨a, b, r, rfl, hh0⟩ := ir_l2_inv h
  exact fun ls hl hn => lv_lor hx hb hd (hF _ _ _ hh0 ls hl hn)
theorem ir_c_ldiv (hx : p.tables.exec = Jvm.exec) (hb : c.code = ir_co y) (hF : ∀ (pc : Nat) (L : ir_L) (st : List Value), F pc L st M = some z → ir_V w p l e R s m args below meth c H locs cells slots Q pc L st) (hok : ir_d y pc .ldiv 1 n = true) (h : ir_l2 st (fun a b r => ir_dJ b (F n L (.long (a / b) :: r) M)) = some z) : ir_V w p l e R s m args below meth c H locs cells slots Q pc L st := by
  obtain ⟨hd, rfl⟩ := ir_d_inv hok
  obtain ⟨a, b, r, rfl, hh0⟩ := ir_l2_inv h
  obtain ⟨hz, hh1⟩ := ir_dJ_inv hh0
  exact fun ls hl hn => lv_ldiv hx hb hd hz (hF _ _ _ hh1 ls hl hn)
theorem ir_c_lrem (hx : p.tables.exec = Jvm.exec) (hb : c.code = ir_co y) (hF : ∀ (pc : Nat) (L : ir_L) (st : List Value), F pc L st M = some z → ir_V w p l e R s m args below meth c H locs cells slots Q pc L st) (hok : ir_d y pc .lrem 1 n = true) (h : ir_l2 st (fun a b r => ir_dJ b (F n L (.long (a - a / b * b) :: r) M)) = some z) : ir_V w p l e R s m args below meth c H locs cells slots Q pc L st := by
  obtain ⟨hd, rfl⟩ := ir_d_inv hok
  obtain ⟨a, b, r, rfl, hh0⟩ := ir_l2_inv h
  obtain ⟨hz, hh1⟩ := ir_dJ_inv hh0
  exact fun ls hl hn => lv_lrem hx hb hd hz (hF _ _ _ hh1 ls hl hn)
theorem ir_c_lshl (hx : p.tables.exec = Jvm.exec) (hb : c.code = ir_co y) (hF : ∀ (pc : Nat) (L : ir_L) (st : List Value), F pc L st M = some z → ir_V w p l e R s m args below meth c H locs cells slots Q pc L st) (hok : ir_d y pc .lshl 1 n = true) (h : ir_li st (fun a b r => F n L (.long (a <<< (b.toInt64 &&& 63)) :: r) M) = some z) : ir_V w p l e R s m args below meth c H locs cells slots Q pc L st := by
  obtain ⟨hd, rfl⟩ := ir_d_inv hok
  obtain ⟨a, b, r, rfl, hh0⟩ := ir_li_inv h
  exact fun ls hl hn => lv_lshl hx hb hd rfl (hF _ _ _ hh0 ls hl hn)
theorem ir_c_lshr (hx : p.tables.exec = Jvm.exec) (hb : c.code = ir_co y) (hF : ∀ (pc : Nat) (L : ir_L) (st : List Value), F pc L st M = some z → ir_V w p l e R s m args below meth c H locs cells slots Q pc L st) (hok : ir_d y pc .lshr 1 n = true) (h : ir_li st (fun a b r => F n L (.long (a >>> (b.toInt64 &&& 63)) :: r) M) = some z) : ir_V w p l e R s m args below meth c H locs cells slots Q pc L st := by
  obtain ⟨hd, rfl⟩ := ir_d_inv hok
  obtain ⟨a, b, r, rfl, hh0⟩ := ir_li_inv h
  exact fun ls hl hn => lv_lshr hx hb hd rfl (hF _ _ _ hh0 ls hl hn)
theorem ir_c_lcmp (hx : p.tables.exec = Jvm.exec) (hb : c.code = ir_co y) (hF : ∀ (pc : Nat) (L : ir_L) (st : List Value), F pc L st M = some z → ir_V w p l e R s m args below meth c H locs cells slots Q pc L st) (hok : ir_d y pc .lcmp 1 n = true) (h : ir_l2 st (fun a b r => F n L (.int (lg_cmp a b) :: r) M) = some z) : ir_V w p l e R s m args below meth c H locs cells slots Q pc L st := by
  obtain ⟨hd, rfl⟩ := ir_d_inv hok
  obtain ⟨a, b, r, rfl, hh0⟩ := ir_l2_inv h
  exact fun ls hl hn => W.lcmp hx hb hd (hF _ _ _ hh0 ls hl hn)
theorem ir_c_ineg (hx : p.tables.exec = Jvm.exec) (hb : c.code = ir_co y) (hF : ∀ (pc : Nat) (L : ir_L) (st : List Value), F pc L st M = some z → ir_V w p l e R s m args below meth c H locs cells slots Q pc L st) (hok : ir_d y pc .ineg 1 n = true) (h : ir_i1 st (fun a r => F n L (.int (-a) :: r) M) = some z) : ir_V w p l e R s m args below meth c H locs cells slots Q pc L st := by
  obtain ⟨hd, rfl⟩ := ir_d_inv hok
  obtain ⟨a, r, rfl, hh0⟩ := ir_i1_inv h
  exact fun ls hl hn => lv_ineg hx hb hd (hF _ _ _ hh0 ls hl hn)
theorem ir_c_i2l (hx : p.tables.exec = Jvm.exec) (hb : c.code = ir_co y) (hF : ∀ (pc : Nat) (L : ir_L) (st : List Value), F pc L st M = some z → ir_V w p l e R s m args below meth c H locs cells slots Q pc L st) (hok : ir_d y pc .i2l 1 n = true) (h : ir_i1 st (fun a r => F n L (.long (a.toInt64) :: r) M) = some z) : ir_V w p l e R s m args below meth c H locs cells slots Q pc L st := by
  obtain ⟨hd, rfl⟩ := ir_d_inv hok
  obtain ⟨a, r, rfl, hh0⟩ := ir_i1_inv h
  exact fun ls hl hn => lv_i2l hx hb hd rfl (hF _ _ _ hh0 ls hl hn)
theorem ir_c_l2i (hx : p.tables.exec = Jvm.exec) (hb : c.code = ir_co y) (hF : ∀ (pc : Nat) (L : ir_L) (st : List Value), F pc L st M = some z → ir_V w p l e R s m args below meth c H locs cells slots Q pc L st) (hok : ir_d y pc .l2i 1 n = true) (h : ir_l1 st (fun a r => F n L (.int (a.toInt32) :: r) M) = some z) : ir_V w p l e R s m args below meth c H locs cells slots Q pc L st := by
  obtain ⟨hd, rfl⟩ := ir_d_inv hok
  obtain ⟨a, r, rfl, hh0⟩ := ir_l1_inv h
  exact fun ls hl hn => lv_l2i hx hb hd rfl (hF _ _ _ hh0 ls hl hn)
theorem ir_c_i2b (hx : p.tables.exec = Jvm.exec) (hb : c.code = ir_co y) (hF : ∀ (pc : Nat) (L : ir_L) (st : List Value), F pc L st M = some z → ir_V w p l e R s m args below meth c H locs cells slots Q pc L st) (hok : ir_d y pc .i2b 1 n = true) (h : ir_i1 st (fun a r => F n L (.int (a.toInt8.toInt32) :: r) M) = some z) : ir_V w p l e R s m args below meth c H locs cells slots Q pc L st := by
  obtain ⟨hd, rfl⟩ := ir_d_inv hok
  obtain ⟨a, r, rfl, hh0⟩ := ir_i1_inv h
  exact fun ls hl hn => lv_i2b hx hb hd rfl (hF _ _ _ hh0 ls hl hn)
theorem ir_c_i2s (hx : p.tables.exec = Jvm.exec) (hb : c.code = ir_co y) (hF : ∀ (pc : Nat) (L : ir_L) (st : List Value), F pc L st M = some z → ir_V w p l e R s m args below meth c H locs cells slots Q pc L st) (hok : ir_d y pc .i2s 1 n = true) (h : ir_i1 st (fun a r => F n L (.int (a.toInt16.toInt32) :: r) M) = some z) : ir_V w p l e R s m args below meth c H locs cells slots Q pc L st := by
  obtain ⟨hd, rfl⟩ := ir_d_inv hok
  obtain ⟨a, r, rfl, hh0⟩ := ir_i1_inv h
  exact fun ls hl hn => lv_i2s hx hb hd rfl (hF _ _ _ hh0 ls hl hn)
theorem ir_c_i2c (hx : p.tables.exec = Jvm.exec) (hb : c.code = ir_co y) (hF : ∀ (pc : Nat) (L : ir_L) (st : List Value), F pc L st M = some z → ir_V w p l e R s m args below meth c H locs cells slots Q pc L st) (hok : ir_d y pc .i2c 1 n = true) (h : ir_i1 st (fun a r => F n L (.int ((a.toUInt32 % 65536).toInt32) :: r) M) = some z) : ir_V w p l e R s m args below meth c H locs cells slots Q pc L st := by
  obtain ⟨hd, rfl⟩ := ir_d_inv hok
  obtain ⟨a, r, rfl, hh0⟩ := ir_i1_inv h
  exact fun ls hl hn => lv_i2c hx hb hd rfl (hF _ _ _ hh0 ls hl hn)
theorem ir_c_dup (hx : p.tables.exec = Jvm.exec) (hb : c.code = ir_co y) (hF : ∀ (pc : Nat) (L : ir_L) (st : List Value), F pc L st M = some z → ir_V w p l e R s m args below meth c H locs cells slots Q pc L st) (hok : ir_d y pc .dup 1 n = true) (h : (match st with | .ref a :: r => F n L (.ref a :: .ref a :: r) M | .int a :: r => F n L (.int a :: .int a :: r) M | _ => none) = some z) : ir_V w p l e R s m args below meth c H locs cells slots Q pc L st := by
  obtain ⟨hd, rfl⟩ := ir_d_inv hok
  split at h
  · exact fun ls hl hn => lv_dup hx hb hd rfl (hF _ _ _ h ls hl hn)
  · exact fun ls hl hn => lv_dup hx hb hd rfl (hF _ _ _ h ls hl hn)
  · exact nomatch h
theorem ir_c_dup2 (hx : p.tables.exec = Jvm.exec) (hb : c.code = ir_co y) (hF : ∀ (pc : Nat) (L : ir_L) (st : List Value), F pc L st M = some z → ir_V w p l e R s m args below meth c H locs cells slots Q pc L st) (hok : ir_d y pc .dup2 1 n = true) (h : (match st with | .long a :: r => F n L (.long a :: .long a :: r) M | .int i :: .ref a :: r => F n L (.int i :: .ref a :: .int i :: .ref a :: r) M | _ => none) = some z) : ir_V w p l e R s m args below meth c H locs cells slots Q pc L st := by
  obtain ⟨hd, rfl⟩ := ir_d_inv hok
  split at h
  · exact fun ls hl hn => lv_dup2_2 hx hb hd rfl (hF _ _ _ h ls hl hn)
  · exact fun ls hl hn => lv_dup2_11 hx hb hd rfl rfl (hF _ _ _ h ls hl hn)
  · exact nomatch h
theorem ir_c_pop (hx : p.tables.exec = Jvm.exec) (hb : c.code = ir_co y) (hF : ∀ (pc : Nat) (L : ir_L) (st : List Value), F pc L st M = some z → ir_V w p l e R s m args below meth c H locs cells slots Q pc L st) (hok : ir_d y pc .pop 1 n = true) (h : (match st with | .ref _ :: r => F n L r M | .int _ :: r => F n L r M | _ => none) = some z) : ir_V w p l e R s m args below meth c H locs cells slots Q pc L st := by
  obtain ⟨hd, rfl⟩ := ir_d_inv hok
  split at h
  · exact fun ls hl hn => lv_pop hx hb hd rfl (hF _ _ _ h ls hl hn)
  · exact fun ls hl hn => lv_pop hx hb hd rfl (hF _ _ _ h ls hl hn)
  · exact nomatch h
theorem ir_c_pop2 (hx : p.tables.exec = Jvm.exec) (hb : c.code = ir_co y) (hF : ∀ (pc : Nat) (L : ir_L) (st : List Value), F pc L st M = some z → ir_V w p l e R s m args below meth c H locs cells slots Q pc L st) (hok : ir_d y pc .pop2 1 n = true) (h : ir_l1 st (fun _ r => F n L r M) = some z) : ir_V w p l e R s m args below meth c H locs cells slots Q pc L st := by
  obtain ⟨hd, rfl⟩ := ir_d_inv hok
  obtain ⟨a, r, rfl, hh0⟩ := ir_l1_inv h
  exact fun ls hl hn => lv_pop2_2 hx hb hd rfl (hF _ _ _ hh0 ls hl hn)
theorem ir_c_if_eq (hx : p.tables.exec = Jvm.exec) (hb : c.code = ir_co y) (hF : ∀ (pc : Nat) (L : ir_L) (st : List Value), F pc L st M = some z → ir_V w p l e R s m args below meth c H locs cells slots Q pc L st) (off : Int) (hok : (ir_d y pc (.ifCond .eq off) 3 n && ir_tg pc x off) = true) (h : ir_jm x (fun t => ir_i1 st fun a r => if a = 0 then F t L r M else F n L r M) = some z) : ir_V w p l e R s m args below meth c H locs cells slots Q pc L st := by
  obtain ⟨h1, h2⟩ := ir_and hok
  obtain ⟨hd, rfl⟩ := ir_d_inv h1
  obtain ⟨t, xs, rfl, hh0⟩ := ir_jm_inv h
  obtain ⟨a, r, rfl, hh1⟩ := ir_i1_inv hh0
  have ht := ir_tg_inv h2
  exact fun ls hl hn => lv_if_eq hx hb hd ht (fun q => hF _ _ _ (by rw [if_pos q] at hh1; exact hh1) ls hl hn) (fun q => hF _ _ _ (by rw [if_neg q] at hh1; exact hh1) ls hl hn)
theorem ir_c_if_ne (hx : p.tables.exec = Jvm.exec) (hb : c.code = ir_co y) (hF : ∀ (pc : Nat) (L : ir_L) (st : List Value), F pc L st M = some z → ir_V w p l e R s m args below meth c H locs cells slots Q pc L st) (off : Int) (hok : (ir_d y pc (.ifCond .ne off) 3 n && ir_tg pc x off) = true) (h : ir_jm x (fun t => ir_i1 st fun a r => if a = 0 then F n L r M else F t L r M) = some z) : ir_V w p l e R s m args below meth c H locs cells slots Q pc L st := by
  obtain ⟨h1, h2⟩ := ir_and hok
  obtain ⟨hd, rfl⟩ := ir_d_inv h1
  obtain ⟨t, xs, rfl, hh0⟩ := ir_jm_inv h
  obtain ⟨a, r, rfl, hh1⟩ := ir_i1_inv hh0
  have ht := ir_tg_inv h2
  exact fun ls hl hn => lv_if_ne hx hb hd ht (fun q => hF _ _ _ (by rw [if_neg q] at hh1; exact hh1) ls hl hn) (fun q => hF _ _ _ (by rw [if_pos q] at hh1; exact hh1) ls hl hn)
theorem ir_c_if_lt (hx : p.tables.exec = Jvm.exec) (hb : c.code = ir_co y) (hF : ∀ (pc : Nat) (L : ir_L) (st : List Value), F pc L st M = some z → ir_V w p l e R s m args below meth c H locs cells slots Q pc L st) (off : Int) (hok : (ir_d y pc (.ifCond .lt off) 3 n && ir_tg pc x off) = true) (h : ir_jm x (fun t => ir_i1 st fun a r => if a < 0 then F t L r M else F n L r M) = some z) : ir_V w p l e R s m args below meth c H locs cells slots Q pc L st := by
  obtain ⟨h1, h2⟩ := ir_and hok
  obtain ⟨hd, rfl⟩ := ir_d_inv h1
  obtain ⟨t, xs, rfl, hh0⟩ := ir_jm_inv h
  obtain ⟨a, r, rfl, hh1⟩ := ir_i1_inv hh0
  have ht := ir_tg_inv h2
  exact fun ls hl hn => lv_if_lt hx hb hd ht (fun q => hF _ _ _ (by rw [if_pos q] at hh1; exact hh1) ls hl hn) (fun q => hF _ _ _ (by rw [if_neg q] at hh1; exact hh1) ls hl hn)
theorem ir_c_if_ge (hx : p.tables.exec = Jvm.exec) (hb : c.code = ir_co y) (hF : ∀ (pc : Nat) (L : ir_L) (st : List Value), F pc L st M = some z → ir_V w p l e R s m args below meth c H locs cells slots Q pc L st) (off : Int) (hok : (ir_d y pc (.ifCond .ge off) 3 n && ir_tg pc x off) = true) (h : ir_jm x (fun t => ir_i1 st fun a r => if a < 0 then F n L r M else F t L r M) = some z) : ir_V w p l e R s m args below meth c H locs cells slots Q pc L st := by
  obtain ⟨h1, h2⟩ := ir_and hok
  obtain ⟨hd, rfl⟩ := ir_d_inv h1
  obtain ⟨t, xs, rfl, hh0⟩ := ir_jm_inv h
  obtain ⟨a, r, rfl, hh1⟩ := ir_i1_inv hh0
  have ht := ir_tg_inv h2
  exact fun ls hl hn => lv_if_ge hx hb hd ht (fun q => hF _ _ _ (by rw [if_neg (Int32.not_lt.mpr q)] at hh1; exact hh1) ls hl hn) (fun q => hF _ _ _ (by rw [if_pos (Int32.not_le.mp q)] at hh1; exact hh1) ls hl hn)
theorem ir_c_if_gt (hx : p.tables.exec = Jvm.exec) (hb : c.code = ir_co y) (hF : ∀ (pc : Nat) (L : ir_L) (st : List Value), F pc L st M = some z → ir_V w p l e R s m args below meth c H locs cells slots Q pc L st) (off : Int) (hok : (ir_d y pc (.ifCond .gt off) 3 n && ir_tg pc x off) = true) (h : ir_jm x (fun t => ir_i1 st fun a r => if 0 < a then F t L r M else F n L r M) = some z) : ir_V w p l e R s m args below meth c H locs cells slots Q pc L st := by
  obtain ⟨h1, h2⟩ := ir_and hok
  obtain ⟨hd, rfl⟩ := ir_d_inv h1
  obtain ⟨t, xs, rfl, hh0⟩ := ir_jm_inv h
  obtain ⟨a, r, rfl, hh1⟩ := ir_i1_inv hh0
  have ht := ir_tg_inv h2
  exact fun ls hl hn => lv_if_gt hx hb hd ht (fun q => hF _ _ _ (by rw [if_pos q] at hh1; exact hh1) ls hl hn) (fun q => hF _ _ _ (by rw [if_neg q] at hh1; exact hh1) ls hl hn)
theorem ir_c_if_le (hx : p.tables.exec = Jvm.exec) (hb : c.code = ir_co y) (hF : ∀ (pc : Nat) (L : ir_L) (st : List Value), F pc L st M = some z → ir_V w p l e R s m args below meth c H locs cells slots Q pc L st) (off : Int) (hok : (ir_d y pc (.ifCond .le off) 3 n && ir_tg pc x off) = true) (h : ir_jm x (fun t => ir_i1 st fun a r => if 0 < a then F n L r M else F t L r M) = some z) : ir_V w p l e R s m args below meth c H locs cells slots Q pc L st := by
  obtain ⟨h1, h2⟩ := ir_and hok
  obtain ⟨hd, rfl⟩ := ir_d_inv h1
  obtain ⟨t, xs, rfl, hh0⟩ := ir_jm_inv h
  obtain ⟨a, r, rfl, hh1⟩ := ir_i1_inv hh0
  have ht := ir_tg_inv h2
  exact fun ls hl hn => lv_if_le hx hb hd ht (fun q => hF _ _ _ (by rw [if_neg (Int32.not_lt.mpr q)] at hh1; exact hh1) ls hl hn) (fun q => hF _ _ _ (by rw [if_pos (Int32.not_le.mp q)] at hh1; exact hh1) ls hl hn)
theorem ir_c_icmp_eq (hx : p.tables.exec = Jvm.exec) (hb : c.code = ir_co y) (hF : ∀ (pc : Nat) (L : ir_L) (st : List Value), F pc L st M = some z → ir_V w p l e R s m args below meth c H locs cells slots Q pc L st) (off : Int) (hok : (ir_d y pc (.if_icmp .eq off) 3 n && ir_tg pc x off) = true) (h : ir_jm x (fun t => ir_i2 st fun a b r => if a = b then F t L r M else F n L r M) = some z) : ir_V w p l e R s m args below meth c H locs cells slots Q pc L st := by
  obtain ⟨h1, h2⟩ := ir_and hok
  obtain ⟨hd, rfl⟩ := ir_d_inv h1
  obtain ⟨t, xs, rfl, hh0⟩ := ir_jm_inv h
  obtain ⟨a, b, r, rfl, hh1⟩ := ir_i2_inv hh0
  have ht := ir_tg_inv h2
  exact fun ls hl hn => lv_icmp_eq hx hb hd ht (fun q => hF _ _ _ (by rw [if_pos q] at hh1; exact hh1) ls hl hn) (fun q => hF _ _ _ (by rw [if_neg q] at hh1; exact hh1) ls hl hn)
theorem ir_c_icmp_ne (hx : p.tables.exec = Jvm.exec) (hb : c.code = ir_co y) (hF : ∀ (pc : Nat) (L : ir_L) (st : List Value), F pc L st M = some z → ir_V w p l e R s m args below meth c H locs cells slots Q pc L st) (off : Int) (hok : (ir_d y pc (.if_icmp .ne off) 3 n && ir_tg pc x off) = true) (h : ir_jm x (fun t => ir_i2 st fun a b r => if a = b then F n L r M else F t L r M) = some z) : ir_V w p l e R s m args below meth c H locs cells slots Q pc L st := by
  obtain ⟨h1, h2⟩ := ir_and hok
  obtain ⟨hd, rfl⟩ := ir_d_inv h1
  obtain ⟨t, xs, rfl, hh0⟩ := ir_jm_inv h
  obtain ⟨a, b, r, rfl, hh1⟩ := ir_i2_inv hh0
  have ht := ir_tg_inv h2
  exact fun ls hl hn => lv_icmp_ne hx hb hd ht (fun q => hF _ _ _ (by rw [if_neg q] at hh1; exact hh1) ls hl hn) (fun q => hF _ _ _ (by rw [if_pos q] at hh1; exact hh1) ls hl hn)
theorem ir_c_icmp_lt (hx : p.tables.exec = Jvm.exec) (hb : c.code = ir_co y) (hF : ∀ (pc : Nat) (L : ir_L) (st : List Value), F pc L st M = some z → ir_V w p l e R s m args below meth c H locs cells slots Q pc L st) (off : Int) (hok : (ir_d y pc (.if_icmp .lt off) 3 n && ir_tg pc x off) = true) (h : ir_jm x (fun t => ir_i2 st fun a b r => if a < b then F t L r M else F n L r M) = some z) : ir_V w p l e R s m args below meth c H locs cells slots Q pc L st := by
  obtain ⟨h1, h2⟩ := ir_and hok
  obtain ⟨hd, rfl⟩ := ir_d_inv h1
  obtain ⟨t, xs, rfl, hh0⟩ := ir_jm_inv h
  obtain ⟨a, b, r, rfl, hh1⟩ := ir_i2_inv hh0
  have ht := ir_tg_inv h2
  exact fun ls hl hn => lv_icmp_lt hx hb hd ht (fun q => hF _ _ _ (by rw [if_pos q] at hh1; exact hh1) ls hl hn) (fun q => hF _ _ _ (by rw [if_neg q] at hh1; exact hh1) ls hl hn)
theorem ir_c_icmp_ge (hx : p.tables.exec = Jvm.exec) (hb : c.code = ir_co y) (hF : ∀ (pc : Nat) (L : ir_L) (st : List Value), F pc L st M = some z → ir_V w p l e R s m args below meth c H locs cells slots Q pc L st) (off : Int) (hok : (ir_d y pc (.if_icmp .ge off) 3 n && ir_tg pc x off) = true) (h : ir_jm x (fun t => ir_i2 st fun a b r => if a < b then F n L r M else F t L r M) = some z) : ir_V w p l e R s m args below meth c H locs cells slots Q pc L st := by
  obtain ⟨h1, h2⟩ := ir_and hok
  obtain ⟨hd, rfl⟩ := ir_d_inv h1
  obtain ⟨t, xs, rfl, hh0⟩ := ir_jm_inv h
  obtain ⟨a, b, r, rfl, hh1⟩ := ir_i2_inv hh0
  have ht := ir_tg_inv h2
  exact fun ls hl hn => lv_icmp_ge hx hb hd ht (fun q => hF _ _ _ (by rw [if_neg (Int32.not_lt.mpr q)] at hh1; exact hh1) ls hl hn) (fun q => hF _ _ _ (by rw [if_pos (Int32.not_le.mp q)] at hh1; exact hh1) ls hl hn)
theorem ir_c_icmp_gt (hx : p.tables.exec = Jvm.exec) (hb : c.code = ir_co y) (hF : ∀ (pc : Nat) (L : ir_L) (st : List Value), F pc L st M = some z → ir_V w p l e R s m args below meth c H locs cells slots Q pc L st) (off : Int) (hok : (ir_d y pc (.if_icmp .gt off) 3 n && ir_tg pc x off) = true) (h : ir_jm x (fun t => ir_i2 st fun a b r => if b < a then F t L r M else F n L r M) = some z) : ir_V w p l e R s m args below meth c H locs cells slots Q pc L st := by
  obtain ⟨h1, h2⟩ := ir_and hok
  obtain ⟨hd, rfl⟩ := ir_d_inv h1
  obtain ⟨t, xs, rfl, hh0⟩ := ir_jm_inv h
  obtain ⟨a, b, r, rfl, hh1⟩ := ir_i2_inv hh0
  have ht := ir_tg_inv h2
  exact fun ls hl hn => lv_icmp_gt hx hb hd ht (fun q => hF _ _ _ (by rw [if_pos q] at hh1; exact hh1) ls hl hn) (fun q => hF _ _ _ (by rw [if_neg q] at hh1; exact hh1) ls hl hn)
theorem ir_c_icmp_le (hx : p.tables.exec = Jvm.exec) (hb : c.code = ir_co y) (hF : ∀ (pc : Nat) (L : ir_L) (st : List Value), F pc L st M = some z → ir_V w p l e R s m args below meth c H locs cells slots Q pc L st) (off : Int) (hok : (ir_d y pc (.if_icmp .le off) 3 n && ir_tg pc x off) = true) (h : ir_jm x (fun t => ir_i2 st fun a b r => if b < a then F n L r M else F t L r M) = some z) : ir_V w p l e R s m args below meth c H locs cells slots Q pc L st := by
  obtain ⟨h1, h2⟩ := ir_and hok
  obtain ⟨hd, rfl⟩ := ir_d_inv h1
  obtain ⟨t, xs, rfl, hh0⟩ := ir_jm_inv h
  obtain ⟨a, b, r, rfl, hh1⟩ := ir_i2_inv hh0
  have ht := ir_tg_inv h2
  exact fun ls hl hn => lv_icmp_le hx hb hd ht (fun q => hF _ _ _ (by rw [if_neg (Int32.not_lt.mpr q)] at hh1; exact hh1) ls hl hn) (fun q => hF _ _ _ (by rw [if_pos (Int32.not_le.mp q)] at hh1; exact hh1) ls hl hn)
theorem ir_c_goto (hx : p.tables.exec = Jvm.exec) (hb : c.code = ir_co y) (hF : ∀ (pc : Nat) (L : ir_L) (st : List Value), F pc L st M = some z → ir_V w p l e R s m args below meth c H locs cells slots Q pc L st) (off : Int) (hok : (ir_d y pc (.goto off) 3 n && ir_tg pc x off) = true) (h : ir_jm x (fun t => F t L st M) = some z) : ir_V w p l e R s m args below meth c H locs cells slots Q pc L st := by
  obtain ⟨h1, h2⟩ := ir_and hok
  obtain ⟨hd, rfl⟩ := ir_d_inv h1
  obtain ⟨t, xs, rfl, hh0⟩ := ir_jm_inv h
  exact fun ls hl hn => lv_goto hx hb hd (ir_tg_inv h2) (hF _ _ _ hh0 ls hl hn)
theorem ir_c_lookup (hx : p.tables.exec = Jvm.exec) (hb : c.code = ir_co y) (hF : ∀ (pc : Nat) (L : ir_L) (st : List Value), F pc L st M = some z → ir_V w p l e R s m args below meth c H locs cells slots Q pc L st) (d : Int) (ps : Array (Int × Int)) (hok : (ir_d y pc (.lookupswitch d ps) (n - pc) n && (ir_tg pc x d && (ir_lkS pc ps.toList x.tail && (ps.toList.zip (ps.toList.drop 1)).all (fun (a, next) => a.1 < next.1)))) = true) (h : ir_i1 st (fun a r => ir_jm x fun d => ir_swt (fun t => F t L r M) a d x.tail) = some z) : ir_V w p l e R s m args below meth c H locs cells slots Q pc L st := by
  obtain ⟨h1, h234⟩ := ir_and hok
  obtain ⟨h2, h34⟩ := ir_and h234
  obtain ⟨h3, h4⟩ := ir_and h34
  obtain ⟨hd, -⟩ := ir_d_inv h1
  obtain ⟨a, r, rfl, hh0⟩ := ir_i1_inv h
  obtain ⟨t, xs, rfl, hh1⟩ := ir_jm_inv hh0
  obtain ⟨t', hh1, ht⟩ := ir_lk_sw (ir_tg_inv h2) _ _ h3 hh1
  exact fun ls hl hn => lv_lookup hx hb hd h4 rfl ht (hF _ _ _ hh1 ls hl hn)
theorem ir_c_table (hx : p.tables.exec = Jvm.exec) (hb : c.code = ir_co y) (hF : ∀ (pc : Nat) (L : ir_L) (st : List Value), F pc L st M = some z → ir_V w p l e R s m args below meth c H locs cells slots Q pc L st) (d lo hi : Int) (os : Array Int) (hok : (ir_d y pc (.tableswitch d lo hi os) (n - pc) n && (ir_tg pc x d && (ir_tbS pc lo os.toList x.tail && decide (hi = lo + os.size - 1)))) = true) (h : ir_i1 st (fun a r => ir_jm x fun d => ir_swt (fun t => F t L r M) a d x.tail) = some z) : ir_V w p l e R s m args below meth c H locs cells slots Q pc L st := by
  obtain ⟨h1, h234⟩ := ir_and hok
  obtain ⟨h2, h34⟩ := ir_and h234
  obtain ⟨h3, h4⟩ := ir_and h34
  have h4 := of_decide_eq_true h4
  obtain ⟨hd, -⟩ := ir_d_inv h1
  obtain ⟨a, r, rfl, hh0⟩ := ir_i1_inv h
  obtain ⟨t, xs, rfl, hh1⟩ := ir_jm_inv hh0
  rcases ir_tb_sw _ _ _ h3 hh1 with ⟨j, t', o, g1, g2, g3, g4⟩ | ⟨g1, g2⟩
  · have hj : j < os.toList.length := (List.getElem?_eq_some_iff.mp g1).1
    rw [Array.length_toList] at hj
    refine fun ls hl hn => lv_tableIn hx hb hd (by omega) (by omega) (off := o) ?_ g3 (hF _ _ _ g4 ls hl hn)
    rw [show (a.toInt - lo).toNat = j by omega, ← Array.getElem?_toList]
    exact g1
  · refine fun ls hl hn => lv_tableOut hx hb hd ?_ (ir_tg_inv h2) (hF _ _ _ g2 ls hl hn)
    by_cases q1 : a.toInt < lo
    · exact Or.inl q1
    · refine Or.inr (Classical.byContradiction fun q2 => ?_)
      exact g1 (a.toInt - lo).toNat (by rw [Array.length_toList]; omega) (by omega)
theorem ir_s_ldcw (hx : p.tables.exec = Jvm.exec) (hb : c.code = ir_co y) {own tx : String} {index q : Nat} (hown : s.vm.findClass own = some m.cls) (hZ : vk_R own index tx q s) (hdg : decode (ir_co y) pc = .ok (.ldc_w index, 3)) {ls : Array Slot} {rest : List Value}
    (k : W p l e R s m args below meth c H locs cells slots Q (F0 m (pc + 3) ls (.ref q :: rest))) : W p l e R s m args below meth c H locs cells slots Q (F0 m pc ls rest) := by
  intro T hT X
  obtain ⟨t, a1, b1⟩ := k T hT X
  exact ⟨t, X.ldcStringW hx (own := own) (text := tx) (index := index) (a := q) hown hZ.1 hZ.2 (g := F0 m pc ls rest) rfl (by rw [hb]; exact hdg) _ a1, b1⟩
theorem ir_k55 {a k : Nat} (h1 : 1000000 ≤ a) (h2 : a < 1000055) (hk : a - 1000000 = k) : k < 55 ∧ a = 1000000 + k := by omega
set_option maxRecDepth 100000 in
theorem ir_okl_inv {j : Nat} (h : ir_okl y j v = true) : (∃ c, v = .int c ∧ Cond.constant (ir_on (ir_o y)) j c ∈ ir_Tb) ∨ ∃ i, i < 55 ∧ v = .ref (1000000 + i) ∧ (ir_str i).1 = ir_o y ∧ (ir_str i).2.1 = j := by
  unfold ir_okl at h
  split at h
  · obtain ⟨q, hq, h⟩ := List.any_eq_true.mp h
    obtain ⟨h1, h2⟩ := ir_and h
    obtain ⟨h2, h3⟩ := ir_and h2
    have h9 := ir_k_ok q hq
    refine Or.inl ⟨_, rfl, ?_⟩
    rw [← ir_beq h1, ← ir_beq h2, ← of_decide_eq_true h3]
    exact h9
  · rename_i a
    obtain ⟨h1, h234⟩ := ir_and h
    obtain ⟨h2, h34⟩ := ir_and h234
    obtain ⟨h3, h4⟩ := ir_and h34
    generalize hk : a - 1000000 = k at h3 h4
    obtain ⟨e1, e2⟩ := ir_k55 (Nat.le_of_ble_eq_true h1) (ir_blt h2) hk
    exact Or.inr ⟨k, e1, congrArg Value.ref e2, ir_beq h3, ir_beq h4⟩
  · exact nomatch h
theorem ir_c_ldc (hx : p.tables.exec = Jvm.exec) (hb : c.code = ir_co y) (hF : ∀ (pc : Nat) (L : ir_L) (st : List Value), F pc L st M = some z → ir_V w p l e R s m args below meth c H locs cells slots Q pc L st) (ho : s.vm.findClass (ir_on (ir_o y)) = some m.cls) (hT : ∀ v ∈ ir_Tb, v.before args s = true) (hE : ir_ext w s s.heap) (j : Nat) (hok : (ir_d y pc (.ldc j) 2 n && ir_okl y j v) = true) (h : F n L (v :: st) M = some z) : ir_V w p l e R s m args below meth c H locs cells slots Q pc L st := by
  obtain ⟨h1, h2⟩ := ir_and hok
  obtain ⟨hd, rfl⟩ := ir_d_inv h1
  rcases ir_okl_inv h2 with ⟨c9, rfl, g⟩ | ⟨i, hi, rfl, g1, g2⟩
  · exact fun ls hl hn => lv_ldc hx hb ho (hT _ g) hd (hF _ _ _ h ls hl hn)
  · have h7 := (hE.2.1 i hi).2
    rw [g1, g2] at h7
    intro ls hl hn
    have h8 := hF _ _ _ h ls hl hn
    rw [List.map_cons, ir_tr_ext (w := w) (a := 1000000 + i) (by omega)] at h8
    exact va_ldcS hx hb ho h7 hd h8
theorem ir_c_ldc_w (hx : p.tables.exec = Jvm.exec) (hb : c.code = ir_co y) (hF : ∀ (pc : Nat) (L : ir_L) (st : List Value), F pc L st M = some z → ir_V w p l e R s m args below meth c H locs cells slots Q pc L st) (ho : s.vm.findClass (ir_on (ir_o y)) = some m.cls) (hT : ∀ v ∈ ir_Tb, v.before args s = true) (hE : ir_ext w s s.heap) (j : Nat) (hok : (ir_d y pc (.ldc_w j) 3 n && ir_okl y j v) = true) (h : F n L (v :: st) M = some z) : ir_V w p l e R s m args below meth c H locs cells slots Q pc L st := by
  obtain ⟨h1, h2⟩ := ir_and hok
  obtain ⟨hd, rfl⟩ := ir_d_inv h1
  rcases ir_okl_inv h2 with ⟨c9, rfl, g⟩ | ⟨i, hi, rfl, g1, g2⟩
  · exact fun ls hl hn => lv_ldcw hx hb ho (hT _ g) hd (hF _ _ _ h ls hl hn)
  · have h7 := (hE.2.1 i hi).2
    rw [g1, g2] at h7
    intro ls hl hn
    have h8 := hF _ _ _ h ls hl hn
    rw [List.map_cons, ir_tr_ext (w := w) (a := 1000000 + i) (by omega)] at h8
    exact ir_s_ldcw hx hb ho h7 hd h8
theorem ir_c_ldc2 (hx : p.tables.exec = Jvm.exec) (hb : c.code = ir_co y) (hF : ∀ (pc : Nat) (L : ir_L) (st : List Value), F pc L st M = some z → ir_V w p l e R s m args below meth c H locs cells slots Q pc L st) (ho : s.vm.findClass (ir_on (ir_o y)) = some m.cls) (hT : ∀ v ∈ ir_Tb, v.before args s = true) (hE : ir_ext w s s.heap) (j : Nat) (hok : (ir_d y pc (.ldc2_w j) 3 n && ir_okj y j v) = true) (h : F n L (v :: st) M = some z) : ir_V w p l e R s m args below meth c H locs cells slots Q pc L st := by
  obtain ⟨h1, h2⟩ := ir_and hok
  obtain ⟨hd, rfl⟩ := ir_d_inv h1
  unfold ir_okj at h2
  split at h2
  · obtain ⟨q, hq, h2⟩ := List.any_eq_true.mp h2
    obtain ⟨g1, g2⟩ := ir_and h2
    obtain ⟨g2, g3⟩ := ir_and g2
    have h9 : Cond.constantLong (ir_on q.1) q.2.1 q.2.2 ∈ ir_Tb := ir_j_ok q hq
    rw [ir_beq g1, ir_beq g2, of_decide_eq_true g3] at h9
    exact fun ls hl hn => lv_ldc2 hx hb ho (hT _ h9) hd (hF _ _ _ h ls hl hn)
  · exact nomatch h2
theorem ir_c_gets (hx : p.tables.exec = Jvm.exec) (hb : c.code = ir_co y) (hF : ∀ (pc : Nat) (L : ir_L) (st : List Value), F pc L st M = some z → ir_V w p l e R s m args below meth c H locs cells slots Q pc L st) (hS : va_S (ir_A w) s.heap H locs) (ho : s.vm.findClass (ir_on (ir_o y)) = some m.cls) (hT : ∀ v ∈ ir_Tb, v.before args s = true) (hE : ir_ext w s s.heap) (j : Nat) (hok : (ir_d y pc (.getstatic j) 3 n && ir_okg y j v) = true) (h : F n L (v :: st) M = some z) : ir_V w p l e R s m args below meth c H locs cells slots Q pc L st := by
  obtain ⟨h1, h2⟩ := ir_and hok
  obtain ⟨hd, rfl⟩ := ir_d_inv h1
  rcases ir_or h2 with h2 | h2
  · obtain ⟨g1, g2⟩ := ir_and h2
    have g2 := of_decide_eq_true g2
    subst g2
    have h9 : Cond.fieldLink (ir_on (ir_o y)) j "java/lang/String" "COMPACT_STRINGS" "Z" ∈ ir_Tb := ir_g_ok _ (ir_i3L_inv g1)
    exact fun ls hl hn => va_gets hx hb hE.2.2.1 hS ho (hT _ h9) (fun x h => h) hd (hF _ _ _ h ls hl hn)
  · rcases ir_or h2 with h2 | h2
    · obtain ⟨g1, g2⟩ := ir_and h2
      have g2 := of_decide_eq_true g2
      subst g2
      have h9 : Cond.fieldLink (ir_on (ir_o y)) j "WellQueue$Shares" "ROWS" "[I" ∈ ir_Tb := ir_g_ok _ (ir_i3L_inv g1)
      intro ls hl hn
      have h8 := hF _ _ _ h ls hl hn
      rw [List.map_cons, ir_tr_ext (w := w) (a := 3000000) (by omega)] at h8
      exact va_gets hx hb hE.2.2.2.1 hS ho (hT _ h9) (fun x h => h) hd h8
    · obtain ⟨g1, g2⟩ := ir_and h2
      have g2 := of_decide_eq_true g2
      subst g2
      have h9 : Cond.fieldLink (ir_on (ir_o y)) j "jdk/internal/util/Preconditions" "SIOOBE_FORMATTER" "Ljava/util/function/BiFunction;" ∈ ir_Tb := ir_g_ok _ (ir_i3L_inv g1)
      exact fun ls hl hn => va_gets hx hb hE.2.2.2.2.1 hS ho (hT _ h9) (fun x h => h) hd (hF _ _ _ h ls hl hn)
end IRS
