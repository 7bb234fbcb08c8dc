section IRW2
variable {p : Program} {l : Launch} {e : Env} {R : Room} {s : State} {m : MethodId} {args : Array Value} {below : List Frame} {meth : Method} {c : Code} {c0 s0 : Nat}
variable {w : ir_Wd} {M : ir_M} {F : ir_F} {G : ir_G} {z : (Option Value ⊕ Nat) × ir_M} {pc y d : Nat} {L : ir_L} {st : List Value}
set_option maxHeartbeats 4000000 in
theorem ir_step_ok (K : ir_cx w p l R s m args meth c y d) (hc : ir_nc z.2 ≤ c0 + R.cells) (hs : ir_ns z.2 ≤ s0 + R.slots) (hF : ∀ pc L st M', F pc L st M' = some z → ir_gr M' z.2 ∧ ir_Gd w p l e R s m args below meth c z c0 s0 pc L st M')
    (hG : ∀ y' as M' z', y' < 383 → y' ≠ ir_lawN → (ir_arg as).length ≤ ir_ml y' → G y' as M' = some z' → ir_gr M' z'.2 ∧ ∃ d', d = d' + 1 ∧ ir_Mt l w d' y' as M' z') :
    ∀ (ent : ir_E), ir_okE y pc ent = true → ir_step F G (ir_hd y) pc ent L st M = some z → ir_Gd w p l e R s m args below meth c z c0 s0 pc L st M := by
  rintro ⟨i, n, x, v, dd⟩ hok h
  have K' := K
  obtain ⟨hx, hb, hml, ho, hT, hE, hA, hlt, hlk, hnm, hret, htab, hfr, hlo, hy⟩ := K'
  have hcat : w.2.2.1.category = 1 := hE.2.2.2.2.2.2.2.2.2.2.2.2.2.2
  cases i with
  | iconst k => exact fun H locs hR hS hat => ir_c_iconst hx hb (fun pc L st h => (hF pc L st M h).2 H locs hR hS hat) k hok h
  | bipush k => exact fun H locs hR hS hat => ir_c_bipush hx hb (fun pc L st h => (hF pc L st M h).2 H locs hR hS hat) k hok h
  | sipush k => exact fun H locs hR hS hat => ir_c_sipush hx hb (fun pc L st h => (hF pc L st M h).2 H locs hR hS hat) k hok h
  | lconst k => exact fun H locs hR hS hat => ir_c_lconst hx hb (fun pc L st h => (hF pc L st M h).2 H locs hR hS hat) k hok h
  | ldc k => exact fun H locs hR hS hat => ir_c_ldc hx hb (fun pc L st h => (hF pc L st M h).2 H locs hR hS hat) ho hT hE k hok h
  | ldc_w k => exact fun H locs hR hS hat => ir_c_ldc_w hx hb (fun pc L st h => (hF pc L st M h).2 H locs hR hS hat) ho hT hE k hok h
  | ldc2_w k => exact fun H locs hR hS hat => ir_c_ldc2 hx hb (fun pc L st h => (hF pc L st M h).2 H locs hR hS hat) ho hT hE k hok h
  | getstatic k => exact fun H locs hR hS hat => ir_c_gets hx hb (fun pc L st h => (hF pc L st M h).2 H locs hR hS hat) hS ho hT hE k hok h
  | iload j => exact fun H locs hR hS hat => ir_c_iload hx hb (fun pc L st h => (hF pc L st M h).2 H locs hR hS hat) j hok h
  | lload j => exact fun H locs hR hS hat => ir_c_lload hx hb (fun pc L st h => (hF pc L st M h).2 H locs hR hS hat) j hok h
  | aload j => exact fun H locs hR hS hat => ir_c_aload hx hb (fun pc L st h => (hF pc L st M h).2 H locs hR hS hat) j hok h
  | iload_n j => exact fun H locs hR hS hat => ir_c_iload_n hx hb (fun pc L st h => (hF pc L st M h).2 H locs hR hS hat) j hok h
  | lload_n j => exact fun H locs hR hS hat => ir_c_lload_n hx hb (fun pc L st h => (hF pc L st M h).2 H locs hR hS hat) j hok h
  | aload_n j => exact fun H locs hR hS hat => ir_c_aload_n hx hb (fun pc L st h => (hF pc L st M h).2 H locs hR hS hat) j hok h
  | istore j => exact fun H locs hR hS hat => ir_c_istore hx hb (fun pc L st h => (hF pc L st M h).2 H locs hR hS hat) hcat j hok h
  | lstore j => exact fun H locs hR hS hat => ir_c_lstore hx hb (fun pc L st h => (hF pc L st M h).2 H locs hR hS hat) hcat j hok h
  | astore j => exact fun H locs hR hS hat => ir_c_astore hx hb (fun pc L st h => (hF pc L st M h).2 H locs hR hS hat) hcat j hok h
  | istore_n j => exact fun H locs hR hS hat => ir_c_istore_n hx hb (fun pc L st h => (hF pc L st M h).2 H locs hR hS hat) hcat j hok h
  | lstore_n j => exact fun H locs hR hS hat => ir_c_lstore_n hx hb (fun pc L st h => (hF pc L st M h).2 H locs hR hS hat) hcat j hok h
  | astore_n j => exact fun H locs hR hS hat => ir_c_astore_n hx hb (fun pc L st h => (hF pc L st M h).2 H locs hR hS hat) hcat j hok h
  | iinc j k => exact fun H locs hR hS hat => ir_c_iinc hx hb (fun pc L st h => (hF pc L st M h).2 H locs hR hS hat) hcat j k hok h
  | iadd => exact fun H locs hR hS hat => ir_c_iadd hx hb (fun pc L st h => (hF pc L st M h).2 H locs hR hS hat) hok h
  | isub => exact fun H locs hR hS hat => ir_c_isub hx hb (fun pc L st h => (hF pc L st M h).2 H locs hR hS hat) hok h
  | imul => exact fun H locs hR hS hat => ir_c_imul hx hb (fun pc L st h => (hF pc L st M h).2 H locs hR hS hat) hok h
  | iand => exact fun H locs hR hS hat => ir_c_iand hx hb (fun pc L st h => (hF pc L st M h).2 H locs hR hS hat) hok h
  | ior => exact fun H locs hR hS hat => ir_c_ior hx hb (fun pc L st h => (hF pc L st M h).2 H locs hR hS hat) hok h
  | ixor => exact fun H locs hR hS hat => ir_c_ixor hx hb (fun pc L st h => (hF pc L st M h).2 H locs hR hS hat) hok h
  | ishl => exact fun H locs hR hS hat => ir_c_ishl hx hb (fun pc L st h => (hF pc L st M h).2 H locs hR hS hat) hok h
  | ishr => exact fun H locs hR hS hat => ir_c_ishr hx hb (fun pc L st h => (hF pc L st M h).2 H locs hR hS hat) hok h
  | iushr => exact fun H locs hR hS hat => ir_c_iushr hx hb (fun pc L st h => (hF pc L st M h).2 H locs hR hS hat) hok h
  | idiv => exact fun H locs hR hS hat => ir_c_idiv hx hb (fun pc L st h => (hF pc L st M h).2 H locs hR hS hat) hok h
  | irem => exact fun H locs hR hS hat => ir_c_irem hx hb (fun pc L st h => (hF pc L st M h).2 H locs hR hS hat) hok h
  | ladd => exact fun H locs hR hS hat => ir_c_ladd hx hb (fun pc L st h => (hF pc L st M h).2 H locs hR hS hat) hok h
  | lsub => exact fun H locs hR hS hat => ir_c_lsub hx hb (fun pc L st h => (hF pc L st M h).2 H locs hR hS hat) hok h
  | lmul => exact fun H locs hR hS hat => ir_c_lmul hx hb (fun pc L st h => (hF pc L st M h).2 H locs hR hS hat) hok h
  | land => exact fun H locs hR hS hat => ir_c_land hx hb (fun pc L st h => (hF pc L st M h).2 H locs hR hS hat) hok h
  | lor => exact fun H locs hR hS hat => ir_c_lor hx hb (fun pc L st h => (hF pc L st M h).2 H locs hR hS hat) hok h
  | ldiv => exact fun H locs hR hS hat => ir_c_ldiv hx hb (fun pc L st h => (hF pc L st M h).2 H locs hR hS hat) hok h
  | lrem => exact fun H locs hR hS hat => ir_c_lrem hx hb (fun pc L st h => (hF pc L st M h).2 H locs hR hS hat) hok h
  | lshl => exact fun H locs hR hS hat => ir_c_lshl hx hb (fun pc L st h => (hF pc L st M h).2 H locs hR hS hat) hok h
  | lshr => exact fun H locs hR hS hat => ir_c_lshr hx hb (fun pc L st h => (hF pc L st M h).2 H locs hR hS hat) hok h
  | lcmp => exact fun H locs hR hS hat => ir_c_lcmp hx hb (fun pc L st h => (hF pc L st M h).2 H locs hR hS hat) hok h
  | ineg => exact fun H locs hR hS hat => ir_c_ineg hx hb (fun pc L st h => (hF pc L st M h).2 H locs hR hS hat) hok h
  | i2l => exact fun H locs hR hS hat => ir_c_i2l hx hb (fun pc L st h => (hF pc L st M h).2 H locs hR hS hat) hok h
  | l2i => exact fun H locs hR hS hat => ir_c_l2i hx hb (fun pc L st h => (hF pc L st M h).2 H locs hR hS hat) hok h
  | i2b => exact fun H locs hR hS hat => ir_c_i2b hx hb (fun pc L st h => (hF pc L st M h).2 H locs hR hS hat) hok h
  | i2s => exact fun H locs hR hS hat => ir_c_i2s hx hb (fun pc L st h => (hF pc L st M h).2 H locs hR hS hat) hok h
  | i2c => exact fun H locs hR hS hat => ir_c_i2c hx hb (fun pc L st h => (hF pc L st M h).2 H locs hR hS hat) hok h
  | dup => exact fun H locs hR hS hat => ir_c_dup hx hb (fun pc L st h => (hF pc L st M h).2 H locs hR hS hat) hok h
  | dup2 => exact fun H locs hR hS hat => ir_c_dup2 hx hb (fun pc L st h => (hF pc L st M h).2 H locs hR hS hat) hok h
  | pop => exact fun H locs hR hS hat => ir_c_pop hx hb (fun pc L st h => (hF pc L st M h).2 H locs hR hS hat) hok h
  | pop2 => exact fun H locs hR hS hat => ir_c_pop2 hx hb (fun pc L st h => (hF pc L st M h).2 H locs hR hS hat) hok h
  | ifCond cd off =>
    cases cd with
    | eq => exact fun H locs hR hS hat => ir_c_if_eq hx hb (fun pc L st h => (hF pc L st M h).2 H locs hR hS hat) off hok h
    | ne => exact fun H locs hR hS hat => ir_c_if_ne hx hb (fun pc L st h => (hF pc L st M h).2 H locs hR hS hat) off hok h
    | lt => exact fun H locs hR hS hat => ir_c_if_lt hx hb (fun pc L st h => (hF pc L st M h).2 H locs hR hS hat) off hok h
    | ge => exact fun H locs hR hS hat => ir_c_if_ge hx hb (fun pc L st h => (hF pc L st M h).2 H locs hR hS hat) off hok h
    | gt => exact fun H locs hR hS hat => ir_c_if_gt hx hb (fun pc L st h => (hF pc L st M h).2 H locs hR hS hat) off hok h
    | le => exact fun H locs hR hS hat => ir_c_if_le hx hb (fun pc L st h => (hF pc L st M h).2 H locs hR hS hat) off hok h
  | if_icmp cd off =>
    cases cd with
    | eq => exact fun H locs hR hS hat => ir_c_icmp_eq hx hb (fun pc L st h => (hF pc L st M h).2 H locs hR hS hat) off hok h
    | ne => exact fun H locs hR hS hat => ir_c_icmp_ne hx hb (fun pc L st h => (hF pc L st M h).2 H locs hR hS hat) off hok h
    | lt => exact fun H locs hR hS hat => ir_c_icmp_lt hx hb (fun pc L st h => (hF pc L st M h).2 H locs hR hS hat) off hok h
    | ge => exact fun H locs hR hS hat => ir_c_icmp_ge hx hb (fun pc L st h => (hF pc L st M h).2 H locs hR hS hat) off hok h
    | gt => exact fun H locs hR hS hat => ir_c_icmp_gt hx hb (fun pc L st h => (hF pc L st M h).2 H locs hR hS hat) off hok h
    | le => exact fun H locs hR hS hat => ir_c_icmp_le hx hb (fun pc L st h => (hF pc L st M h).2 H locs hR hS hat) off hok h
  | goto off => exact fun H locs hR hS hat => ir_c_goto hx hb (fun pc L st h => (hF pc L st M h).2 H locs hR hS hat) off hok h
  | tableswitch a lo hi os => exact fun H locs hR hS hat => ir_c_table hx hb (fun pc L st h => (hF pc L st M h).2 H locs hR hS hat) a lo hi os hok h
  | lookupswitch a ps => exact fun H locs hR hS hat => ir_c_lookup hx hb (fun pc L st h => (hF pc L st M h).2 H locs hR hS hat) a ps hok h
  | getfield j => exact ir_c_getf K hF hok h
  | putfield j => exact ir_c_putf K hF hok h
  | iaload =>
    obtain ⟨hd, rfl⟩ := ir_d_inv hok
    obtain ⟨a, i, r, rfl, h⟩ := ir_ri_inv h
    obtain ⟨hg, h⟩ := ir_ck_inv h
    exact fun H locs hR hS hat ls hl hn => ir_s_iald hx hb hE hR hS hg hd ((hF _ _ _ _ h).2 H locs hR hS hat ls hl hn)
  | laload =>
    obtain ⟨hd, rfl⟩ := ir_d_inv hok
    obtain ⟨a, i, r, rfl, h⟩ := ir_ri_inv h
    obtain ⟨hg, h⟩ := ir_ck_inv h
    exact fun H locs hR hS hat ls hl hn => ir_s_lald hx hb hE hR hg hd ((hF _ _ _ _ h).2 H locs hR hS hat ls hl hn)
  | baload =>
    obtain ⟨hd, rfl⟩ := ir_d_inv hok
    obtain ⟨a, i, r, rfl, h⟩ := ir_ri_inv h
    obtain ⟨hg, h⟩ := ir_ck_inv h
    exact fun H locs hR hS hat ls hl hn => ir_s_bald hx hb hE hR hS hg hd ((hF _ _ _ _ h).2 H locs hR hS hat ls hl hn)
  | caload =>
    obtain ⟨hd, rfl⟩ := ir_d_inv hok
    obtain ⟨a, i, r, rfl, h⟩ := ir_ri_inv h
    obtain ⟨hg, h⟩ := ir_ck_inv h
    exact fun H locs hR hS hat ls hl hn => ir_s_cald hx hb hE hR hg hd ((hF _ _ _ _ h).2 H locs hR hS hat ls hl hn)
  | aaload =>
    obtain ⟨hd, rfl⟩ := ir_d_inv hok
    obtain ⟨a, i, r, rfl, h⟩ := ir_ri_inv h
    obtain ⟨hg, h⟩ := ir_ck_inv h
    exact fun H locs hR hS hat ls hl hn => ir_s_aald hx hb hE hR hg hd ((hF _ _ _ _ h).2 H locs hR hS hat ls hl hn)
  | arraylength =>
    obtain ⟨hd, rfl⟩ := ir_d_inv hok
    obtain ⟨a, r, rfl, h⟩ := ir_r1_inv h
    obtain ⟨hg, h⟩ := ir_ck_inv h
    exact fun H locs hR hS hat ls hl hn => ir_s_len hx hb hE hR hS hg hd ((hF _ _ _ _ h).2 H locs hR hS hat ls hl hn)
  | iastore =>
    obtain ⟨hd, rfl⟩ := ir_d_inv hok
    obtain ⟨a, i, u, r, rfl, h⟩ := ir_rii_inv h
    obtain ⟨hg, h⟩ := ir_ck_inv h
    exact fun H locs hR hS hat ls hl hn => ir_s_iast hx hb hE hR hS hg hd (fun H1 locs1 hR1 hS1 => (hF _ _ _ _ h).2 H1 locs1 hR1 hS1 hat ls hl hn)
  | lastore =>
    obtain ⟨hd, rfl⟩ := ir_d_inv hok
    obtain ⟨a, i, u, r, rfl, h⟩ := ir_ril_inv h
    obtain ⟨hg, h⟩ := ir_ck_inv h
    exact fun H locs hR hS hat ls hl hn => ir_s_last hx hb hE hR hS hg hd (fun H1 locs1 hR1 hS1 => (hF _ _ _ _ h).2 H1 locs1 hR1 hS1 hat ls hl hn)
  | bastore =>
    obtain ⟨hd, rfl⟩ := ir_d_inv hok
    obtain ⟨a, i, u, r, rfl, h⟩ := ir_rii_inv h
    obtain ⟨hg, h⟩ := ir_ck_inv h
    exact fun H locs hR hS hat ls hl hn => ir_s_bast hx hb hE hR hS hg hd (fun H1 locs1 hR1 hS1 => (hF _ _ _ _ h).2 H1 locs1 hR1 hS1 hat ls hl hn)
  | castore =>
    obtain ⟨hd, rfl⟩ := ir_d_inv hok
    obtain ⟨a, i, u, r, rfl, h⟩ := ir_rii_inv h
    obtain ⟨hg, h⟩ := ir_ck_inv h
    exact fun H locs hR hS hat ls hl hn => ir_s_cast hx hb hE hR hS hg hd (fun H1 locs1 hR1 hS1 => (hF _ _ _ _ h).2 H1 locs1 hR1 hS1 hat ls hl hn)
  | aastore =>
    obtain ⟨hd, rfl⟩ := ir_d_inv hok
    obtain ⟨a, i, u, r, rfl, h⟩ := ir_rir_inv h
    obtain ⟨hg, h⟩ := ir_ck_inv h
    exact fun H locs hR hS hat ls hl hn => ir_s_aast hx hb hE hR hS hg hd (fun H1 locs1 hR1 hS1 => (hF _ _ _ _ h).2 H1 locs1 hR1 hS1 hat ls hl hn)
  | new j =>
    obtain ⟨o1, o2⟩ := ir_and hok
    obtain ⟨hd, hn⟩ := ir_d_inv o1
    match x, o2, h with
    | 1 :: k :: xs, o2, h => exact ir_c_throw K hc hs hd o2 h
    | 0 :: cc :: k :: xs, o2, h => exact ir_c_newo K hc hs hF hd hn o2 h
    | [], _, h => exact nomatch h
    | [0], _, h => exact nomatch h
    | [0, _], _, h => exact nomatch h
    | [1], _, h => exact nomatch h
    | (k + 2) :: xs, _, h => exact nomatch h
  | newarray a => exact ir_c_newa K hc hs hF hok h
  | anewarray j => exact ir_c_newq K hc hs hF hok h
  | invokevirtual j =>
    obtain ⟨o1, o2⟩ := ir_and hok
    obtain ⟨hd, hn⟩ := ir_d_inv o1
    exact ir_c_inv K hc hs hF hG (op := 0) hd (Or.inl rfl) hn o2 h
  | invokespecial j =>
    obtain ⟨o1, o2⟩ := ir_and hok
    obtain ⟨hd, hn⟩ := ir_d_inv o1
    exact ir_c_inv K hc hs hF hG (op := 1) hd (Or.inr (Or.inl rfl)) hn o2 h
  | invokestatic j =>
    obtain ⟨o1, o2⟩ := ir_and hok
    obtain ⟨hd, hn⟩ := ir_d_inv o1
    exact ir_c_inv K hc hs hF hG (op := 2) hd (Or.inr (Or.inr rfl)) hn o2 h
  | ireturn => exact ir_c_iret K hok h
  | lreturn => exact ir_c_lret K hok h
  | areturn => exact ir_c_aret K hok h
  | return_ => exact ir_c_vret K hok h
  | _ => exact nomatch h
end IRW2
/-! A BODY, by its steps -/
def ir_Bd (n : Nat) : Prop := ∀ (w : ir_Wd) (p : Program) (l : Launch) (e : Env) (R : Room) (s : State) (m : MethodId) (args : Array Value) (below : List Frame) (meth : Method) (c : Code) (y d : Nat), ir_cx w p l R s m args meth c y d → ∀ (pc : Nat) (L : ir_L) (st : List Value) (M : ir_M) (z : (Option Value ⊕ Nat) × ir_M) (c0 s0 : Nat), ir_ev n d y pc L st M = some z → ir_nc z.2 ≤ c0 + R.cells → ir_ns z.2 ≤ s0 + R.slots → ir_Gd w p l e R s m args below meth c z c0 s0 pc L st M
theorem ir_met {n : Nat} (hB : ir_Bd n) {l : Launch} (hl : l.stackTraces = false) {w : ir_Wd} (hcat : w.2.2.1.category = 1) {d y : Nat} (hy : y < 383) (hyl : y ≠ ir_lawN) {as : List Value} {M : ir_M} {z : (Option Value ⊕ Nat) × ir_M} (hlen : (ir_arg as).length ≤ ir_ml y) (h : ir_ev n d y 0 (ir_en y as) [] M = some z) : ir_Mt l w d y as M z := by
  obtain ⟨w1, w2, w3, w4, w5⟩ := ir_cw_ok y hy hyl
  have hgr := ir_ev_gr n d y 0 (ir_en y as) [] M z h
  have core : ∀ (p : Program) (e : Env) (s : State) (m : MethodId) (args : Array Value) (below : List Frame) (meth : Method) (c : Code) (s₁ : State), BodyLoose p l (ir_nm y) (headSpec (ir_ws y) (ir_rmm d (ir_nc z.2 - ir_nc M) (ir_ns z.2 - ir_ns M))) (ir_co y) (ir_mo y).2.2.2.1 (ir_mo y).2.2.2.2 e s m args below meth c s₁ → c.maxLocals = (ir_mo y).2.2.2.1 → c.exceptionTable.toList = tableOf (ir_hh y) → ir_Pc w as M args s →
      W p l e (headSpec (ir_ws y) (ir_rmm d (ir_nc z.2 - ir_nc M) (ir_ns z.2 - ir_ns M))).room s m args below meth c s.heap [] 0 0 (vx_MQ below (ir_Qc w z.1 z.2) (ir_XC w z.1 z.2) args s (ir_nc z.2 - ir_nc M) (ir_ns z.2 - ir_ns M) (ir_A w)) (entryFrame m args (ir_mo y).2.2.2.1) := by
    intro p e s m args below meth c s₁ B hml htab hP
    obtain ⟨P1, P2, P3, P4⟩ := hP
    have hws := atoms_spec (ws := ir_ws y) B.pre
    have hA : w.1 + 1 ≤ s.heap.size := by
      have h1 := P2.2.1
      have h2 := P2.2.2.2.1
      omega
    have K : ir_cx w p l (ir_rmm d (ir_nc z.2 - ir_nc M) (ir_ns z.2 - ir_ns M)) s m args meth c y d :=
      ⟨B.exec, B.bytes, hml.trans w4, by
        have h1 := findClass_of_methodNamed B.named
        rw [show (ir_nm y).cls = ir_on (ir_o y) from w3] at h1
        exact h1, fun v hv => hws v (List.mem_cons_of_mem _ hv), P3, hA, hl, B.notSynchronized, (name_of_methodNamed B.named B.method).1, B.returns, htab, Nat.le_refl _, Nat.le_refl _, hy⟩
    subst P1
    rw [lg_entry_eq]
    have h9 := hB w p l e _ s m _ below meth c y d K 0 (ir_en y as) [] M z (ir_nc M) (ir_ns M) h (by show ir_nc z.2 ≤ ir_nc M + (ir_nc z.2 - ir_nc M); omega) (by show ir_ns z.2 ≤ ir_ns M + (ir_ns z.2 - ir_ns M); omega) s.heap [] P2 ⟨Nat.le_refl _, fun _ _ _ => rfl, fun _ hq => absurd hq List.not_mem_nil⟩ ⟨Nat.le_refl _, Nat.le_refl _, fun q => by have := P4 q; omega⟩ _ (ir_en_lo hcat hlen) (by rw [ir_en_len hlen, hml, w4])
    rw [Nat.sub_self, Nat.sub_self, ← w4] at h9
    exact h9
  by_cases hem : (ir_hh y).isEmpty = true
  · refine vx_ofW (cc := ir_co y) (maxL := (ir_mo y).2.2.2.1) (ret := (ir_mo y).2.2.2.2) (ws' := ir_Tb) w2 (by rw [ir_ws, ir_cw_e hem]) (fun p e s m args below meth c s₁ B hml hno hP => core p e s m args below meth c s₁ B hml ?_ hP)
    rw [List.isEmpty_iff.mp hem]
    show c.exceptionTable.toList = []
    cases hq : c.exceptionTable.toList with
    | nil => rfl
    | cons a b => exact absurd (hno a (by rw [hq]; exact List.mem_cons_self)) id
  · refine vx_ofWH (cc := ir_co y) (maxL := (ir_mo y).2.2.2.1) (ret := (ir_mo y).2.2.2.2) (hh := ir_hh y) (ws' := ir_Tb) w2 (by rw [ir_ws, ir_cw_h hem]) (fun p e s m args below meth c s₁ B hml hP => core p e s m args below meth c s₁ B hml ?_ hP)
    refine vx_table (x := ir_nm y) B (atoms_spec (ws := ir_ws y) B.pre _ ?_) (bytes := ir_co y) (maxL' := (ir_mo y).2.2.2.1) (ret' := (ir_mo y).2.2.2.2)
    rw [ir_ws, ir_cw_h hem]
    exact List.mem_cons_self
theorem ir_sound : ∀ n, ir_Bd n := by
  intro n
  induction n with
  | zero => intro w p l e R s m args below meth c y d K pc L st M z c0 s0 h; exact nomatch h
  | succ n ih =>
    intro w p l e R s m args below meth c y d K pc L st M z c0 s0 h hc hs
    rw [ir_ev] at h
    cases hf : ir_fetch y pc with
    | none => rw [hf] at h; exact nomatch h
    | some ent =>
      rw [hf] at h
      dsimp only at h
      rw [ir_mk_eq] at h
      have hE := K.2.2.2.2.2.1
      have hl := K.2.2.2.2.2.2.2.1
      have h1 := ir_step_ok (e := e) (below := below) (F := ir_ev n d y) K hc hs (fun pc L st M' h => ⟨ir_ev_gr n d y pc L st M' z h, ih w p l e R s m args below meth c y d K pc L st M' z c0 s0 h hc hs⟩) (fun y' as M' z' hy hyl hlen hg => by
        cases d with
        | zero => exact nomatch hg
        | succ d' => exact ⟨ir_ev_gr n d' y' 0 _ [] M' z' hg, d', rfl, ir_met ih hl hE.2.2.2.2.2.2.2.2.2.2.2.2.2.2 hy hyl hlen hg⟩) ent (ir_fetch_ok hf) h
      intro H locs hR hS hat ls hlo hn
      exact h1 H locs hR hS hat ls (ir_lo_mf _ hlo) (by rw [ir_mf_len]; exact hn)
