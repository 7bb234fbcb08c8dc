/-! THE WELL: the goods, and all that is read -/
def k_K0 (T : Nat → Int32) : Nat → Int32 := fun k => if k = 3 then nI 1 else if k < 1640 then 0 else T k
def k_K1 (T : Nat → Int32) (G : Nat) : Nat → Int32 := k_put1 (k_put1 (k_K0 T) 1 (nI G)) 0 (nI 1)
section GD
variable {B : Nat → Nat} {n L : Nat} {xs : Nat → Int32} {M0 M M' : ir_M} {d dp s f p G N : Nat} {K K' : Nat → Int32} {T : Nat → Int32}
theorem c_K_0 (a0 : ir_I M 101 0 = K 0) (a1 : ir_I M 101 1 = K 1) (a2 : ir_I M 101 2 = K 2) (a3 : ir_I M 101 3 = K 6) (a4 : ir_I M 101 4 = K 3) (a5 : ir_I M 101 5 = K 4) (a6 : ir_I M 101 6 = K 5) (a7 : ir_I M 104 0 = K 7) (s0 : ir_I M 109 0 = K 9) (s1 : ir_I M 109 1 = K 42) (s2 : ir_I M 109 2 = K 43) (s3 : ir_I M 109 3 = K 44) (z2 : K 2 = 0) (z9 : K 9 = 0) (z44 : K 44 = 0) (z7 : K 7 = 0) (x1 : ∀ p, p < 8 → ir_I M 103 p = 0) (x2 : ∀ k, k < 64 → ir_I M 108 k = K (109 + k)) (x3 : ∀ p, p < 8 → ir_I M 113 p = K (34 + p)) : c_K M K := by
  have en : k_n K = 0 := by unfold k_n; rw [z2]; rfl
  have em : k_m K = 0 := by unfold k_m; rw [z9]; rfl
  have ew : k_w K = 0 := by unfold k_w; rw [z44]; rfl
  refine ⟨⟨a0, a1, a2, a3, a4, a5, a6, fun p hp => ?_, fun p g hp hg => ?_, fun p q hp hq => ?_, a7, fun i hi => ?_⟩, fun p hp => ?_, ⟨s0, s1, s2, s3, fun i hi => ?_, fun p hp => ?_, fun p hp => ?_, fun p hp => ?_, fun i hi => ?_⟩, fun p hp _ => x1 p hp, x2, x3⟩
  · rw [en] at hp; exact absurd hp (Nat.not_lt_zero _)
  · rw [en] at hp; exact absurd hp (Nat.not_lt_zero _)
  · rw [en] at hp; exact absurd hp (Nat.not_lt_zero _)
  · rw [z7] at hi; exact absurd hi (Nat.not_lt_zero _)
  · rw [en] at hp; exact absurd hp (Nat.not_lt_zero _)
  · rw [em] at hi; exact absurd hi (Nat.not_lt_zero _)
  · rw [en] at hp; exact absurd hp (Nat.not_lt_zero _)
  · rw [en] at hp; exact absurd hp (Nat.not_lt_zero _)
  · rw [en] at hp; exact absurd hp (Nat.not_lt_zero _)
  · rw [ew] at hi; exact absurd hi (Nat.not_lt_zero _)
theorem k_K0_e {k : Nat} (h : k < 1640) (h3 : k ≠ 3) : k_K0 T k = 0 := by
  unfold k_K0
  rw [if_neg h3, if_pos h]
theorem k_K1_e : (∀ k, k < 1640 → k ≠ 3 → k ≠ 1 → k ≠ 0 → k_K1 T G k = 0) ∧ k_K1 T G 0 = nI 1 ∧ k_K1 T G 1 = nI G ∧ k_K1 T G 3 = nI 1 := by
  unfold k_K1 k_put1
  refine ⟨fun k h1 h2 h3 h4 => ?_, if_pos rfl, ?_, ?_⟩
  · rw [if_neg h4, if_neg h3]; exact k_K0_e h1 h2
  · rw [if_neg (by decide), if_pos rfl]
  · rw [if_neg (by decide), if_neg (by decide)]; rfl
theorem k_FR_0 (h1 : 1 ≤ G) (h6 : G ≤ 6) : k_FR G 0 (k_K1 T G) := by
  obtain ⟨e, e0, e1, e3⟩ := k_K1_e (T := T) (G := G)
  refine ⟨⟨h1, h6, by decide, e1, e 2 (by decide) (by decide) (by decide) (by decide), e 9 (by decide) (by decide) (by decide) (by decide)⟩, fun i hi => absurd hi (Nat.not_lt_zero _), fun i hi => absurd hi (Nat.not_lt_zero _), ⟨1, by decide, by decide, e3⟩, ⟨0, by decide, e 4 (by decide) (by decide) (by decide) (by decide)⟩, Or.inl (e 5 (by decide) (by decide) (by decide) (by decide)), ⟨0, by decide, e 6 (by decide) (by decide) (by decide) (by decide), fun i hi => absurd hi (Nat.not_lt_zero _)⟩, ⟨0, by decide, e 7 (by decide) (by decide) (by decide) (by decide), fun i hi => absurd hi (Nat.not_lt_zero _), fun i hi => ⟨[], by rw [Nat.le_zero.mp hi]; rfl, by decide⟩, Or.inl rfl⟩, ⟨e 8 (by decide) (by decide) (by decide) (by decide), fun k h1 h2 => e k (by omega) (by omega) (by omega) (by omega), e 44 (by decide) (by decide) (by decide) (by decide)⟩, Or.inl (e 43 (by decide) (by decide) (by decide) (by decide)), fun k h1 h2 => ?_⟩
  rw [e k (by omega) (by omega) (by omega) (by omega)]
  decide +kernel
theorem r_F_g (h : r_F B n L xs M0 f p M) {g : Nat} (hg : g ≤ 6) : r_F B n L xs M0 f p (ir_sI M 414 1 (nI g)) := by
  obtain ⟨h1, h2, h3, h4, h5, -⟩ := h
  have q1 : q_eq [414] M (ir_sI M 414 1 (nI g)) := q_eq.sI (by decide)
  have ek : ∀ k', ir_I (ir_sI M 414 1 (nI g)) 412 k' = ir_I M 412 k' := fun k' => q_I_eq q1 (by decide) k'
  exact ⟨r_tx_eq h1 q1 (by decide) (ek 7), h2.tr (q1.sub (by decide)), fun j hj => (ek j).trans (h3 j hj), ⟨(ek _).trans h4.1, h4.2⟩, (ek _).trans h5, g, hg, q_I_s⟩
/-- goods, then lines: the class from its first token, the reference from its first token -/
def w_G (B : Nat → Nat) (n L : Nat) (xs : Nat → Int32) (T : Nat → Int32) (s : Nat) : Prop := ∃ (f p : Nat) (K' : Nat → Int32) (G N : Nat), f ≤ 4 ∧ p ≤ n ∧ (f = 0 → k_FR G N K') ∧ (∀ M0 M d, 53 ≤ d → c_P B n L xs M0 s (k_K0 T) M → ∃ r M1, m_X4_readGoods d 100 M = ir_oI r M1 ∧ ∃ M', (if r = 0 then ir_oV M1 else v_X4_read_64 d 100 (nI 1) (nI 0) M1) = ir_oV M' ∧ c_Q B n L xs M0 f p K' M') ∧ (∀ M0 M d, 53 ≤ d → r_P B n L xs M0 0 s (k_K0 T) M → ∃ M3 r M4 M7, m_X12_mustWord d 412 1000033 M = ir_oV M3 ∧ q_PI M3 ∧ m_X12_number d 412 (nI 1) (nI 6) M3 = ir_oI r M4 ∧ q_PI M4 ∧ m_X12_readStop d 412 (ir_sI M4 414 1 r) = ir_oV M7 ∧ ∃ M', v_X12_well_107 d 412 M7 = v_X12_well_128 d 412 M' ∧ r_Q B n L xs M0 0 f p K' M')
theorem w_Goods (h900 : n ≤ 900) (hs : s ≤ n) : w_G B n L xs T s := by
  obtain ⟨b1, b2, b3, b4, b5, b6, b7, b8⟩ := k_nt_b (B := B) hs
  obtain ⟨a1, a2, a3, a4, a5, a6, a7, a8⟩ := k_nt_b (B := B) b2
  obtain ⟨c1, c2, c3, c4, c5, c6, c7, c8⟩ := k_nt_b (B := B) a2
  have g0 : k_K0 T 1 = nI 0 := k_K0_e (by decide) (by decide)
  have t6 : (nI 6).toInt = ((6 : Nat) : Int) := by decide +kernel
  have fF : ∀ {M0 M : ir_M} {d f p : Nat}, 53 ≤ d → r_F B n L xs M0 f p M → v_X12_well_107 d 412 M = v_X12_well_128 d 412 M := fun {M0 M d f p} hd h => by
    rw [L_X12_well_107]
    simp (disch := omega) only [q_ckt, q_lt, q_cI, q_cJ, q_cV, q_cP, q_xI, q_xV, q_xP, q_xJ, g_gk, g_ga, g_gw, g_gp, g_gq, g_P, g_J, q_I_s, q_I_n, q_I_k, nI_add, pk_sub, pk_mul, nI_clamp, n_lt0, n_0lt, n_eq0, n_lt, n_le, n_eq, n_m1, n_m2, n_m9, n_12, n_19, n_10, n_01, n_1n1, n_0n1, n_1n0, n_0n0, n_dI, n_m1lt, q_inb, n_nar, n_nar0, n_nar1, n_bool, Bool.false_eq_true, Bool.true_eq_false, if_true, if_false, ↓reduceIte, Nat.reduceAdd, Nat.reduceMul, Nat.reduceSub, Nat.reduceLT, Nat.reduceLeDiff, Nat.reduceEqDiff, Nat.reduceMod, Nat.reduceDiv, q_R h.1.1, r_F_z h]
  by_cases q1 : k_kd B n s = 256
  · by_cases q2 : k_nf (k_kd B n (k_nt B n s)) (k_vl B n (k_nt B n s)) 1 (6 : Nat) = 0
    · obtain ⟨v1, v2, v3⟩ := k_nf_0 q2
      obtain ⟨G, eG⟩ : ∃ G, G = k_vl B n (k_nt B n s) := ⟨_, rfl⟩
      have CG : ∀ {M0 M : ir_M} {e : Nat}, 52 ≤ e → c_P B n L xs M0 s (k_K0 T) M → ∃ M7, c_P B n L xs M0 (k_nt B n (k_nt B n s)) (k_K1 T G) M7 ∧ ∀ r M8, m_X4_take e 100 (nI 59) M7 = ir_oI r M8 → ir_nar 1 r = true → m_X4_readGoods (e + 1) 100 M = ir_oI r M8 := fun {M0 M w} he hP => by
        obtain ⟨M1, e1, t1, -⟩ := c_tk (d := w) hP.1 (w := 256) (by decide) (by omega)
        rw [if_pos q1] at e1
        have P1 := c_P_e hP (t1 q1)
        obtain ⟨M3, e3, e3', -⟩ := c_num (d := w) P1.1 (a := 1) (hi := nI 6) (by decide) (by omega)
        rw [t6] at e3 e3'
        rw [if_pos q2, e3' q2] at e3
        have h10 := P1.1.2.2.2.2.2.2.2.2.2 v1
        rw [← eG] at h10
        have qa : q_eq [101] M1 (ir_sI (ir_sI M1 101 1 (nI G)) 101 0 (nI 1)) := (q_eq.sI (by decide)).tr (q_eq.sI (by decide))
        have ea : ∀ a k, a ≠ 101 → ir_I (ir_sI (ir_sI M1 101 1 (nI G)) 101 0 (nI 1)) a k = ir_I M1 a k := fun a k ha => q_I_eq qa (fun w => ha (List.mem_singleton.mp w)) k
        have eb : ∀ k, k ≠ 0 → k ≠ 1 → ir_I (ir_sI (ir_sI M1 101 1 (nI G)) 101 0 (nI 1)) 101 k = ir_I M1 101 k := fun k h1 h2 => by rw [q_I_k h1, q_I_k h2]
        obtain ⟨e, e0, e1', e3''⟩ := k_K1_e (T := T) (G := G)
        obtain ⟨⟨z1, z2, z3, z4, z5, z6, z7, z8, z9, z10, z11, z12⟩, h2, h3, x1, x2, x3⟩ := P1.2
        have n0 : k_n (k_K0 T) = 0 := by unfold k_n; rw [k_K0_e (by decide) (by decide)]; rfl
        have P2 : c_P B n L xs M0 (k_nt B n s) (k_K1 T G) (ir_sI (ir_sI M1 101 1 (nI G)) 101 0 (nI 1)) := by
          refine ⟨c_T_eq P1.1 qa (by decide) (c_cn_eq qa (by decide) P1.1.2.2.1), c_K_0 (q_I_s.trans e0.symm) ?_ ?_ ?_ ?_ ?_ ?_ ?_ ?_ ?_ ?_ ?_ (e 2 (by decide) (by decide) (by decide) (by decide)) (e 9 (by decide) (by decide) (by decide) (by decide)) (e 44 (by decide) (by decide) (by decide) (by decide)) (e 7 (by decide) (by decide) (by decide) (by decide)) (fun p hp => ?_) (fun k hk => ?_) (fun p hp => ?_)⟩
          · rw [q_I_k (by decide), q_I_s, e1']
          · rw [eb 2 (by decide) (by decide), e 2 (by decide) (by decide) (by decide) (by decide), ← k_K0_e (T := T) (k := 2) (by decide) (by decide)]; exact z3
          · rw [eb 3 (by decide) (by decide), e 6 (by decide) (by decide) (by decide) (by decide), ← k_K0_e (T := T) (k := 6) (by decide) (by decide)]; exact z4
          · rw [eb 4 (by decide) (by decide), e3'']; exact z5
          · rw [eb 5 (by decide) (by decide), e 4 (by decide) (by decide) (by decide) (by decide), ← k_K0_e (T := T) (k := 4) (by decide) (by decide)]; exact z6
          · rw [eb 6 (by decide) (by decide), e 5 (by decide) (by decide) (by decide) (by decide), ← k_K0_e (T := T) (k := 5) (by decide) (by decide)]; exact z7
          · rw [ea 104 0 (by decide), e 7 (by decide) (by decide) (by decide) (by decide), ← k_K0_e (T := T) (k := 7) (by decide) (by decide)]; exact z11
          · rw [ea 109 0 (by decide), e 9 (by decide) (by decide) (by decide) (by decide), ← k_K0_e (T := T) (k := 9) (by decide) (by decide)]; exact h3.1
          · rw [ea 109 1 (by decide), e 42 (by decide) (by decide) (by decide) (by decide), ← k_K0_e (T := T) (k := 42) (by decide) (by decide)]; exact h3.2.1
          · rw [ea 109 2 (by decide), e 43 (by decide) (by decide) (by decide) (by decide), ← k_K0_e (T := T) (k := 43) (by decide) (by decide)]; exact h3.2.2.1
          · rw [ea 109 3 (by decide), e 44 (by decide) (by decide) (by decide) (by decide), ← k_K0_e (T := T) (k := 44) (by decide) (by decide)]; exact h3.2.2.2.1
          · rw [ea 103 p (by decide)]; exact x1 p hp (by rw [n0]; exact Nat.zero_le _)
          · rw [ea 108 k (by decide), e (109 + k) (by omega) (by omega) (by omega) (by omega), ← k_K0_e (T := T) (k := 109 + k) (by omega) (by omega)]; exact x2 k hk
          · rw [ea 113 p (by decide), e (34 + p) (by omega) (by omega) (by omega) (by omega), ← k_K0_e (T := T) (k := 34 + p) (by omega) (by omega)]; exact x3 p hp
        obtain ⟨M7, e7, P7⟩ := c_P_n (d := w) P2 (by omega)
        refine ⟨M7, P7, fun r M8 e8 hr => ?_⟩
        rw [E_X4_readGoods]
        simp (disch := omega) only [q_ckt, q_lt, q_cI, q_cJ, q_cV, q_cP, q_xI, q_xV, q_xP, q_xJ, g_gk, g_ga, g_gw, g_gp, g_gq, g_P, g_J, q_I_s, q_I_n, q_I_k, nI_add, pk_sub, pk_mul, nI_clamp, n_lt0, n_0lt, n_eq0, n_lt, n_le, n_eq, n_m1, n_m2, n_m9, n_12, n_19, n_10, n_01, n_1n1, n_0n1, n_1n0, n_0n0, n_dI, n_m1lt, q_inb, n_nar, n_nar0, n_nar1, n_bool, Bool.false_eq_true, Bool.true_eq_false, if_true, if_false, ↓reduceIte, Nat.reduceAdd, Nat.reduceMul, Nat.reduceSub, Nat.reduceLT, Nat.reduceLeDiff, Nat.reduceEqDiff, Nat.reduceMod, Nat.reduceDiv, q_D hP.1.1.1, e1, q_D P1.1.1.1, q_N P1.1.1.1, e3, h10, e7, q_D P7.1.1.1, e8, hr]
      have RG : ∀ {M0 M : ir_M} {d : Nat}, 53 ≤ d → r_P B n L xs M0 0 s (k_K0 T) M → ∃ M3 M4, m_X12_mustWord d 412 1000033 M = ir_oV M3 ∧ q_PI M3 ∧ m_X12_number d 412 (nI 1) (nI 6) M3 = ir_oI (nI G) M4 ∧ q_PI M4 ∧ r_P B n L xs M0 0 (k_nt B n (k_nt B n s)) (k_put1 (k_K0 T) 1 (nI G)) (ir_sI M4 414 1 (nI G)) := fun {M0 M d} hd hP => by
        obtain ⟨M3, e3, t3, -⟩ := r_mw (d := d) hP.1 (j := 0) (a := 1000033) (by decide) rfl (g := 0) (by decide) ((hP.2 1).trans g0) (by omega)
        have P3 := r_P_e hP (t3 q1)
        obtain ⟨M4, e4, t4, -⟩ := r_num (d := d) P3.1 (a := 1) (hi := nI 6) (by decide) (g := 0) (by decide) ((P3.2 1).trans g0) (by omega)
        rw [t6] at e4 t4
        rw [if_pos q2, ← eG] at e4
        have P4 := r_P_e P3 (t4 q2)
        exact ⟨M3, M4, e3, P3.1.1.1, e4, P4.1.1.1, r_P_4 P4⟩
      have g1' : k_put1 (k_K0 T) 1 (nI G) 1 = nI G := if_pos rfl
      have h0 : k_put1 (k_put1 (k_K0 T) 1 (nI G)) 0 (k_put1 (k_K0 T) 1 (nI G) 0 + nI 1) = k_K1 T G := by
        unfold k_K1
        rw [show k_put1 (k_K0 T) 1 (nI G) 0 = 0 from (if_neg (by decide)).trans (k_K0_e (by decide) (by decide)), show (0 : Int32) + nI 1 = nI 1 by decide +kernel]
      by_cases q3 : k_kd B n (k_nt B n (k_nt B n s)) = 59
      · obtain ⟨f, p, K', N', y1, y2, y3, y4, y5⟩ := w_Lines (B := B) (L := L) (xs := xs) (G := G) h900 (n - k_nt B n (k_nt B n (k_nt B n s))) (k_nt B n (k_nt B n (k_nt B n s))) (k_K1 T G) 0 (by omega) (k_FR_0 (by omega) (by omega))
        refine ⟨f, p, K', G, N', y1, y2, y3, fun M0 M d hd hP => ?_, fun M0 M d hd hP => ?_⟩
        · obtain ⟨e, rfl⟩ : ∃ e, d = e + 1 := ⟨d - 1, by omega⟩
          obtain ⟨M7, P7, E⟩ := CG (show 52 ≤ e by omega) hP
          obtain ⟨M8, e8, t8, -⟩ := c_tk (d := e) P7.1 (w := 59) (by decide) (by omega)
          rw [if_pos q3] at e8
          have P8 := c_P_e P7 (t8 q3)
          obtain ⟨M', e', Q'⟩ := y4 M0 M8 (e + 1) 0 (by omega) (Nat.zero_le _) P8
          refine ⟨nI 1, M8, E _ M8 e8 (by decide +kernel), M', ?_, Q'⟩
          rw [if_neg (by decide +kernel)]
          exact e'
        · obtain ⟨M3, M4, e3, p3, e4, p4, P4⟩ := RG hd hP
          obtain ⟨M7, e7, t7, -⟩ := r_stop (d := d) P4 (g := G) (by omega) g1' (by omega)
          have P7 := t7 q3
          rw [h0] at P7
          obtain ⟨M', e', Q'⟩ := y5 M0 M7 d (by omega) P7
          exact ⟨M3, nI G, M4, M7, e3, p3, e4, p4, e7, M', e', Q'⟩
      · have kb := k_fk_b (kd := k_kd B n (k_nt B n (k_nt B n s))) (w := 2) (by decide)
        refine ⟨k_fk (k_kd B n (k_nt B n (k_nt B n s))) 2, k_nt B n (k_nt B n s), k_K0 T, G, 0, kb.2, a2, fun z => absurd z kb.1, fun M0 M d hd hP => ?_, fun M0 M d hd hP => ?_⟩
        · obtain ⟨e, rfl⟩ : ∃ e, d = e + 1 := ⟨d - 1, by omega⟩
          obtain ⟨M7, P7, E⟩ := CG (show 52 ≤ e by omega) hP
          obtain ⟨M8, e8, -, t8⟩ := c_tk (d := e) P7.1 (w := 59) (by decide) (by omega)
          rw [if_neg q3] at e8
          exact ⟨nI 0, M8, E _ M8 e8 (by decide +kernel), M8, if_pos rfl, fun z => absurd z kb.1, fun _ => t8 q3⟩
        · obtain ⟨M3, M4, e3, p3, e4, p4, P4⟩ := RG hd hP
          obtain ⟨M7, e7, -, t7⟩ := r_stop (d := d) P4 (g := G) (by omega) g1' (by omega)
          exact ⟨M3, nI G, M4, M7, e3, p3, e4, p4, e7, M7, fF hd (t7 q3), fun z => absurd z kb.1, fun _ => t7 q3⟩
    · refine ⟨k_nf (k_kd B n (k_nt B n s)) (k_vl B n (k_nt B n s)) 1 (6 : Nat), k_nt B n s, k_K0 T, 0, 0, k_nf_b, b2, fun z => absurd z q2, fun M0 M d hd hP => ?_, fun M0 M d hd hP => ?_⟩
      · obtain ⟨e, rfl⟩ : ∃ e, d = e + 1 := ⟨d - 1, by omega⟩
        obtain ⟨M1, e1, t1, -⟩ := c_tk (d := e) hP.1 (w := 256) (by decide) (by omega)
        rw [if_pos q1] at e1
        have P1 := c_P_e hP (t1 q1)
        obtain ⟨M3, e3, -, t3⟩ := c_num (d := e) P1.1 (a := 1) (hi := nI 6) (by decide) (by omega)
        rw [t6] at e3 t3
        rw [if_neg q2] at e3
        refine ⟨nI 0, M3, ?_, M3, if_pos rfl, fun z => absurd z q2, fun _ => t3 q2⟩
        rw [E_X4_readGoods]
        simp (disch := omega) only [q_ckt, q_lt, q_cI, q_cJ, q_cV, q_cP, q_xI, q_xV, q_xP, q_xJ, g_gk, g_ga, g_gw, g_gp, g_gq, g_P, g_J, q_I_s, q_I_n, q_I_k, nI_add, pk_sub, pk_mul, nI_clamp, n_lt0, n_0lt, n_eq0, n_lt, n_le, n_eq, n_m1, n_m2, n_m9, n_12, n_19, n_10, n_01, n_1n1, n_0n1, n_1n0, n_0n0, n_dI, n_m1lt, q_inb, n_nar, n_nar0, n_nar1, n_bool, Bool.false_eq_true, Bool.true_eq_false, if_true, if_false, ↓reduceIte, Nat.reduceAdd, Nat.reduceMul, Nat.reduceSub, Nat.reduceLT, Nat.reduceLeDiff, Nat.reduceEqDiff, Nat.reduceMod, Nat.reduceDiv, q_D hP.1.1.1, e1, q_D P1.1.1.1, e3, n_nr]
      · obtain ⟨M3, e3, t3, -⟩ := r_mw (d := d) hP.1 (j := 0) (a := 1000033) (by decide) rfl (g := 0) (by decide) ((hP.2 1).trans g0) (by omega)
        have P3 := r_P_e hP (t3 q1)
        obtain ⟨M4, e4, -, t4⟩ := r_num (d := d) P3.1 (a := 1) (hi := nI 6) (by decide) (g := 0) (by decide) ((P3.2 1).trans g0) (by omega)
        rw [t6] at e4 t4
        rw [if_neg q2] at e4
        have F4 := r_F_g (g := 1) (t4 q2) (by decide)
        exact ⟨M3, nI 1, M4, _, e3, P3.1.1.1, e4, (t4 q2).1.1, r_stopF F4 (by omega), _, fF hd F4, fun z => absurd z q2, fun _ => F4⟩
  · have kb := k_fk_b (kd := k_kd B n s) (w := 2) (by decide)
    refine ⟨k_fk (k_kd B n s) 2, s, k_K0 T, 0, 0, kb.2, hs, fun z => absurd z kb.1, fun M0 M d hd hP => ?_, fun M0 M d hd hP => ?_⟩
    · obtain ⟨e, rfl⟩ : ∃ e, d = e + 1 := ⟨d - 1, by omega⟩
      obtain ⟨M1, e1, -, t1⟩ := c_tk (d := e) hP.1 (w := 256) (by decide) (by omega)
      rw [if_neg q1] at e1
      refine ⟨nI 0, M1, ?_, M1, if_pos rfl, fun z => absurd z kb.1, fun _ => t1 q1⟩
      rw [E_X4_readGoods]
      simp (disch := omega) only [q_ckt, q_lt, q_cI, q_cJ, q_cV, q_cP, q_xI, q_xV, q_xP, q_xJ, g_gk, g_ga, g_gw, g_gp, g_gq, g_P, g_J, q_I_s, q_I_n, q_I_k, nI_add, pk_sub, pk_mul, nI_clamp, n_lt0, n_0lt, n_eq0, n_lt, n_le, n_eq, n_m1, n_m2, n_m9, n_12, n_19, n_10, n_01, n_1n1, n_0n1, n_1n0, n_0n0, n_dI, n_m1lt, q_inb, n_nar, n_nar0, n_nar1, n_bool, Bool.false_eq_true, Bool.true_eq_false, if_true, if_false, ↓reduceIte, Nat.reduceAdd, Nat.reduceMul, Nat.reduceSub, Nat.reduceLT, Nat.reduceLeDiff, Nat.reduceEqDiff, Nat.reduceMod, Nat.reduceDiv, q_D hP.1.1.1, e1, n_nr]
    · obtain ⟨M3, e3, -, t3⟩ := r_mw (d := d) hP.1 (j := 0) (a := 1000033) (by decide) rfl (g := 0) (by decide) ((hP.2 1).trans g0) (by omega)
      have F3 := t3 q1
      have F4 := r_F_g (g := 1) F3 (by decide)
      exact ⟨M3, nI 1, M3, _, e3, F3.1.1, r_numF F3 (by omega), F3.1.1, r_stopF F4 (by omega), _, fF hd F4, fun z => absurd z kb.1, fun _ => F4⟩
end GD
