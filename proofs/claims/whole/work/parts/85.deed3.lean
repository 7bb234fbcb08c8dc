/-! deeds in step -/
section D3
variable {L : Nat} {xs : Nat → Int32}
theorem d_kp {M : ir_M} {K : Nat → Int32} {d : Nat} (h : r_rl M K) (hw : k_wf K) : ∃ M', m_X12_keeps (d + 1) 412 M = ir_oV M' ∧ q_eq [413] M M' ∧ r_rl M' (k_kp K) := by
  obtain ⟨M', e, q, a⟩ := r_keeps (d := d) h.1 h.2.2 hw.2.1.1 hw.2.1.2.1
  exact ⟨M', e, q, q_PI_eq q h.1, (k_kp_wf hw).1, a⟩
theorem k_kp_n {K : Nat → Int32} : k_n (k_kp K) = k_n K ∧ k_g (k_kp K) = k_g K ∧ k_m (k_kp K) = k_m K := by
  refine ⟨?_, ?_, ?_⟩
  · unfold k_n; rw [k_kp_o (by omega)]
  · unfold k_g; rw [k_kp_o (by omega)]
  · unfold k_m; rw [k_kp_o (by omega)]
theorem k_kp_pl {K : Nat → Int32} (hk : k_ok K) {p : Nat} : k_pl (k_kp K) p = k_pl K p := by
  have hb := k_bds hk
  exact k_pl_cg (by omega) (fun k h1 h2 => k_kp_o (by omega))
theorem S_ask (a b : Int32) : q_St L xs (q_Iv L xs) (m_L_ask 200 1 a b 436) (m_X12_ask 200 412 a b) := by
  refine q_Sd_mk (x := m_X11_ask 199 1 a b) (fun M => E_L_ask 199 1 a b 436 M) fun M hp hI => ?_
  have hc := c_I_c hp hI.1
  have hr := c_I_r hp hI.1
  obtain ⟨hwf, hsc⟩ := hI.1
  generalize M.1 413 = K at hc hr hwf hsc ⊢
  have hb := k_bds hc.2.2.1
  have fail : ∀ M' (v : Nat), r_rl M' K → 0 < v → v < 9 → m_X12_ask 200 412 a b M' = v_X12_ask_28 199 412 a b 412 (nI v) M' → ∃ w, r_ans (m_X12_ask 200 412 a b) M' w v := fun M' v h' v0 v9 e => by
    refine ⟨nI 0, _, ?_, q_st_4 h'.1 (k := 4) (v := nI v) rfl, rfl, q_I_s⟩
    rw [e, L_X12_ask_28]
    simp (disch := omega) only [q_ckt, q_lt, q_cI, q_cJ, q_cV, q_cP, q_xI, q_xV, q_xP, q_xJ, g_gk, g_ga, g_gw, g_gp, g_gq, g_P, g_J, q_I_s, q_I_n, q_I_k, nI_add, pk_sub, pk_mul, nI_clamp, n_lt0, n_0lt, n_eq0, n_lt, n_le, n_eq, n_m1, n_m2, n_m9, n_12, n_19, n_10, n_01, n_1n1, n_0n1, n_1n0, n_0n0, n_dI, n_m1lt, q_inb, n_nar, n_nar0, n_nar1, n_bool, Bool.false_eq_true, Bool.true_eq_false, if_true, if_false, ↓reduceIte, Nat.reduceAdd, Nat.reduceMul, Nat.reduceSub, Nat.reduceLT, Nat.reduceLeDiff, Nat.reduceEqDiff, Nat.reduceMod, Nat.reduceDiv, q_R h'.1, v0]
  by_cases ha : k_rng a (k_n K)
  · by_cases hg : k_rng b (k_g K)
    · obtain ⟨p, hpn, rfl⟩ := k_rng_of ha (by omega)
      obtain ⟨g, hgn, rfl⟩ := k_rng_of hg (by omega)
      cases e : k_pl K p with
      | none =>
        refine Or.inr (Or.inr ⟨2, 2, by omega, by omega, ?_, fun _ => rfl, fun M' s => fail M' 2 (q_st_r s hr) (by omega) (by omega) ?_⟩)
        · rw [E_X11_ask 198]
          simp (disch := omega) only [q_ckt, q_lt, q_cI, q_cJ, q_cV, q_cP, q_xI, q_xV, q_xP, q_xJ, g_gk, g_ga, g_gw, g_gp, g_gq, g_P, g_J, q_I_s, q_I_n, q_I_k, nI_add, pk_sub, pk_mul, nI_clamp, n_lt0, n_0lt, n_eq0, n_lt, n_le, n_eq, n_m1, n_m2, n_m9, n_12, n_19, n_10, n_01, n_1n1, n_0n1, n_1n0, n_0n0, n_dI, n_m1lt, q_inb, n_nar, n_nar0, n_nar1, n_bool, Bool.false_eq_true, Bool.true_eq_false, if_true, if_false, ↓reduceIte, Nat.reduceAdd, Nat.reduceMul, Nat.reduceSub, Nat.reduceLT, Nat.reduceLeDiff, Nat.reduceEqDiff, Nat.reduceMod, Nat.reduceDiv, q_W hp, c_np hc, c_ng hc, ha, hg, c_ns hc hpn, e]
        · have hr' := q_st_r s hr
          rw [E_X12_ask 199]
          simp (disch := omega) only [q_ckt, q_lt, q_cI, q_cJ, q_cV, q_cP, q_xI, q_xV, q_xP, q_xJ, g_gk, g_ga, g_gw, g_gp, g_gq, g_P, g_J, q_I_s, q_I_n, q_I_k, nI_add, pk_sub, pk_mul, nI_clamp, n_lt0, n_0lt, n_eq0, n_lt, n_le, n_eq, n_m1, n_m2, n_m9, n_12, n_19, n_10, n_01, n_1n1, n_0n1, n_1n0, n_0n0, n_dI, n_m1lt, q_inb, n_nar, n_nar0, n_nar1, n_bool, Bool.false_eq_true, Bool.true_eq_false, if_true, if_false, ↓reduceIte, Nat.reduceAdd, Nat.reduceMul, Nat.reduceSub, Nat.reduceLT, Nat.reduceLeDiff, Nat.reduceEqDiff, Nat.reduceMod, Nat.reduceDiv, q_R hr'.1, r_ib hr', r_ig hr', ha, hg, r_bf1 hr' hpn, e]
      | some i =>
        obtain ⟨him, hqi⟩ := k_pl_some e
        obtain ⟨kn, kg, km⟩ := k_kp_n (K := K)
        have w1 := k_kp_wf hwf
        obtain ⟨K2, eK2⟩ : ∃ K2, K2 = upd (k_kp K) (18 + p) (nI g) := ⟨_, rfl⟩
        have okS : k_okS K2 := by rw [eK2]; exact k_ask_ok w1.1 (by omega) (by omega)
        have o2 : ∀ k, ¬ (9 ≤ k ∧ k < 53) → K2 k = k_kp K k := fun k hk => by rw [eK2]; exact k_upd_n (by omega)
        have w2 := k_wf_st w1 o2 okS
        have m2 : k_m K2 = k_m K := by unfold k_m; rw [eK2, k_upd_n (by omega), k_kp_o (by omega)]
        have g2 : k_g K2 = k_g K := by unfold k_g; rw [o2 _ (by omega), k_kp_o (by omega)]
        have n2 : k_n K2 = k_n K := by unfold k_n; rw [o2 _ (by omega), k_kp_o (by omega)]
        have pl2 : k_pl K2 p = some i := by
          rw [← e]
          exact k_pl_cg (by omega) (fun k h1 h2 => by rw [eK2, k_upd_n (by omega), k_kp_o (by omega)])
        have q2 : k_q K2 i = p := (k_pl_some pl2).2
        refine Or.inl ⟨if k_al K2 p (nI g) (nI i) = true then nI 1 else nI 0, K2, ?_, w2, ?_⟩
        · obtain ⟨M1, e1, d1, z1, s1⟩ := c_keepDeed (d := 195) hp hwf hsc
          have hp1 := d1.p hp
          have d2 : q_dc M1 (ir_sI M1 14 p (nI g)) := q_dc_eq (q_eq.sI (S := [14]) (by decide)) (by decide)
          have s2 : c_sc (ir_sI M1 14 p (nI g)) 3 K2 := c_sc_st w1 s1 o2 (fun a h1 h2 h3 h4 => if_neg (by omega)) (by rw [eK2]; exact c_st_ask w1.1 s1.2.2.1 (by omega))
          have c2 := c_sc_rl (d2.p hp1) w2.1 s2
          obtain ⟨M3, e3, q3⟩ := c_lw (d := 194) c2 (show i < k_m K2 by omega) (g := nI g) (k_gd_na (by omega))
          rw [q2] at e3
          have d3 := q_dc_eq q3 (by decide)
          refine ⟨M3, ?_, d1.tr (d2.tr d3), ?_, c_sc_fr (fun j hj h6 => q3.1 _ (by simp only [List.mem_cons, List.not_mem_nil, or_false]; omega)) s2⟩
          · rw [E_X11_ask 198]
            simp (disch := omega) only [q_ckt, q_lt, q_cI, q_cJ, q_cV, q_cP, q_xI, q_xV, q_xP, q_xJ, g_gk, g_ga, g_gw, g_gp, g_gq, g_P, g_J, q_I_s, q_I_n, q_I_k, nI_add, pk_sub, pk_mul, nI_clamp, n_lt0, n_0lt, n_eq0, n_lt, n_le, n_eq, n_m1, n_m2, n_m9, n_12, n_19, n_10, n_01, n_1n1, n_0n1, n_1n0, n_0n0, n_dI, n_m1lt, q_inb, n_nar, n_nar0, n_nar1, n_bool, Bool.false_eq_true, Bool.true_eq_false, if_true, if_false, ↓reduceIte, Nat.reduceAdd, Nat.reduceMul, Nat.reduceSub, Nat.reduceLT, Nat.reduceLeDiff, Nat.reduceEqDiff, Nat.reduceMod, Nat.reduceDiv, q_W hp, c_np hc, c_ng hc, ha, hg, c_ns hc hpn, e, e1, q_W hp1, q_S hp1 (a := 12) (by decide), q_g12_5 hp1, q_p12_5 hp1, q_w14 hp1, q_F hp1, e3]
            cases k_al K2 p (nI g) (nI i) <;> simp (disch := omega) only [q_ckt, q_lt, q_cI, q_cJ, q_cV, q_cP, q_xI, q_xV, q_xP, q_xJ, g_gk, g_ga, g_gw, g_gp, g_gq, g_P, g_J, q_I_s, q_I_n, q_I_k, nI_add, pk_sub, pk_mul, nI_clamp, n_lt0, n_0lt, n_eq0, n_lt, n_le, n_eq, n_m1, n_m2, n_m9, n_12, n_19, n_10, n_01, n_1n1, n_0n1, n_1n0, n_0n0, n_dI, n_m1lt, q_inb, n_nar, n_nar0, n_nar1, n_bool, Bool.false_eq_true, Bool.true_eq_false, if_true, if_false, ↓reduceIte, Nat.reduceAdd, Nat.reduceMul, Nat.reduceSub, Nat.reduceLT, Nat.reduceLeDiff, Nat.reduceEqDiff, Nat.reduceMod, Nat.reduceDiv]
          · rw [q_I_eq q3 (by decide), q_I_n (by decide)]
            exact z1
        · intro M' hr'
          have h4 := r_4 (v := nI 0) hr'
          obtain ⟨N1, f1, t1, u1⟩ := d_kp (d := 198) h4 hwf
          have u2 : r_rl (ir_sI N1 413 (18 + p) (nI g)) K2 := ⟨u1.1, w2.1, fun k => by rw [q_I_u, u1.2.2, eK2]; rfl⟩
          obtain ⟨N3, f3, t3⟩ := r_al (d := 195) (pl := nI i) u2 (show p < k_n K2 by omega) (g := nI g) (k_gd_na (by omega))
          refine ⟨N3, ?_, (q_dr_4 rfl).tr ((q_dr_eq t1 (by decide)).tr ((q_dr_eq (q_eq.sI (S := [413]) (by decide)) (by decide)).tr (q_dr_eq t3 (by decide)))), fun k => (q_I_eq t3 (by decide) k).trans (u2.2.2 k), ?_⟩
          · rw [E_X12_ask 199]
            simp (disch := omega) only [q_ckt, q_lt, q_cI, q_cJ, q_cV, q_cP, q_xI, q_xV, q_xP, q_xJ, g_gk, g_ga, g_gw, g_gp, g_gq, g_P, g_J, q_I_s, q_I_n, q_I_k, nI_add, pk_sub, pk_mul, nI_clamp, n_lt0, n_0lt, n_eq0, n_lt, n_le, n_eq, n_m1, n_m2, n_m9, n_12, n_19, n_10, n_01, n_1n1, n_0n1, n_1n0, n_0n0, n_dI, n_m1lt, q_inb, n_nar, n_nar0, n_nar1, n_bool, Bool.false_eq_true, Bool.true_eq_false, if_true, if_false, ↓reduceIte, Nat.reduceAdd, Nat.reduceMul, Nat.reduceSub, Nat.reduceLT, Nat.reduceLeDiff, Nat.reduceEqDiff, Nat.reduceMod, Nat.reduceDiv, q_R hr'.1, r_ib hr', r_ig hr', ha, hg, r_bf1 hr' hpn, e]
            rw [L_X12_ask_28]
            simp (disch := omega) only [q_ckt, q_lt, q_cI, q_cJ, q_cV, q_cP, q_xI, q_xV, q_xP, q_xJ, g_gk, g_ga, g_gw, g_gp, g_gq, g_P, g_J, q_I_s, q_I_n, q_I_k, nI_add, pk_sub, pk_mul, nI_clamp, n_lt0, n_0lt, n_eq0, n_lt, n_le, n_eq, n_m1, n_m2, n_m9, n_12, n_19, n_10, n_01, n_1n1, n_0n1, n_1n0, n_0n0, n_dI, n_m1lt, q_inb, n_nar, n_nar0, n_nar1, n_bool, Bool.false_eq_true, Bool.true_eq_false, if_true, if_false, ↓reduceIte, Nat.reduceAdd, Nat.reduceMul, Nat.reduceSub, Nat.reduceLT, Nat.reduceLeDiff, Nat.reduceEqDiff, Nat.reduceMod, Nat.reduceDiv, q_R hr'.1, f1, q_R u1.1, r_placeOf u2 (show p < 2 ^ 31 by omega), pl2, k_on, f3]
            cases k_al K2 p (nI g) (nI i) <;> simp (disch := omega) only [q_ckt, q_lt, q_cI, q_cJ, q_cV, q_cP, q_xI, q_xV, q_xP, q_xJ, g_gk, g_ga, g_gw, g_gp, g_gq, g_P, g_J, q_I_s, q_I_n, q_I_k, nI_add, pk_sub, pk_mul, nI_clamp, n_lt0, n_0lt, n_eq0, n_lt, n_le, n_eq, n_m1, n_m2, n_m9, n_12, n_19, n_10, n_01, n_1n1, n_0n1, n_1n0, n_0n0, n_dI, n_m1lt, q_inb, n_nar, n_nar0, n_nar1, n_bool, Bool.false_eq_true, Bool.true_eq_false, if_true, if_false, ↓reduceIte, Nat.reduceAdd, Nat.reduceMul, Nat.reduceSub, Nat.reduceLT, Nat.reduceLeDiff, Nat.reduceEqDiff, Nat.reduceMod, Nat.reduceDiv]
          · rw [q_I_eq t3 (by decide), q_I_n (by decide), q_I_eq t1 (by decide), q_I_s]
    · refine Or.inr (Or.inr ⟨1, 1, by omega, by omega, ?_, fun _ => rfl, fun M' s => fail M' 1 (q_st_r s hr) (by omega) (by omega) ?_⟩)
      · rw [E_X11_ask 198]
        simp (disch := omega) only [q_ckt, q_lt, q_cI, q_cJ, q_cV, q_cP, q_xI, q_xV, q_xP, q_xJ, g_gk, g_ga, g_gw, g_gp, g_gq, g_P, g_J, q_I_s, q_I_n, q_I_k, nI_add, pk_sub, pk_mul, nI_clamp, n_lt0, n_0lt, n_eq0, n_lt, n_le, n_eq, n_m1, n_m2, n_m9, n_12, n_19, n_10, n_01, n_1n1, n_0n1, n_1n0, n_0n0, n_dI, n_m1lt, q_inb, n_nar, n_nar0, n_nar1, n_bool, Bool.false_eq_true, Bool.true_eq_false, if_true, if_false, ↓reduceIte, Nat.reduceAdd, Nat.reduceMul, Nat.reduceSub, Nat.reduceLT, Nat.reduceLeDiff, Nat.reduceEqDiff, Nat.reduceMod, Nat.reduceDiv, q_W hp, c_np hc, c_ng hc, ha, hg]
      · have hr' := q_st_r s hr
        rw [E_X12_ask 199]
        simp (disch := omega) only [q_ckt, q_lt, q_cI, q_cJ, q_cV, q_cP, q_xI, q_xV, q_xP, q_xJ, g_gk, g_ga, g_gw, g_gp, g_gq, g_P, g_J, q_I_s, q_I_n, q_I_k, nI_add, pk_sub, pk_mul, nI_clamp, n_lt0, n_0lt, n_eq0, n_lt, n_le, n_eq, n_m1, n_m2, n_m9, n_12, n_19, n_10, n_01, n_1n1, n_0n1, n_1n0, n_0n0, n_dI, n_m1lt, q_inb, n_nar, n_nar0, n_nar1, n_bool, Bool.false_eq_true, Bool.true_eq_false, if_true, if_false, ↓reduceIte, Nat.reduceAdd, Nat.reduceMul, Nat.reduceSub, Nat.reduceLT, Nat.reduceLeDiff, Nat.reduceEqDiff, Nat.reduceMod, Nat.reduceDiv, q_R hr'.1, r_ib hr', r_ig hr', ha, hg]
  · refine Or.inr (Or.inr ⟨1, 1, by omega, by omega, ?_, fun _ => rfl, fun M' s => fail M' 1 (q_st_r s hr) (by omega) (by omega) ?_⟩)
    · rw [E_X11_ask 198]
      simp (disch := omega) only [q_ckt, q_lt, q_cI, q_cJ, q_cV, q_cP, q_xI, q_xV, q_xP, q_xJ, g_gk, g_ga, g_gw, g_gp, g_gq, g_P, g_J, q_I_s, q_I_n, q_I_k, nI_add, pk_sub, pk_mul, nI_clamp, n_lt0, n_0lt, n_eq0, n_lt, n_le, n_eq, n_m1, n_m2, n_m9, n_12, n_19, n_10, n_01, n_1n1, n_0n1, n_1n0, n_0n0, n_dI, n_m1lt, q_inb, n_nar, n_nar0, n_nar1, n_bool, Bool.false_eq_true, Bool.true_eq_false, if_true, if_false, ↓reduceIte, Nat.reduceAdd, Nat.reduceMul, Nat.reduceSub, Nat.reduceLT, Nat.reduceLeDiff, Nat.reduceEqDiff, Nat.reduceMod, Nat.reduceDiv, q_W hp, c_np hc, ha]
    · have hr' := q_st_r s hr
      rw [E_X12_ask 199]
      simp (disch := omega) only [q_ckt, q_lt, q_cI, q_cJ, q_cV, q_cP, q_xI, q_xV, q_xP, q_xJ, g_gk, g_ga, g_gw, g_gp, g_gq, g_P, g_J, q_I_s, q_I_n, q_I_k, nI_add, pk_sub, pk_mul, nI_clamp, n_lt0, n_0lt, n_eq0, n_lt, n_le, n_eq, n_m1, n_m2, n_m9, n_12, n_19, n_10, n_01, n_1n1, n_0n1, n_1n0, n_0n0, n_dI, n_m1lt, q_inb, n_nar, n_nar0, n_nar1, n_bool, Bool.false_eq_true, Bool.true_eq_false, if_true, if_false, ↓reduceIte, Nat.reduceAdd, Nat.reduceMul, Nat.reduceSub, Nat.reduceLT, Nat.reduceLeDiff, Nat.reduceEqDiff, Nat.reduceMod, Nat.reduceDiv, q_R hr'.1, r_ib hr', ha]
theorem S_leave (a : Int32) : q_St L xs (q_Iv L xs) (m_L_leave 200 1 a 436) (m_X12_leave 200 412 a) := by
  refine q_Sd_mk (x := m_X11_leave 199 1 a) (fun M => E_L_leave 199 1 a 436 M) fun M hp hI => ?_
  have hc := c_I_c hp hI.1
  have hr := c_I_r hp hI.1
  obtain ⟨hwf, hsc⟩ := hI.1
  generalize M.1 413 = K at hc hr hwf hsc ⊢
  have hb := k_bds hc.2.2.1
  by_cases ha : k_rng a (k_n K)
  · obtain ⟨p, hpn, rfl⟩ := k_rng_of ha (by omega)
    cases e : k_pl K p with
    | none =>
      refine Or.inr (Or.inr ⟨2, 2, by omega, by omega, ?_, fun _ => rfl, fun M' s => ⟨nI 0, _, ?_, q_st_4 s.1.1 (k := 4) (v := nI 2) rfl, rfl, q_I_s⟩⟩)
      · rw [E_X11_leave 198]
        simp (disch := omega) only [q_ckt, q_lt, q_cI, q_cJ, q_cV, q_cP, q_xI, q_xV, q_xP, q_xJ, g_gk, g_ga, g_gw, g_gp, g_gq, g_P, g_J, q_I_s, q_I_n, q_I_k, nI_add, pk_sub, pk_mul, nI_clamp, n_lt0, n_0lt, n_eq0, n_lt, n_le, n_eq, n_m1, n_m2, n_m9, n_12, n_19, n_10, n_01, n_1n1, n_0n1, n_1n0, n_0n0, n_dI, n_m1lt, q_inb, n_nar, n_nar0, n_nar1, n_bool, Bool.false_eq_true, Bool.true_eq_false, if_true, if_false, ↓reduceIte, Nat.reduceAdd, Nat.reduceMul, Nat.reduceSub, Nat.reduceLT, Nat.reduceLeDiff, Nat.reduceEqDiff, Nat.reduceMod, Nat.reduceDiv, q_W hp, c_np hc, ha, c_ns hc hpn, e]
      · have hr' := q_st_r s hr
        rw [E_X12_leave 199]
        simp (disch := omega) only [q_ckt, q_lt, q_cI, q_cJ, q_cV, q_cP, q_xI, q_xV, q_xP, q_xJ, g_gk, g_ga, g_gw, g_gp, g_gq, g_P, g_J, q_I_s, q_I_n, q_I_k, nI_add, pk_sub, pk_mul, nI_clamp, n_lt0, n_0lt, n_eq0, n_lt, n_le, n_eq, n_m1, n_m2, n_m9, n_12, n_19, n_10, n_01, n_1n1, n_0n1, n_1n0, n_0n0, n_dI, n_m1lt, q_inb, n_nar, n_nar0, n_nar1, n_bool, Bool.false_eq_true, Bool.true_eq_false, if_true, if_false, ↓reduceIte, Nat.reduceAdd, Nat.reduceMul, Nat.reduceSub, Nat.reduceLT, Nat.reduceLeDiff, Nat.reduceEqDiff, Nat.reduceMod, Nat.reduceDiv, q_R hr'.1, r_bf1 hr' hpn, e]
    | some i =>
      obtain ⟨him, hqi⟩ := k_pl_some e
      obtain ⟨kn, kg, km⟩ := k_kp_n (K := K)
      have w1 := k_kp_wf hwf
      have hi1 : i < k_m (k_kp K) := by omega
      obtain ⟨ok2, m2, -⟩ := k_out_ok w1.1 hi1
      have o2 : ∀ k, ¬ (9 ≤ k ∧ k < 53) → k_out (k_kp K) i k = k_kp K k := fun k hk => k_out_o w1.1 hi1 (by omega)
      have w2 := k_wf_st w1 o2 ok2.2
      refine Or.inl ⟨nI (k_m K - 1), k_out (k_kp K) i, ?_, w2, ?_⟩
      · obtain ⟨M1, e1, d1, z1, s1⟩ := c_keepDeed (d := 195) hp hwf hsc
        have hp1 := d1.p hp
        obtain ⟨M2, e2, q2, st2⟩ := c_takeOut (d := 196) (c_sc_rl hp1 w1.1 s1) hi1
        have hp2 := q_PI_eq q2 hp1
        refine ⟨M2, ?_, d1.tr (q_dc_eq q2 (by decide)), (q_I_eq q2 (by decide) 0).trans z1, c_sc_st w1 s1 o2 (fun a h1 h2 h3 h4 => q2.1 a (by simp only [List.mem_cons, List.not_mem_nil, or_false]; omega)) st2⟩
        rw [E_X11_leave 198]
        simp (disch := omega) only [q_ckt, q_lt, q_cI, q_cJ, q_cV, q_cP, q_xI, q_xV, q_xP, q_xJ, g_gk, g_ga, g_gw, g_gp, g_gq, g_P, g_J, q_I_s, q_I_n, q_I_k, nI_add, pk_sub, pk_mul, nI_clamp, n_lt0, n_0lt, n_eq0, n_lt, n_le, n_eq, n_m1, n_m2, n_m9, n_12, n_19, n_10, n_01, n_1n1, n_0n1, n_1n0, n_0n0, n_dI, n_m1lt, q_inb, n_nar, n_nar0, n_nar1, n_bool, Bool.false_eq_true, Bool.true_eq_false, if_true, if_false, ↓reduceIte, Nat.reduceAdd, Nat.reduceMul, Nat.reduceSub, Nat.reduceLT, Nat.reduceLeDiff, Nat.reduceEqDiff, Nat.reduceMod, Nat.reduceDiv, q_W hp, c_np hc, ha, c_ns hc hpn, e, e1, q_W hp1, q_S hp1 (a := 12) (by decide), e2, q_W hp2, q_S hp2 (a := 12) (by decide), st2.1, k_use ok2, m2, km]
      · intro M' hr'
        have h4 := r_4 (v := nI 0) hr'
        obtain ⟨N1, f1, t1, u1⟩ := d_kp (d := 198) h4 hwf
        have hb1 := k_bds w1.1
        obtain ⟨N2, f2, t2, a2⟩ := r_goesOut (d := 197) u1.1 u1.2.2 (k_use w1.1).2.2.2.1 (by omega) hi1
        have u2 : r_rl N2 (k_out (k_kp K) i) := ⟨q_PI_eq t2 u1.1, ok2, a2⟩
        refine ⟨N2, ?_, (q_dr_4 rfl).tr ((q_dr_eq t1 (by decide)).tr (q_dr_eq t2 (by decide))), a2, ?_⟩
        · rw [E_X12_leave 199]
          simp (disch := omega) only [q_ckt, q_lt, q_cI, q_cJ, q_cV, q_cP, q_xI, q_xV, q_xP, q_xJ, g_gk, g_ga, g_gw, g_gp, g_gq, g_P, g_J, q_I_s, q_I_n, q_I_k, nI_add, pk_sub, pk_mul, nI_clamp, n_lt0, n_0lt, n_eq0, n_lt, n_le, n_eq, n_m1, n_m2, n_m9, n_12, n_19, n_10, n_01, n_1n1, n_0n1, n_1n0, n_0n0, n_dI, n_m1lt, q_inb, n_nar, n_nar0, n_nar1, n_bool, Bool.false_eq_true, Bool.true_eq_false, if_true, if_false, ↓reduceIte, Nat.reduceAdd, Nat.reduceMul, Nat.reduceSub, Nat.reduceLT, Nat.reduceLeDiff, Nat.reduceEqDiff, Nat.reduceMod, Nat.reduceDiv, q_R hr'.1, r_bf1 hr' hpn, e, f1, q_R u1.1, r_placeOf u1 (show p < 2 ^ 31 by omega), k_kp_pl hr.2.1, k_on, f2, q_R u2.1, r_qd u2, m2, km]
        · rw [q_I_eq t2 (by decide), q_I_eq t1 (by decide), q_I_s]
  · refine Or.inr (Or.inr ⟨1, 1, by omega, by omega, ?_, fun _ => rfl, fun M' s => ⟨nI 0, _, ?_, q_st_4 s.1.1 (k := 4) (v := nI 1) rfl, rfl, q_I_s⟩⟩)
    · rw [E_X11_leave 198]
      simp (disch := omega) only [q_ckt, q_lt, q_cI, q_cJ, q_cV, q_cP, q_xI, q_xV, q_xP, q_xJ, g_gk, g_ga, g_gw, g_gp, g_gq, g_P, g_J, q_I_s, q_I_n, q_I_k, nI_add, pk_sub, pk_mul, nI_clamp, n_lt0, n_0lt, n_eq0, n_lt, n_le, n_eq, n_m1, n_m2, n_m9, n_12, n_19, n_10, n_01, n_1n1, n_0n1, n_1n0, n_0n0, n_dI, n_m1lt, q_inb, n_nar, n_nar0, n_nar1, n_bool, Bool.false_eq_true, Bool.true_eq_false, if_true, if_false, ↓reduceIte, Nat.reduceAdd, Nat.reduceMul, Nat.reduceSub, Nat.reduceLT, Nat.reduceLeDiff, Nat.reduceEqDiff, Nat.reduceMod, Nat.reduceDiv, q_W hp, c_np hc, ha]
    · have hr' := q_st_r s hr
      rw [E_X12_leave 199]
      simp (disch := omega) only [q_ckt, q_lt, q_cI, q_cJ, q_cV, q_cP, q_xI, q_xV, q_xP, q_xJ, g_gk, g_ga, g_gw, g_gp, g_gq, g_P, g_J, q_I_s, q_I_n, q_I_k, nI_add, pk_sub, pk_mul, nI_clamp, n_lt0, n_0lt, n_eq0, n_lt, n_le, n_eq, n_m1, n_m2, n_m9, n_12, n_19, n_10, n_01, n_1n1, n_0n1, n_1n0, n_0n0, n_dI, n_m1lt, q_inb, n_nar, n_nar0, n_nar1, n_bool, Bool.false_eq_true, Bool.true_eq_false, if_true, if_false, ↓reduceIte, Nat.reduceAdd, Nat.reduceMul, Nat.reduceSub, Nat.reduceLT, Nat.reduceLeDiff, Nat.reduceEqDiff, Nat.reduceMod, Nat.reduceDiv, q_R hr'.1, r_bf0 hr' ha]
theorem S_join (a : Int32) : q_St L xs (q_Iv L xs) (m_L_join 200 1 a 436) (m_X12_join 200 412 a) := by
  refine q_Sd_mk (x := m_X11_join 199 1 a) (fun M => E_L_join 199 1 a 436 M) fun M hp hI => ?_
  have hc := c_I_c hp hI.1
  have hr := c_I_r hp hI.1
  obtain ⟨hwf, hsc⟩ := hI.1
  generalize M.1 413 = K at hc hr hwf hsc ⊢
  have hb := k_bds hc.2.2.1
  by_cases ha : k_rng a (k_n K)
  · obtain ⟨p, hpn, rfl⟩ := k_rng_of ha (by omega)
    have hp31 : p < 2 ^ 31 := by omega
    cases e : k_pl K p with
    | some i =>
      have him := (k_pl_some e).1
      refine Or.inr (Or.inr ⟨2, 2, by omega, by omega, ?_, fun _ => rfl, fun M' s => ⟨nI 0, _, ?_, q_st_4 s.1.1 (k := 4) (v := nI 2) rfl, rfl, q_I_s⟩⟩)
      · rw [E_X11_join 198]
        simp (disch := omega) only [q_ckt, q_lt, q_cI, q_cJ, q_cV, q_cP, q_xI, q_xV, q_xP, q_xJ, g_gk, g_ga, g_gw, g_gp, g_gq, g_P, g_J, q_I_s, q_I_n, q_I_k, nI_add, pk_sub, pk_mul, nI_clamp, n_lt0, n_0lt, n_eq0, n_lt, n_le, n_eq, n_m1, n_m2, n_m9, n_12, n_19, n_10, n_01, n_1n1, n_0n1, n_1n0, n_0n0, n_dI, n_m1lt, q_inb, n_nar, n_nar0, n_nar1, n_bool, Bool.false_eq_true, Bool.true_eq_false, if_true, if_false, ↓reduceIte, Nat.reduceAdd, Nat.reduceMul, Nat.reduceSub, Nat.reduceLT, Nat.reduceLeDiff, Nat.reduceEqDiff, Nat.reduceMod, Nat.reduceDiv, q_W hp, c_np hc, ha, q_S hp (a := 12) (by decide), c_pl hc hp31, e, k_on]
      · have hr' := q_st_r s hr
        rw [E_X12_join 199]
        simp (disch := omega) only [q_ckt, q_lt, q_cI, q_cJ, q_cV, q_cP, q_xI, q_xV, q_xP, q_xJ, g_gk, g_ga, g_gw, g_gp, g_gq, g_P, g_J, q_I_s, q_I_n, q_I_k, nI_add, pk_sub, pk_mul, nI_clamp, n_lt0, n_0lt, n_eq0, n_lt, n_le, n_eq, n_m1, n_m2, n_m9, n_12, n_19, n_10, n_01, n_1n1, n_0n1, n_1n0, n_0n0, n_dI, n_m1lt, q_inb, n_nar, n_nar0, n_nar1, n_bool, Bool.false_eq_true, Bool.true_eq_false, if_true, if_false, ↓reduceIte, Nat.reduceAdd, Nat.reduceMul, Nat.reduceSub, Nat.reduceLT, Nat.reduceLeDiff, Nat.reduceEqDiff, Nat.reduceMod, Nat.reduceDiv, q_R hr'.1, r_ib hr', ha, r_placeOf hr' hp31, e, k_on, L_X12_join_28]
    | none =>
      obtain ⟨kn, kg, km⟩ := k_kp_n (K := K)
      have w1 := k_kp_wf hwf
      have e1' : k_pl (k_kp K) p = none := (k_kp_pl hr.2.1).trans e
      have hroom := k_room w1.1 (p := p) (by omega) e1'
      obtain ⟨ok2, m2⟩ := k_join_ok w1.1 (p := p) (by omega) e1'
      have hb1 := k_bds w1.1
      have o2 : ∀ k, ¬ (9 ≤ k ∧ k < 53) → k_inn (k_kp K) p (k_m (k_kp K)) k = k_kp K k := fun k hk => k_join_o (by omega) (by omega)
      have w2 := k_wf_st w1 o2 ok2
      refine Or.inl ⟨nI (k_m K), k_inn (k_kp K) p (k_m (k_kp K)), ?_, w2, ?_⟩
      · obtain ⟨M1, e1, d1, z1, s1⟩ := c_keepDeed (d := 195) hp hwf hsc
        have hp1 := d1.p hp
        obtain ⟨M2, e2, q2, st2⟩ := c_putLast (d := 197) (c_sc_rl hp1 w1.1 s1) (p := p) (by omega) hroom m2
        refine ⟨M2, ?_, d1.tr (q_dc_eq q2 (by decide)), (q_I_eq q2 (by decide) 0).trans z1, c_sc_st w1 s1 o2 (fun a h1 h2 h3 h4 => q2.1 a (by simp only [List.mem_cons, List.not_mem_nil, or_false]; omega)) st2⟩
        rw [E_X11_join 198]
        simp (disch := omega) only [q_ckt, q_lt, q_cI, q_cJ, q_cV, q_cP, q_xI, q_xV, q_xP, q_xJ, g_gk, g_ga, g_gw, g_gp, g_gq, g_P, g_J, q_I_s, q_I_n, q_I_k, nI_add, pk_sub, pk_mul, nI_clamp, n_lt0, n_0lt, n_eq0, n_lt, n_le, n_eq, n_m1, n_m2, n_m9, n_12, n_19, n_10, n_01, n_1n1, n_0n1, n_1n0, n_0n0, n_dI, n_m1lt, q_inb, n_nar, n_nar0, n_nar1, n_bool, Bool.false_eq_true, Bool.true_eq_false, if_true, if_false, ↓reduceIte, Nat.reduceAdd, Nat.reduceMul, Nat.reduceSub, Nat.reduceLT, Nat.reduceLeDiff, Nat.reduceEqDiff, Nat.reduceMod, Nat.reduceDiv, q_W hp, c_np hc, ha, q_S hp (a := 12) (by decide), c_pl hc hp31, e, k_on, e1, q_W hp1, q_S hp1 (a := 12) (by decide), e2, km]
      · intro M' hr'
        have h4 := r_4 (v := nI 0) hr'
        obtain ⟨N1, f1, t1, u1⟩ := d_kp (d := 198) h4 hwf
        obtain ⟨N2, f2, t2, a2⟩ := r_comesIn (d := 197) (p := p) u1.1 u1.2.2 (k_use w1.1).2.2.2.1 (by omega) (Nat.le_refl _)
        have u2 : r_rl N2 (k_inn (k_kp K) p (k_m (k_kp K))) := ⟨q_PI_eq t2 u1.1, w2.1, a2⟩
        refine ⟨N2, ?_, (q_dr_4 rfl).tr ((q_dr_eq t1 (by decide)).tr (q_dr_eq t2 (by decide))), a2, ?_⟩
        · rw [E_X12_join 199]
          simp (disch := omega) only [q_ckt, q_lt, q_cI, q_cJ, q_cV, q_cP, q_xI, q_xV, q_xP, q_xJ, g_gk, g_ga, g_gw, g_gp, g_gq, g_P, g_J, q_I_s, q_I_n, q_I_k, nI_add, pk_sub, pk_mul, nI_clamp, n_lt0, n_0lt, n_eq0, n_lt, n_le, n_eq, n_m1, n_m2, n_m9, n_12, n_19, n_10, n_01, n_1n1, n_0n1, n_1n0, n_0n0, n_dI, n_m1lt, q_inb, n_nar, n_nar0, n_nar1, n_bool, Bool.false_eq_true, Bool.true_eq_false, if_true, if_false, ↓reduceIte, Nat.reduceAdd, Nat.reduceMul, Nat.reduceSub, Nat.reduceLT, Nat.reduceLeDiff, Nat.reduceEqDiff, Nat.reduceMod, Nat.reduceDiv, q_R hr'.1, r_ib hr', ha, r_placeOf hr' hp31, e, k_on]
          rw [L_X12_join_28]
          simp (disch := omega) only [q_ckt, q_lt, q_cI, q_cJ, q_cV, q_cP, q_xI, q_xV, q_xP, q_xJ, g_gk, g_ga, g_gw, g_gp, g_gq, g_P, g_J, q_I_s, q_I_n, q_I_k, nI_add, pk_sub, pk_mul, nI_clamp, n_lt0, n_0lt, n_eq0, n_lt, n_le, n_eq, n_m1, n_m2, n_m9, n_12, n_19, n_10, n_01, n_1n1, n_0n1, n_1n0, n_0n0, n_dI, n_m1lt, q_inb, n_nar, n_nar0, n_nar1, n_bool, Bool.false_eq_true, Bool.true_eq_false, if_true, if_false, ↓reduceIte, Nat.reduceAdd, Nat.reduceMul, Nat.reduceSub, Nat.reduceLT, Nat.reduceLeDiff, Nat.reduceEqDiff, Nat.reduceMod, Nat.reduceDiv, q_R hr'.1, f1, q_R u1.1, r_qd u1, f2, q_R u2.1, r_qd u2, m2, Nat.add_sub_cancel]
          rw [km]
        · rw [q_I_eq t2 (by decide), q_I_eq t1 (by decide), q_I_s]
  · refine Or.inr (Or.inr ⟨1, 1, by omega, by omega, ?_, fun _ => rfl, fun M' s => ⟨nI 0, _, ?_, q_st_4 s.1.1 (k := 4) (v := nI 1) rfl, rfl, q_I_s⟩⟩)
    · rw [E_X11_join 198]
      simp (disch := omega) only [q_ckt, q_lt, q_cI, q_cJ, q_cV, q_cP, q_xI, q_xV, q_xP, q_xJ, g_gk, g_ga, g_gw, g_gp, g_gq, g_P, g_J, q_I_s, q_I_n, q_I_k, nI_add, pk_sub, pk_mul, nI_clamp, n_lt0, n_0lt, n_eq0, n_lt, n_le, n_eq, n_m1, n_m2, n_m9, n_12, n_19, n_10, n_01, n_1n1, n_0n1, n_1n0, n_0n0, n_dI, n_m1lt, q_inb, n_nar, n_nar0, n_nar1, n_bool, Bool.false_eq_true, Bool.true_eq_false, if_true, if_false, ↓reduceIte, Nat.reduceAdd, Nat.reduceMul, Nat.reduceSub, Nat.reduceLT, Nat.reduceLeDiff, Nat.reduceEqDiff, Nat.reduceMod, Nat.reduceDiv, q_W hp, c_np hc, ha]
    · have hr' := q_st_r s hr
      rw [E_X12_join 199]
      simp (disch := omega) only [q_ckt, q_lt, q_cI, q_cJ, q_cV, q_cP, q_xI, q_xV, q_xP, q_xJ, g_gk, g_ga, g_gw, g_gp, g_gq, g_P, g_J, q_I_s, q_I_n, q_I_k, nI_add, pk_sub, pk_mul, nI_clamp, n_lt0, n_0lt, n_eq0, n_lt, n_le, n_eq, n_m1, n_m2, n_m9, n_12, n_19, n_10, n_01, n_1n1, n_0n1, n_1n0, n_0n0, n_dI, n_m1lt, q_inb, n_nar, n_nar0, n_nar1, n_bool, Bool.false_eq_true, Bool.true_eq_false, if_true, if_false, ↓reduceIte, Nat.reduceAdd, Nat.reduceMul, Nat.reduceSub, Nat.reduceLT, Nat.reduceLeDiff, Nat.reduceEqDiff, Nat.reduceMod, Nat.reduceDiv, q_R hr'.1, r_ib hr', ha, L_X12_join_28]
theorem c_npl {M : ir_M} {K : Nat → Int32} {d : Nat} (h : c_rl M 12 K) {x : Int32} : m_X11_needPlace (d + 2) 1 x M = if k_rng x (k_m K) then ir_oV M else ir_oX 3 (ir_th M) := by
  rw [E_X11_needPlace]
  simp (disch := omega) only [q_ckt, q_lt, q_cI, q_cJ, q_cV, q_cP, q_xI, q_xV, q_xP, q_xJ, g_gk, g_ga, g_gw, g_gp, g_gq, g_P, g_J, q_I_s, q_I_n, q_I_k, nI_add, pk_sub, pk_mul, nI_clamp, n_lt0, n_0lt, n_eq0, n_lt, n_le, n_eq, n_m1, n_m2, n_m9, n_12, n_19, n_10, n_01, n_1n1, n_0n1, n_1n0, n_0n0, n_dI, n_m1lt, q_inb, n_nar, n_nar0, n_nar1, n_bool, Bool.false_eq_true, Bool.true_eq_false, if_true, if_false, ↓reduceIte, Nat.reduceAdd, Nat.reduceMul, Nat.reduceSub, Nat.reduceLT, Nat.reduceLeDiff, Nat.reduceEqDiff, Nat.reduceMod, Nat.reduceDiv, q_W h.1, c_ip h]
  cases k_rng x (k_m K) <;> simp (disch := omega) only [q_ckt, q_lt, q_cI, q_cJ, q_cV, q_cP, q_xI, q_xV, q_xP, q_xJ, g_gk, g_ga, g_gw, g_gp, g_gq, g_P, g_J, q_I_s, q_I_n, q_I_k, nI_add, pk_sub, pk_mul, nI_clamp, n_lt0, n_0lt, n_eq0, n_lt, n_le, n_eq, n_m1, n_m2, n_m9, n_12, n_19, n_10, n_01, n_1n1, n_0n1, n_1n0, n_0n0, n_dI, n_m1lt, q_inb, n_nar, n_nar0, n_nar1, n_bool, Bool.false_eq_true, Bool.true_eq_false, if_true, if_false, ↓reduceIte, Nat.reduceAdd, Nat.reduceMul, Nat.reduceSub, Nat.reduceLT, Nat.reduceLeDiff, Nat.reduceEqDiff, Nat.reduceMod, Nat.reduceDiv]
/-- refusal of one who must stand, and a place -/
theorem r_sf {M : ir_M} {K : Nat → Int32} {d p : Nat} (h : r_rl M K) (hp : p < k_n K) {b : Int32} : m_X12_standFault (d + 4) 412 (nI p) b M = match k_pl K p with
    | some _ => if k_rng b (k_m K) then ir_oI (nI 0) M else ir_oI (nI 3) M
    | none => ir_oI (nI 2) M := by
  rw [E_X12_standFault]
  simp (disch := omega) only [q_ckt, q_lt, q_cI, q_cJ, q_cV, q_cP, q_xI, q_xV, q_xP, q_xJ, g_gk, g_ga, g_gw, g_gp, g_gq, g_P, g_J, q_I_s, q_I_n, q_I_k, nI_add, pk_sub, pk_mul, nI_clamp, n_lt0, n_0lt, n_eq0, n_lt, n_le, n_eq, n_m1, n_m2, n_m9, n_12, n_19, n_10, n_01, n_1n1, n_0n1, n_1n0, n_0n0, n_dI, n_m1lt, q_inb, n_nar, n_nar0, n_nar1, n_bool, Bool.false_eq_true, Bool.true_eq_false, if_true, if_false, ↓reduceIte, Nat.reduceAdd, Nat.reduceMul, Nat.reduceSub, Nat.reduceLT, Nat.reduceLeDiff, Nat.reduceEqDiff, Nat.reduceMod, Nat.reduceDiv, q_R h.1, r_bf1 h hp]
  cases e : k_pl K p with
  | none => simp (disch := omega) only [q_ckt, q_lt, q_cI, q_cJ, q_cV, q_cP, q_xI, q_xV, q_xP, q_xJ, g_gk, g_ga, g_gw, g_gp, g_gq, g_P, g_J, q_I_s, q_I_n, q_I_k, nI_add, pk_sub, pk_mul, nI_clamp, n_lt0, n_0lt, n_eq0, n_lt, n_le, n_eq, n_m1, n_m2, n_m9, n_12, n_19, n_10, n_01, n_1n1, n_0n1, n_1n0, n_0n0, n_dI, n_m1lt, q_inb, n_nar, n_nar0, n_nar1, n_bool, Bool.false_eq_true, Bool.true_eq_false, if_true, if_false, ↓reduceIte, Nat.reduceAdd, Nat.reduceMul, Nat.reduceSub, Nat.reduceLT, Nat.reduceLeDiff, Nat.reduceEqDiff, Nat.reduceMod, Nat.reduceDiv]
  | some i =>
    simp (disch := omega) only [q_ckt, q_lt, q_cI, q_cJ, q_cV, q_cP, q_xI, q_xV, q_xP, q_xJ, g_gk, g_ga, g_gw, g_gp, g_gq, g_P, g_J, q_I_s, q_I_n, q_I_k, nI_add, pk_sub, pk_mul, nI_clamp, n_lt0, n_0lt, n_eq0, n_lt, n_le, n_eq, n_m1, n_m2, n_m9, n_12, n_19, n_10, n_01, n_1n1, n_0n1, n_1n0, n_0n0, n_dI, n_m1lt, q_inb, n_nar, n_nar0, n_nar1, n_bool, Bool.false_eq_true, Bool.true_eq_false, if_true, if_false, ↓reduceIte, Nat.reduceAdd, Nat.reduceMul, Nat.reduceSub, Nat.reduceLT, Nat.reduceLeDiff, Nat.reduceEqDiff, Nat.reduceMod, Nat.reduceDiv, q_R h.1, r_is h]
    cases k_rng b (k_m K) <;> simp (disch := omega) only [q_ckt, q_lt, q_cI, q_cJ, q_cV, q_cP, q_xI, q_xV, q_xP, q_xJ, g_gk, g_ga, g_gw, g_gp, g_gq, g_P, g_J, q_I_s, q_I_n, q_I_k, nI_add, pk_sub, pk_mul, nI_clamp, n_lt0, n_0lt, n_eq0, n_lt, n_le, n_eq, n_m1, n_m2, n_m9, n_12, n_19, n_10, n_01, n_1n1, n_0n1, n_1n0, n_0n0, n_dI, n_m1lt, q_inb, n_nar, n_nar0, n_nar1, n_bool, Bool.false_eq_true, Bool.true_eq_false, if_true, if_false, ↓reduceIte, Nat.reduceAdd, Nat.reduceMul, Nat.reduceSub, Nat.reduceLT, Nat.reduceLeDiff, Nat.reduceEqDiff, Nat.reduceMod, Nat.reduceDiv]
theorem r_sf0 {M : ir_M} {K : Nat → Int32} {d : Nat} (h : r_rl M K) {a b : Int32} (ha : ¬ k_rng a (k_n K)) : m_X12_standFault (d + 4) 412 a b M = ir_oI (nI 1) M := by
  rw [E_X12_standFault]
  simp (disch := omega) only [q_ckt, q_lt, q_cI, q_cJ, q_cV, q_cP, q_xI, q_xV, q_xP, q_xJ, g_gk, g_ga, g_gw, g_gp, g_gq, g_P, g_J, q_I_s, q_I_n, q_I_k, nI_add, pk_sub, pk_mul, nI_clamp, n_lt0, n_0lt, n_eq0, n_lt, n_le, n_eq, n_m1, n_m2, n_m9, n_12, n_19, n_10, n_01, n_1n1, n_0n1, n_1n0, n_0n0, n_dI, n_m1lt, q_inb, n_nar, n_nar0, n_nar1, n_bool, Bool.false_eq_true, Bool.true_eq_false, if_true, if_false, ↓reduceIte, Nat.reduceAdd, Nat.reduceMul, Nat.reduceSub, Nat.reduceLT, Nat.reduceLeDiff, Nat.reduceEqDiff, Nat.reduceMod, Nat.reduceDiv, q_R h.1, r_bf0 h ha]
theorem S_move (a b : Int32) : q_St L xs (q_Iv L xs) (m_L_move 200 1 a b 436) (m_X12_move 200 412 a b) := by
  refine q_Sd_mk (x := m_X11_move 199 1 a b) (fun M => E_L_move 199 1 a b 436 M) fun M hp hI => ?_
  have hc := c_I_c hp hI.1
  have hr := c_I_r hp hI.1
  obtain ⟨hwf, hsc⟩ := hI.1
  generalize M.1 413 = K at hc hr hwf hsc ⊢
  have hb := k_bds hc.2.2.1
  by_cases ha : k_rng a (k_n K)
  · obtain ⟨p, hpn, rfl⟩ := k_rng_of ha (by omega)
    cases e : k_pl K p with
    | none =>
      refine Or.inr (Or.inr ⟨2, 2, by omega, by omega, ?_, fun _ => rfl, fun M' s => ⟨nI 0, _, ?_, q_st_4 s.1.1 (k := 4) (v := nI 2) rfl, rfl, q_I_s⟩⟩)
      · rw [E_X11_move 198]
        simp (disch := omega) only [q_ckt, q_lt, q_cI, q_cJ, q_cV, q_cP, q_xI, q_xV, q_xP, q_xJ, g_gk, g_ga, g_gw, g_gp, g_gq, g_P, g_J, q_I_s, q_I_n, q_I_k, nI_add, pk_sub, pk_mul, nI_clamp, n_lt0, n_0lt, n_eq0, n_lt, n_le, n_eq, n_m1, n_m2, n_m9, n_12, n_19, n_10, n_01, n_1n1, n_0n1, n_1n0, n_0n0, n_dI, n_m1lt, q_inb, n_nar, n_nar0, n_nar1, n_bool, Bool.false_eq_true, Bool.true_eq_false, if_true, if_false, ↓reduceIte, Nat.reduceAdd, Nat.reduceMul, Nat.reduceSub, Nat.reduceLT, Nat.reduceLeDiff, Nat.reduceEqDiff, Nat.reduceMod, Nat.reduceDiv, q_W hp, c_np hc, ha, c_ns hc hpn, e]
      · have hr' := q_st_r s hr
        rw [E_X12_move 199]
        simp (disch := omega) only [q_ckt, q_lt, q_cI, q_cJ, q_cV, q_cP, q_xI, q_xV, q_xP, q_xJ, g_gk, g_ga, g_gw, g_gp, g_gq, g_P, g_J, q_I_s, q_I_n, q_I_k, nI_add, pk_sub, pk_mul, nI_clamp, n_lt0, n_0lt, n_eq0, n_lt, n_le, n_eq, n_m1, n_m2, n_m9, n_12, n_19, n_10, n_01, n_1n1, n_0n1, n_1n0, n_0n0, n_dI, n_m1lt, q_inb, n_nar, n_nar0, n_nar1, n_bool, Bool.false_eq_true, Bool.true_eq_false, if_true, if_false, ↓reduceIte, Nat.reduceAdd, Nat.reduceMul, Nat.reduceSub, Nat.reduceLT, Nat.reduceLeDiff, Nat.reduceEqDiff, Nat.reduceMod, Nat.reduceDiv, q_R hr'.1, r_sf hr' hpn, e]
    | some i =>
      obtain ⟨him, hqi⟩ := k_pl_some e
      by_cases hbk : k_rng b (k_m K)
      · obtain ⟨y, hym, rfl⟩ := k_rng_of hbk (by omega)
        obtain ⟨kn, kg, km⟩ := k_kp_n (K := K)
        have w1 := k_kp_wf hwf
        have hi1 : i < k_m (k_kp K) := by omega
        have hy1 : y < k_m (k_kp K) := by omega
        obtain ⟨ok2, m2, q2⟩ := k_mov_ok w1.1 hi1 hy1
        have o2 : ∀ k, ¬ (9 ≤ k ∧ k < 53) → k_mov (k_kp K) i y k = k_kp K k := fun k hk => k_mov_o w1.1 hi1 hy1 (by omega)
        have w2 := k_wf_st w1 o2 ok2.2
        have qi1 : k_q (k_kp K) i = p := by
          rw [← hqi]
          unfold k_q
          rw [k_kp_o (by omega)]
        have qy2 : k_q (k_mov (k_kp K) i y) y = p := by
          rw [q2 y hy1, show k_sh i y y = i from if_pos rfl, qi1]
        have n2 : k_n (k_mov (k_kp K) i y) = k_n K := by unfold k_n; rw [o2 _ (by omega), k_kp_o (by omega)]
        refine Or.inl ⟨k_fw (k_mov (k_kp K) i y) (k_td (k_mov (k_kp K) i y)) y, k_mov (k_kp K) i y, ?_, w2, ?_⟩
        · obtain ⟨M1, e1, d1, z1, s1⟩ := c_keepDeed (d := 195) hp hwf hsc
          have hp1 := d1.p hp
          have c1 := c_sc_rl hp1 w1.1 s1
          obtain ⟨M2, e2, t2, f2⟩ := c_shift (d := 197) c1 hi1 hy1
          have st2 := c_st_shift c1 hi1 hy1 t2 f2
          have hp2 := q_PI_eq t2 hp1
          have s2 : c_sc M2 3 (k_mov (k_kp K) i y) := c_sc_st w1 s1 o2 (fun a h1 h2 h3 h4 => t2.1 a (by simp only [List.mem_cons, List.not_mem_nil, or_false]; omega)) st2
          have c2 := c_sc_rl hp2 ok2 s2
          obtain ⟨M3, e3, t3, a3, g3⟩ := c_run (d := 193) c2
          have c3 := c_rl_eq c2 t3 (by decide)
          refine ⟨M3, ?_, d1.tr ((q_dc_eq t2 (by decide)).tr (q_dc_eq t3 (by decide))), ?_, c_sc_fr (fun j hj h6 => t3.1 _ (by simp only [List.mem_cons, List.not_mem_nil, or_false]; omega)) s2⟩
          · rw [E_X11_move 198]
            simp (disch := omega) only [q_ckt, q_lt, q_cI, q_cJ, q_cV, q_cP, q_xI, q_xV, q_xP, q_xJ, g_gk, g_ga, g_gw, g_gp, g_gq, g_P, g_J, q_I_s, q_I_n, q_I_k, nI_add, pk_sub, pk_mul, nI_clamp, n_lt0, n_0lt, n_eq0, n_lt, n_le, n_eq, n_m1, n_m2, n_m9, n_12, n_19, n_10, n_01, n_1n1, n_0n1, n_1n0, n_0n0, n_dI, n_m1lt, q_inb, n_nar, n_nar0, n_nar1, n_bool, Bool.false_eq_true, Bool.true_eq_false, if_true, if_false, ↓reduceIte, Nat.reduceAdd, Nat.reduceMul, Nat.reduceSub, Nat.reduceLT, Nat.reduceLeDiff, Nat.reduceEqDiff, Nat.reduceMod, Nat.reduceDiv, q_W hp, c_np hc, ha, c_ns hc hpn, e, c_npl hc, hbk, e1, q_W hp1, q_S hp1 (a := 12) (by decide), e2, q_W hp2, q_F hp2, e3, q_W c3.1, q_F c3.1, c_wa c3 (show y < k_m (k_mov (k_kp K) i y) by omega) (g3 y (by omega)) (k_td_gd ok2 (by omega))]
          · rw [q_I_eq t3 (by decide), q_I_eq t2 (by decide)]
            exact z1
        · intro M' hr'
          have h4 := r_4 (v := nI 0) hr'
          obtain ⟨N1, f1, t1, u1⟩ := d_kp (d := 198) h4 hwf
          obtain ⟨N2, f2, t2, a2⟩ := r_moves (d := 196) u1 hi1 hy1
          rw [qi1] at f2
          have u2 : r_rl N2 (k_mov (k_kp K) i y) := ⟨q_PI_eq t2 u1.1, ok2, a2⟩
          have pl2 : k_pl (k_mov (k_kp K) i y) p = some y := by
            rw [← qy2]
            exact k_pl_q ok2 (by omega)
          obtain ⟨N3, f3, t3⟩ := r_todayTo (d := 192) u2 (show p < k_n (k_mov (k_kp K) i y) by omega) pl2
          refine ⟨N3, ?_, (q_dr_4 rfl).tr ((q_dr_eq t1 (by decide)).tr ((q_dr_eq t2 (by decide)).tr (q_dr_eq t3 (by decide)))), fun k => (q_I_eq t3 (by decide) k).trans (a2 k), ?_⟩
          · rw [E_X12_move 199]
            simp (disch := omega) only [q_ckt, q_lt, q_cI, q_cJ, q_cV, q_cP, q_xI, q_xV, q_xP, q_xJ, g_gk, g_ga, g_gw, g_gp, g_gq, g_P, g_J, q_I_s, q_I_n, q_I_k, nI_add, pk_sub, pk_mul, nI_clamp, n_lt0, n_0lt, n_eq0, n_lt, n_le, n_eq, n_m1, n_m2, n_m9, n_12, n_19, n_10, n_01, n_1n1, n_0n1, n_1n0, n_0n0, n_dI, n_m1lt, q_inb, n_nar, n_nar0, n_nar1, n_bool, Bool.false_eq_true, Bool.true_eq_false, if_true, if_false, ↓reduceIte, Nat.reduceAdd, Nat.reduceMul, Nat.reduceSub, Nat.reduceLT, Nat.reduceLeDiff, Nat.reduceEqDiff, Nat.reduceMod, Nat.reduceDiv, q_R hr'.1, r_sf hr' hpn, e, hbk, f1, q_R u1.1, f2, q_R u2.1, f3]
          · rw [q_I_eq t3 (by decide), q_I_eq t2 (by decide), q_I_eq t1 (by decide), q_I_s]
      · refine Or.inr (Or.inr ⟨3, 3, by omega, by omega, ?_, fun _ => rfl, fun M' s => ⟨nI 0, _, ?_, q_st_4 s.1.1 (k := 4) (v := nI 3) rfl, rfl, q_I_s⟩⟩)
        · rw [E_X11_move 198]
          simp (disch := omega) only [q_ckt, q_lt, q_cI, q_cJ, q_cV, q_cP, q_xI, q_xV, q_xP, q_xJ, g_gk, g_ga, g_gw, g_gp, g_gq, g_P, g_J, q_I_s, q_I_n, q_I_k, nI_add, pk_sub, pk_mul, nI_clamp, n_lt0, n_0lt, n_eq0, n_lt, n_le, n_eq, n_m1, n_m2, n_m9, n_12, n_19, n_10, n_01, n_1n1, n_0n1, n_1n0, n_0n0, n_dI, n_m1lt, q_inb, n_nar, n_nar0, n_nar1, n_bool, Bool.false_eq_true, Bool.true_eq_false, if_true, if_false, ↓reduceIte, Nat.reduceAdd, Nat.reduceMul, Nat.reduceSub, Nat.reduceLT, Nat.reduceLeDiff, Nat.reduceEqDiff, Nat.reduceMod, Nat.reduceDiv, q_W hp, c_np hc, ha, c_ns hc hpn, e, c_npl hc, hbk]
        · have hr' := q_st_r s hr
          rw [E_X12_move 199]
          simp (disch := omega) only [q_ckt, q_lt, q_cI, q_cJ, q_cV, q_cP, q_xI, q_xV, q_xP, q_xJ, g_gk, g_ga, g_gw, g_gp, g_gq, g_P, g_J, q_I_s, q_I_n, q_I_k, nI_add, pk_sub, pk_mul, nI_clamp, n_lt0, n_0lt, n_eq0, n_lt, n_le, n_eq, n_m1, n_m2, n_m9, n_12, n_19, n_10, n_01, n_1n1, n_0n1, n_1n0, n_0n0, n_dI, n_m1lt, q_inb, n_nar, n_nar0, n_nar1, n_bool, Bool.false_eq_true, Bool.true_eq_false, if_true, if_false, ↓reduceIte, Nat.reduceAdd, Nat.reduceMul, Nat.reduceSub, Nat.reduceLT, Nat.reduceLeDiff, Nat.reduceEqDiff, Nat.reduceMod, Nat.reduceDiv, q_R hr'.1, r_sf hr' hpn, e, hbk]
  · refine Or.inr (Or.inr ⟨1, 1, by omega, by omega, ?_, fun _ => rfl, fun M' s => ⟨nI 0, _, ?_, q_st_4 s.1.1 (k := 4) (v := nI 1) rfl, rfl, q_I_s⟩⟩)
    · rw [E_X11_move 198]
      simp (disch := omega) only [q_ckt, q_lt, q_cI, q_cJ, q_cV, q_cP, q_xI, q_xV, q_xP, q_xJ, g_gk, g_ga, g_gw, g_gp, g_gq, g_P, g_J, q_I_s, q_I_n, q_I_k, nI_add, pk_sub, pk_mul, nI_clamp, n_lt0, n_0lt, n_eq0, n_lt, n_le, n_eq, n_m1, n_m2, n_m9, n_12, n_19, n_10, n_01, n_1n1, n_0n1, n_1n0, n_0n0, n_dI, n_m1lt, q_inb, n_nar, n_nar0, n_nar1, n_bool, Bool.false_eq_true, Bool.true_eq_false, if_true, if_false, ↓reduceIte, Nat.reduceAdd, Nat.reduceMul, Nat.reduceSub, Nat.reduceLT, Nat.reduceLeDiff, Nat.reduceEqDiff, Nat.reduceMod, Nat.reduceDiv, q_W hp, c_np hc, ha]
    · have hr' := q_st_r s hr
      rw [E_X12_move 199]
      simp (disch := omega) only [q_ckt, q_lt, q_cI, q_cJ, q_cV, q_cP, q_xI, q_xV, q_xP, q_xJ, g_gk, g_ga, g_gw, g_gp, g_gq, g_P, g_J, q_I_s, q_I_n, q_I_k, nI_add, pk_sub, pk_mul, nI_clamp, n_lt0, n_0lt, n_eq0, n_lt, n_le, n_eq, n_m1, n_m2, n_m9, n_12, n_19, n_10, n_01, n_1n1, n_0n1, n_1n0, n_0n0, n_dI, n_m1lt, q_inb, n_nar, n_nar0, n_nar1, n_bool, Bool.false_eq_true, Bool.true_eq_false, if_true, if_false, ↓reduceIte, Nat.reduceAdd, Nat.reduceMul, Nat.reduceSub, Nat.reduceLT, Nat.reduceLeDiff, Nat.reduceEqDiff, Nat.reduceMod, Nat.reduceDiv, q_R hr'.1, r_sf0 hr' ha]
end D3
