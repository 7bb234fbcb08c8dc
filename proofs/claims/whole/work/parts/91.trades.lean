/-! all trades -/
def k_tf (K : Nat → Int32) : Nat → Nat → Option Nat
  | 0, _ => none
  | r + 1, i => if k_tr K i = true then some i else k_tf K r (i + 1)
def k_tds : Nat → (Nat → Int32) → Nat × (Nat → Int32)
  | 0, K => (0, K)
  | f + 1, K => match k_tf K (k_m K - 1) 0 with
    | none => (0, K)
    | some i => ((k_tds f (k_trd K i)).1 + 1, (k_tds f (k_trd K i)).2)
theorem k_tf_some {K : Nat → Int32} : ∀ {r i j : Nat}, k_tf K r i = some j → k_tr K j = true ∧ i ≤ j ∧ j < i + r
  | 0, _, _, h => nomatch h
  | r + 1, i, j, h => by
    unfold k_tf at h
    by_cases q : k_tr K i = true
    · rw [if_pos q] at h
      cases h
      exact ⟨q, Nat.le_refl _, by omega⟩
    · rw [if_neg q] at h
      obtain ⟨a, b, c⟩ := k_tf_some h
      exact ⟨a, by omega, by omega⟩
section TT
variable {d : Nat}
theorem c_trF {K : Nat → Int32} (hw : k_wf K) : ∀ (r i : Nat) {M : ir_M}, q_PI M → c_sc M 3 K → i + r = k_m K - 1 → ∃ M', v_X11_tradeFirst_2 (d + 6) 1 (nI i) M = ir_oI (match k_tf K r i with | none => nI 0 | some _ => nI 1) M' ∧ (match k_tf K r i with | none => q_eq [91, 92, 93, 94, 95, 96, 9, 117, 118, 120] M M' | some j => q_dc M M' ∧ ir_I M' 121 0 = 0 ∧ c_sc M' 3 (k_trd K j))
  | 0, i, M, hp, hs, h => by
    have hc := c_sc_rl hp hw.1 hs
    have hb := k_bds hw.1
    have hu := c_use hc
    refine ⟨M, ?_, q_eq.rf _ _⟩
    rw [L_X11_tradeFirst_2]
    by_cases hm : 1 ≤ k_m K
    · simp (disch := omega) only [q_ckt, q_lt, q_cI, q_cJ, q_cV, q_cP, q_xI, q_xV, q_xP, q_xJ, g_gk, g_ga, g_gw, g_gp, g_gq, g_P, g_J, q_I_s, q_I_n, q_I_k, nI_add, pk_sub, pk_mul, nI_clamp, n_lt0, n_0lt, n_eq0, n_lt, n_le, n_eq, n_m1, n_m2, n_m9, n_12, n_19, n_10, n_01, n_1n1, n_0n1, n_1n0, n_0n0, n_dI, n_m1lt, q_inb, n_nar, n_nar0, n_nar1, n_bool, Bool.false_eq_true, Bool.true_eq_false, if_true, if_false, ↓reduceIte, Nat.reduceAdd, Nat.reduceMul, Nat.reduceSub, Nat.reduceLT, Nat.reduceLeDiff, Nat.reduceEqDiff, Nat.reduceMod, Nat.reduceDiv, q_W hp, q_S hp (a := 12) (by decide), hu, show ¬ i < k_m K - 1 by omega, k_tf]
    · rw [show i = 0 by omega]
      simp (disch := omega) only [q_ckt, q_lt, q_cI, q_cJ, q_cV, q_cP, q_xI, q_xV, q_xP, q_xJ, g_gk, g_ga, g_gw, g_gp, g_gq, g_P, g_J, q_I_s, q_I_n, q_I_k, nI_add, pk_sub, pk_mul, nI_clamp, n_lt0, n_0lt, n_eq0, n_lt, n_le, n_eq, n_m1, n_m2, n_m9, n_12, n_19, n_10, n_01, n_1n1, n_0n1, n_1n0, n_0n0, n_dI, n_m1lt, q_inb, n_nar, n_nar0, n_nar1, n_bool, Bool.false_eq_true, Bool.true_eq_false, if_true, if_false, ↓reduceIte, Nat.reduceAdd, Nat.reduceMul, Nat.reduceSub, Nat.reduceLT, Nat.reduceLeDiff, Nat.reduceEqDiff, Nat.reduceMod, Nat.reduceDiv, q_W hp, q_S hp (a := 12) (by decide), hu, show k_m K = 0 by omega, k_tf, show ¬ (nI 0 < nI 0 - nI 1) by decide +kernel]
  | r + 1, i, M, hp, hs, h => by
    have hc := c_sc_rl hp hw.1 hs
    have hb := k_bds hw.1
    have hu := c_use hc
    obtain ⟨M1, e1, s1⟩ := c_tradeAt (d := d) hp hw hs (i := i) (by omega)
    cases e : k_tr K i
    · rw [e, if_neg (by decide)] at e1
      rw [e, if_neg (by decide)] at s1
      have p1 := q_PI_eq s1 hp
      have sc1 : c_sc M1 3 K := c_sc_fr (fun j hj h6 => s1.1 _ (by simp only [List.mem_cons, List.not_mem_nil, or_false]; omega)) hs
      obtain ⟨M2, e2, s2⟩ := c_trF hw r (i + 1) p1 sc1 (by omega)
      have ef : k_tf K (r + 1) i = k_tf K r (i + 1) := by
        show (if k_tr K i = true then _ else _) = _
        rw [e, if_neg (by decide)]
      rw [ef]
      refine ⟨M2, ?_, ?_⟩
      · rw [L_X11_tradeFirst_2]
        simp (disch := omega) only [q_ckt, q_lt, q_cI, q_cJ, q_cV, q_cP, q_xI, q_xV, q_xP, q_xJ, g_gk, g_ga, g_gw, g_gp, g_gq, g_P, g_J, q_I_s, q_I_n, q_I_k, nI_add, pk_sub, pk_mul, nI_clamp, n_lt0, n_0lt, n_eq0, n_lt, n_le, n_eq, n_m1, n_m2, n_m9, n_12, n_19, n_10, n_01, n_1n1, n_0n1, n_1n0, n_0n0, n_dI, n_m1lt, q_inb, n_nar, n_nar0, n_nar1, n_bool, Bool.false_eq_true, Bool.true_eq_false, if_true, if_false, ↓reduceIte, Nat.reduceAdd, Nat.reduceMul, Nat.reduceSub, Nat.reduceLT, Nat.reduceLeDiff, Nat.reduceEqDiff, Nat.reduceMod, Nat.reduceDiv, q_W hp, q_S hp (a := 12) (by decide), hu, show i < k_m K - 1 by omega, e1, Nat.lt_irrefl]
        exact e2
      · cases e' : k_tf K r (i + 1) with
        | none =>
          rw [e'] at s2
          exact s1.tr s2
        | some j =>
          rw [e'] at s2
          exact ⟨(q_dc_eq s1 (by decide)).tr s2.1, s2.2⟩
    · rw [e, if_pos rfl] at e1
      rw [e, if_pos rfl] at s1
      have hpos := (k_tr_t e).1
      have ef : k_tf K (r + 1) i = some i := by
        show (if k_tr K i = true then _ else _) = _
        rw [e, if_pos rfl]
      rw [ef]
      refine ⟨M1, ?_, s1⟩
      rw [L_X11_tradeFirst_2]
      simp (disch := omega) only [q_ckt, q_lt, q_cI, q_cJ, q_cV, q_cP, q_xI, q_xV, q_xP, q_xJ, g_gk, g_ga, g_gw, g_gp, g_gq, g_P, g_J, q_I_s, q_I_n, q_I_k, nI_add, pk_sub, pk_mul, nI_clamp, n_lt0, n_0lt, n_eq0, n_lt, n_le, n_eq, n_m1, n_m2, n_m9, n_12, n_19, n_10, n_01, n_1n1, n_0n1, n_1n0, n_0n0, n_dI, n_m1lt, q_inb, n_nar, n_nar0, n_nar1, n_bool, Bool.false_eq_true, Bool.true_eq_false, if_true, if_false, ↓reduceIte, Nat.reduceAdd, Nat.reduceMul, Nat.reduceSub, Nat.reduceLT, Nat.reduceLeDiff, Nat.reduceEqDiff, Nat.reduceMod, Nat.reduceDiv, q_W hp, q_S hp (a := 12) (by decide), hu, show i < k_m K - 1 by omega, e1, hpos]
theorem c_tds : ∀ (f n : Nat) {K : Nat → Int32} {M : ir_M}, k_wf K → q_PI M → c_sc M 3 K → n + f = 50 → ∃ M', v_X11_trades_2 (d + 7) 1 (nI n) M = ir_oI (nI (n + (k_tds f K).1)) M' ∧ q_dc M M' ∧ c_sc M' 3 (k_tds f K).2 ∧ k_wf (k_tds f K).2 ∧ (ir_I M 121 0 = 0 → ir_I M' 121 0 = 0) ∧ (0 < (k_tds f K).1 → ir_I M' 121 0 = 0) ∧ ((k_tds f K).1 = 0 → q_st 0 M M')
  | 0, n, K, M, hw, hp, hs, h => by
    refine ⟨M, ?_, q_dc.rf, hs, hw, fun q => q, fun q => absurd q (Nat.lt_irrefl 0), fun _ => q_st.rf hp⟩
    rw [L_X11_trades_2]
    simp (disch := omega) only [q_ckt, q_lt, q_cI, q_cJ, q_cV, q_cP, q_xI, q_xV, q_xP, q_xJ, g_gk, g_ga, g_gw, g_gp, g_gq, g_P, g_J, q_I_s, q_I_n, q_I_k, nI_add, pk_sub, pk_mul, nI_clamp, n_lt0, n_0lt, n_eq0, n_lt, n_le, n_eq, n_m1, n_m2, n_m9, n_12, n_19, n_10, n_01, n_1n1, n_0n1, n_1n0, n_0n0, n_dI, n_m1lt, q_inb, n_nar, n_nar0, n_nar1, n_bool, Bool.false_eq_true, Bool.true_eq_false, if_true, if_false, ↓reduceIte, Nat.reduceAdd, Nat.reduceMul, Nat.reduceSub, Nat.reduceLT, Nat.reduceLeDiff, Nat.reduceEqDiff, Nat.reduceMod, Nat.reduceDiv, show n = 50 by omega, k_tds, Nat.add_zero]
  | f + 1, n, K, M, hw, hp, hs, h => by
    obtain ⟨M1, e1, s1⟩ := c_trF (d := d) hw (k_m K - 1) 0 hp hs (by omega)
    have E1 : m_X11_tradeFirst (d + 7) 1 M = ir_oI (match k_tf K (k_m K - 1) 0 with | none => nI 0 | some _ => nI 1) M1 := (E_X11_tradeFirst (d + 6) 1 M).trans e1
    cases e : k_tf K (k_m K - 1) 0 with
    | none =>
      rw [e] at E1 s1
      have et : k_tds (f + 1) K = (0, K) := by
        show (match k_tf K (k_m K - 1) 0 with | none => _ | some i => _) = _
        rw [e]
      rw [et]
      refine ⟨M1, ?_, q_dc_eq s1 (by decide), c_sc_fr (fun j hj h6 => s1.1 _ (by simp only [List.mem_cons, List.not_mem_nil, or_false]; omega)) hs, hw, fun q => (q_I_eq s1 (by decide) 0).trans q, fun q => absurd q (Nat.lt_irrefl 0), fun _ => q_st_eq hp s1 (by decide)⟩
      rw [L_X11_trades_2]
      simp (disch := omega) only [q_ckt, q_lt, q_cI, q_cJ, q_cV, q_cP, q_xI, q_xV, q_xP, q_xJ, g_gk, g_ga, g_gw, g_gp, g_gq, g_P, g_J, q_I_s, q_I_n, q_I_k, nI_add, pk_sub, pk_mul, nI_clamp, n_lt0, n_0lt, n_eq0, n_lt, n_le, n_eq, n_m1, n_m2, n_m9, n_12, n_19, n_10, n_01, n_1n1, n_0n1, n_1n0, n_0n0, n_dI, n_m1lt, q_inb, n_nar, n_nar0, n_nar1, n_bool, Bool.false_eq_true, Bool.true_eq_false, if_true, if_false, ↓reduceIte, Nat.reduceAdd, Nat.reduceMul, Nat.reduceSub, Nat.reduceLT, Nat.reduceLeDiff, Nat.reduceEqDiff, Nat.reduceMod, Nat.reduceDiv, show n < 50 by omega, q_W hp, E1, Nat.add_zero]
    | some i =>
      rw [e] at E1 s1
      obtain ⟨d1, z1, c1⟩ := s1
      obtain ⟨-, -, hi⟩ := k_tf_some e
      have et : k_tds (f + 1) K = ((k_tds f (k_trd K i)).1 + 1, (k_tds f (k_trd K i)).2) := by
        show (match k_tf K (k_m K - 1) 0 with | none => _ | some i => _) = _
        rw [e]
      rw [et]
      obtain ⟨M2, e2, d2, s2, w2, z2, y2, -⟩ := c_tds f (n + 1) (k_trd_wf hw (show i + 1 < k_m K by omega)) (d1.p hp) c1 (by omega)
      refine ⟨M2, ?_, d1.tr d2, s2, w2, fun _ => z2 z1, fun _ => z2 z1, fun q => nomatch q⟩
      rw [L_X11_trades_2]
      simp (disch := omega) only [q_ckt, q_lt, q_cI, q_cJ, q_cV, q_cP, q_xI, q_xV, q_xP, q_xJ, g_gk, g_ga, g_gw, g_gp, g_gq, g_P, g_J, q_I_s, q_I_n, q_I_k, nI_add, pk_sub, pk_mul, nI_clamp, n_lt0, n_0lt, n_eq0, n_lt, n_le, n_eq, n_m1, n_m2, n_m9, n_12, n_19, n_10, n_01, n_1n1, n_0n1, n_1n0, n_0n0, n_dI, n_m1lt, q_inb, n_nar, n_nar0, n_nar1, n_bool, Bool.false_eq_true, Bool.true_eq_false, if_true, if_false, ↓reduceIte, Nat.reduceAdd, Nat.reduceMul, Nat.reduceSub, Nat.reduceLT, Nat.reduceLeDiff, Nat.reduceEqDiff, Nat.reduceMod, Nat.reduceDiv, show n < 50 by omega, q_W hp, E1, e2]
      rw [show n + 1 + (k_tds f (k_trd K i)).1 = n + ((k_tds f (k_trd K i)).1 + 1) by omega]
theorem r_trF {K : Nat → Int32} {v : Int32} (hw : k_wf K) : ∀ (r i : Nat) {M : ir_M}, r_rl M K → i + r = k_m K - 1 → ∃ M', v_X12_trades_23 (d + 8) 412 v (nI 0) (nI i) M = v_X12_trades_57 (d + 8) 412 v (match k_tf K r i with | none => nI 0 | some _ => nI 1) M' ∧ (∀ k, k < 21 → ir_I M' 412 k = ir_I M 412 k) ∧ (match k_tf K r i with | none => q_st 0 M M' ∧ M'.2 = M.2 ∧ q_dr M M' | some j => q_dr M M' ∧ r_rl M' (k_trd K j))
  | 0, i, M, hr, h => by
    have hb := k_bds hw.1
    refine ⟨M, ?_, fun _ _ => rfl, q_st.rf hr.1, rfl, q_dr.rf⟩
    rw [L_X12_trades_23]
    simp (disch := omega) only [q_ckt, q_lt, q_cI, q_cJ, q_cV, q_cP, q_xI, q_xV, q_xP, q_xJ, g_gk, g_ga, g_gw, g_gp, g_gq, g_P, g_J, q_I_s, q_I_n, q_I_k, nI_add, pk_sub, pk_mul, nI_clamp, n_lt0, n_0lt, n_eq0, n_lt, n_le, n_eq, n_m1, n_m2, n_m9, n_12, n_19, n_10, n_01, n_1n1, n_0n1, n_1n0, n_0n0, n_dI, n_m1lt, q_inb, n_nar, n_nar0, n_nar1, n_bool, Bool.false_eq_true, Bool.true_eq_false, if_true, if_false, ↓reduceIte, Nat.reduceAdd, Nat.reduceMul, Nat.reduceSub, Nat.reduceLT, Nat.reduceLeDiff, Nat.reduceEqDiff, Nat.reduceMod, Nat.reduceDiv, q_R hr.1, r_qd hr, show ¬ i + 1 < k_m K by omega, k_tf]
  | r + 1, i, M, hr, h => by
    have hb := k_bds hw.1
    obtain ⟨M1, e1, g1, s1⟩ := r_trades (d := d) hr hw (i := i) (by omega)
    cases e : k_tr K i
    · rw [e, if_neg (by decide)] at e1
      rw [e, if_neg (by decide)] at s1
      have r1 := q_st_r s1.1 hr
      obtain ⟨M2, e2, g2, s2⟩ := r_trF hw r (i + 1) r1 (by omega)
      have ef : k_tf K (r + 1) i = k_tf K r (i + 1) := by
        show (if k_tr K i = true then _ else _) = _
        rw [e, if_neg (by decide)]
      have dr1 : q_dr M M1 := s1.2.2
      rw [ef]
      refine ⟨M2, ?_, fun k hk => (g2 k hk).trans (g1 k hk), ?_⟩
      · rw [L_X12_trades_23]
        simp (disch := omega) only [q_ckt, q_lt, q_cI, q_cJ, q_cV, q_cP, q_xI, q_xV, q_xP, q_xJ, g_gk, g_ga, g_gw, g_gp, g_gq, g_P, g_J, q_I_s, q_I_n, q_I_k, nI_add, pk_sub, pk_mul, nI_clamp, n_lt0, n_0lt, n_eq0, n_lt, n_le, n_eq, n_m1, n_m2, n_m9, n_12, n_19, n_10, n_01, n_1n1, n_0n1, n_1n0, n_0n0, n_dI, n_m1lt, q_inb, n_nar, n_nar0, n_nar1, n_bool, Bool.false_eq_true, Bool.true_eq_false, if_true, if_false, ↓reduceIte, Nat.reduceAdd, Nat.reduceMul, Nat.reduceSub, Nat.reduceLT, Nat.reduceLeDiff, Nat.reduceEqDiff, Nat.reduceMod, Nat.reduceDiv, q_R hr.1, r_qd hr, show i + 1 < k_m K by omega, e1, Nat.lt_irrefl]
        exact e2
      · cases e' : k_tf K r (i + 1) with
        | none =>
          rw [e'] at s2
          exact ⟨s1.1.tr s2.1, s2.2.1.trans s1.2.1, dr1.tr s2.2.2⟩
        | some j =>
          rw [e'] at s2
          exact ⟨dr1.tr s2.1, s2.2⟩
    · rw [e, if_pos rfl] at e1
      rw [e, if_pos rfl] at s1
      have hpos := (k_tr_t e).1
      have ef : k_tf K (r + 1) i = some i := by
        show (if k_tr K i = true then _ else _) = _
        rw [e, if_pos rfl]
      have km : k_m (k_trd K i) ≤ 8 := by
        have := k_bds (k_trd_wf hw (show i + 1 < k_m K by omega)).1
        omega
      rw [ef]
      refine ⟨M1, ?_, g1, s1⟩
      rw [L_X12_trades_23]
      simp (disch := omega) only [q_ckt, q_lt, q_cI, q_cJ, q_cV, q_cP, q_xI, q_xV, q_xP, q_xJ, g_gk, g_ga, g_gw, g_gp, g_gq, g_P, g_J, q_I_s, q_I_n, q_I_k, nI_add, pk_sub, pk_mul, nI_clamp, n_lt0, n_0lt, n_eq0, n_lt, n_le, n_eq, n_m1, n_m2, n_m9, n_12, n_19, n_10, n_01, n_1n1, n_0n1, n_1n0, n_0n0, n_dI, n_m1lt, q_inb, n_nar, n_nar0, n_nar1, n_bool, Bool.false_eq_true, Bool.true_eq_false, if_true, if_false, ↓reduceIte, Nat.reduceAdd, Nat.reduceMul, Nat.reduceSub, Nat.reduceLT, Nat.reduceLeDiff, Nat.reduceEqDiff, Nat.reduceMod, Nat.reduceDiv, q_R hr.1, r_qd hr, show i + 1 < k_m K by omega, e1, hpos]
      rw [L_X12_trades_23]
      simp (disch := omega) only [q_ckt, q_lt, q_cI, q_cJ, q_cV, q_cP, q_xI, q_xV, q_xP, q_xJ, g_gk, g_ga, g_gw, g_gp, g_gq, g_P, g_J, q_I_s, q_I_n, q_I_k, nI_add, pk_sub, pk_mul, nI_clamp, n_lt0, n_0lt, n_eq0, n_lt, n_le, n_eq, n_m1, n_m2, n_m9, n_12, n_19, n_10, n_01, n_1n1, n_0n1, n_1n0, n_0n0, n_dI, n_m1lt, q_inb, n_nar, n_nar0, n_nar1, n_bool, Bool.false_eq_true, Bool.true_eq_false, if_true, if_false, ↓reduceIte, Nat.reduceAdd, Nat.reduceMul, Nat.reduceSub, Nat.reduceLT, Nat.reduceLeDiff, Nat.reduceEqDiff, Nat.reduceMod, Nat.reduceDiv, q_R s1.2.1, r_qd s1.2]
      split <;> rfl
theorem r_tds : ∀ (f n : Nat) {K : Nat → Int32} {M : ir_M}, k_wf K → r_rl M K → n + f = 50 → ∃ M', v_X12_trades_9 (d + 8) 412 (nI n) (nI 1) M = ir_oI (nI (n + (k_tds f K).1)) M' ∧ q_dr M M' ∧ (∀ k, ir_I M' 413 k = (k_tds f K).2 k) ∧ (∀ k, k < 21 → ir_I M' 412 k = ir_I M 412 k) ∧ ((k_tds f K).1 = 0 → q_st 0 M M')
  | 0, n, K, M, hw, hr, h => by
    refine ⟨M, ?_, q_dr.rf, hr.2.2, fun _ _ => rfl, fun _ => q_st.rf hr.1⟩
    rw [L_X12_trades_9]
    simp (disch := omega) only [q_ckt, q_lt, q_cI, q_cJ, q_cV, q_cP, q_xI, q_xV, q_xP, q_xJ, g_gk, g_ga, g_gw, g_gp, g_gq, g_P, g_J, q_I_s, q_I_n, q_I_k, nI_add, pk_sub, pk_mul, nI_clamp, n_lt0, n_0lt, n_eq0, n_lt, n_le, n_eq, n_m1, n_m2, n_m9, n_12, n_19, n_10, n_01, n_1n1, n_0n1, n_1n0, n_0n0, n_dI, n_m1lt, q_inb, n_nar, n_nar0, n_nar1, n_bool, Bool.false_eq_true, Bool.true_eq_false, if_true, if_false, ↓reduceIte, Nat.reduceAdd, Nat.reduceMul, Nat.reduceSub, Nat.reduceLT, Nat.reduceLeDiff, Nat.reduceEqDiff, Nat.reduceMod, Nat.reduceDiv, show n = 50 by omega, k_tds, Nat.add_zero]
  | f + 1, n, K, M, hw, hr, h => by
    obtain ⟨M1, e1, g1, s1⟩ := r_trF (d := d) (v := nI n) hw (k_m K - 1) 0 hr (by omega)
    cases e : k_tf K (k_m K - 1) 0 with
    | none =>
      rw [e] at e1 s1
      have et : k_tds (f + 1) K = (0, K) := by
        show (match k_tf K (k_m K - 1) 0 with | none => _ | some i => _) = _
        rw [e]
      rw [et]
      have r1 := q_st_r s1.1 hr
      refine ⟨M1, ?_, s1.2.2, r1.2.2, g1, fun _ => s1.1⟩
      rw [L_X12_trades_9]
      simp (disch := omega) only [q_ckt, q_lt, q_cI, q_cJ, q_cV, q_cP, q_xI, q_xV, q_xP, q_xJ, g_gk, g_ga, g_gw, g_gp, g_gq, g_P, g_J, q_I_s, q_I_n, q_I_k, nI_add, pk_sub, pk_mul, nI_clamp, n_lt0, n_0lt, n_eq0, n_lt, n_le, n_eq, n_m1, n_m2, n_m9, n_12, n_19, n_10, n_01, n_1n1, n_0n1, n_1n0, n_0n0, n_dI, n_m1lt, q_inb, n_nar, n_nar0, n_nar1, n_bool, Bool.false_eq_true, Bool.true_eq_false, if_true, if_false, ↓reduceIte, Nat.reduceAdd, Nat.reduceMul, Nat.reduceSub, Nat.reduceLT, Nat.reduceLeDiff, Nat.reduceEqDiff, Nat.reduceMod, Nat.reduceDiv, show n < 50 by omega, e1]
      rw [L_X12_trades_57]
      simp (disch := omega) only [q_ckt, q_lt, q_cI, q_cJ, q_cV, q_cP, q_xI, q_xV, q_xP, q_xJ, g_gk, g_ga, g_gw, g_gp, g_gq, g_P, g_J, q_I_s, q_I_n, q_I_k, nI_add, pk_sub, pk_mul, nI_clamp, n_lt0, n_0lt, n_eq0, n_lt, n_le, n_eq, n_m1, n_m2, n_m9, n_12, n_19, n_10, n_01, n_1n1, n_0n1, n_1n0, n_0n0, n_dI, n_m1lt, q_inb, n_nar, n_nar0, n_nar1, n_bool, Bool.false_eq_true, Bool.true_eq_false, if_true, if_false, ↓reduceIte, Nat.reduceAdd, Nat.reduceMul, Nat.reduceSub, Nat.reduceLT, Nat.reduceLeDiff, Nat.reduceEqDiff, Nat.reduceMod, Nat.reduceDiv, Nat.add_zero]
      rw [L_X12_trades_9]
      simp (disch := omega) only [q_ckt, q_lt, q_cI, q_cJ, q_cV, q_cP, q_xI, q_xV, q_xP, q_xJ, g_gk, g_ga, g_gw, g_gp, g_gq, g_P, g_J, q_I_s, q_I_n, q_I_k, nI_add, pk_sub, pk_mul, nI_clamp, n_lt0, n_0lt, n_eq0, n_lt, n_le, n_eq, n_m1, n_m2, n_m9, n_12, n_19, n_10, n_01, n_1n1, n_0n1, n_1n0, n_0n0, n_dI, n_m1lt, q_inb, n_nar, n_nar0, n_nar1, n_bool, Bool.false_eq_true, Bool.true_eq_false, if_true, if_false, ↓reduceIte, Nat.reduceAdd, Nat.reduceMul, Nat.reduceSub, Nat.reduceLT, Nat.reduceLeDiff, Nat.reduceEqDiff, Nat.reduceMod, Nat.reduceDiv]
    | some i =>
      rw [e] at e1 s1
      obtain ⟨d1, r1⟩ := s1
      obtain ⟨-, -, hi⟩ := k_tf_some e
      have et : k_tds (f + 1) K = ((k_tds f (k_trd K i)).1 + 1, (k_tds f (k_trd K i)).2) := by
        show (match k_tf K (k_m K - 1) 0 with | none => _ | some i => _) = _
        rw [e]
      rw [et]
      obtain ⟨M2, e2, d2, a2, g2, -⟩ := r_tds f (n + 1) (k_trd_wf hw (show i + 1 < k_m K by omega)) r1 (by omega)
      refine ⟨M2, ?_, d1.tr d2, a2, fun k hk => (g2 k hk).trans (g1 k hk), fun q => nomatch q⟩
      rw [L_X12_trades_9]
      simp (disch := omega) only [q_ckt, q_lt, q_cI, q_cJ, q_cV, q_cP, q_xI, q_xV, q_xP, q_xJ, g_gk, g_ga, g_gw, g_gp, g_gq, g_P, g_J, q_I_s, q_I_n, q_I_k, nI_add, pk_sub, pk_mul, nI_clamp, n_lt0, n_0lt, n_eq0, n_lt, n_le, n_eq, n_m1, n_m2, n_m9, n_12, n_19, n_10, n_01, n_1n1, n_0n1, n_1n0, n_0n0, n_dI, n_m1lt, q_inb, n_nar, n_nar0, n_nar1, n_bool, Bool.false_eq_true, Bool.true_eq_false, if_true, if_false, ↓reduceIte, Nat.reduceAdd, Nat.reduceMul, Nat.reduceSub, Nat.reduceLT, Nat.reduceLeDiff, Nat.reduceEqDiff, Nat.reduceMod, Nat.reduceDiv, show n < 50 by omega, e1]
      rw [L_X12_trades_57]
      simp (disch := omega) only [q_ckt, q_lt, q_cI, q_cJ, q_cV, q_cP, q_xI, q_xV, q_xP, q_xJ, g_gk, g_ga, g_gw, g_gp, g_gq, g_P, g_J, q_I_s, q_I_n, q_I_k, nI_add, pk_sub, pk_mul, nI_clamp, n_lt0, n_0lt, n_eq0, n_lt, n_le, n_eq, n_m1, n_m2, n_m9, n_12, n_19, n_10, n_01, n_1n1, n_0n1, n_1n0, n_0n0, n_dI, n_m1lt, q_inb, n_nar, n_nar0, n_nar1, n_bool, Bool.false_eq_true, Bool.true_eq_false, if_true, if_false, ↓reduceIte, Nat.reduceAdd, Nat.reduceMul, Nat.reduceSub, Nat.reduceLT, Nat.reduceLeDiff, Nat.reduceEqDiff, Nat.reduceMod, Nat.reduceDiv, e2]
      rw [show n + 1 + (k_tds f (k_trd K i)).1 = n + ((k_tds f (k_trd K i)).1 + 1) by omega]
end TT
section TU
variable {L : Nat} {xs : Nat → Int32}
theorem S_trades : q_Sp L xs (q_Iv L xs) (m_X11_trades 200 1) (m_X12_trades 200 412) := by
  refine q_Sq_mk fun M hp hI => ?_
  have hr := c_I_r hp hI.1
  obtain ⟨hwf, hsc⟩ := hI.1
  generalize M.1 413 = K at hr hwf hsc ⊢
  obtain ⟨M1, e1, d1, s1, w1, -, z1, t1⟩ := c_tds (d := 192) 50 0 hwf hp hsc (by omega)
  have ec : m_X11_trades 200 1 M = ir_oI (nI (k_tds 50 K).1) M1 := by
    rw [E_X11_trades 199, e1, Nat.zero_add]
  have rr : ∀ M', r_rl M' K → ∃ M2, m_X12_trades 200 412 M' = ir_oI (nI (k_tds 50 K).1) M2 ∧ q_dr M' M2 ∧ (∀ k, ir_I M2 413 k = (k_tds 50 K).2 k) ∧ ir_I M2 412 4 = nI 0 ∧ ((k_tds 50 K).1 = 0 → q_st 0 M' M2) := fun M' hr' => by
    have h4 := r_4 (v := nI 0) hr'
    obtain ⟨M2, e2, d2, a2, g2, t2⟩ := r_tds (d := 191) 50 0 hwf h4 (by omega)
    refine ⟨M2, ?_, (q_dr_4 rfl).tr d2, a2, (g2 4 (by omega)).trans q_I_s, fun q => (q_st_4 hr'.1 rfl).tr (t2 q)⟩
    rw [E_X12_trades 199]
    simp (disch := omega) only [q_ckt, q_lt, q_cI, q_cJ, q_cV, q_cP, q_xI, q_xV, q_xP, q_xJ, g_gk, g_ga, g_gw, g_gp, g_gq, g_P, g_J, q_I_s, q_I_n, q_I_k, nI_add, pk_sub, pk_mul, nI_clamp, n_lt0, n_0lt, n_eq0, n_lt, n_le, n_eq, n_m1, n_m2, n_m9, n_12, n_19, n_10, n_01, n_1n1, n_0n1, n_1n0, n_0n0, n_dI, n_m1lt, q_inb, n_nar, n_nar0, n_nar1, n_bool, Bool.false_eq_true, Bool.true_eq_false, if_true, if_false, ↓reduceIte, Nat.reduceAdd, Nat.reduceMul, Nat.reduceSub, Nat.reduceLT, Nat.reduceLeDiff, Nat.reduceEqDiff, Nat.reduceMod, Nat.reduceDiv, q_R hr'.1, e2, Nat.zero_add]
  by_cases q : (k_tds 50 K).1 = 0
  · obtain ⟨M2, f2, -, -, -, t2⟩ := rr M1 (q_st_r (t1 q) hr)
    exact Or.inr ⟨_, M1, ec, t1 q, M2, f2, t2 q⟩
  · refine Or.inl ⟨nI (k_tds 50 K).1, (k_tds 50 K).2, ⟨M1, ec, d1, z1 (by omega), s1⟩, w1, fun M' hr' => ?_⟩
    obtain ⟨M2, f2, d2, a2, g2, -⟩ := rr M' hr'
    exact ⟨M2, f2, d2, a2, g2⟩
end TU
