/-! THE WELL: tokens, the class -/
def c_tx (B : Nat → Nat) (n L : Nat) (xs : Nat → Int32) (M : ir_M) : Prop := q_PI M ∧ n ≤ 900 ∧ (∀ k, k < n → B k < 256 ∧ ir_I M 2 k = (nI (B k)).toInt8.toInt32) ∧ c_ls M ∧ ir_P M 100 5 = 2 ∧ ir_I M 100 6 = nI n ∧ q_X L xs M
theorem c_tx_eq {B : Nat → Nat} {n L : Nat} {xs : Nat → Int32} {M M' : ir_M} {S : List Nat} (h : c_tx B n L xs M) (he : q_eq S M M') (hS : ∀ a ∈ S, 100 ≤ a ∧ a ≤ 114) (h6 : ir_I M' 100 6 = ir_I M 100 6) : c_tx B n L xs M' := by
  obtain ⟨h1, h2, h3, h4, h5, h7, h8⟩ := h
  refine ⟨q_PI_eq he h1, h2, fun k hk => ⟨(h3 k hk).1, ?_⟩, fun k hk => ?_, ?_, h6.trans h7, q_X_eq he (fun a ha => by have := hS a ha; omega) h8⟩
  · rw [q_I_eq he (fun q => by have := hS 2 q; omega)]; exact (h3 k hk).2
  · rw [q_I_eq he (fun q => by have := hS 115 q; omega)]; exact h4 k hk
  · unfold ir_P at h5 ⊢
    rw [he.2]
    exact h5
theorem n_by1 : ∀ b, b < 128 → (nI b).toInt8.toInt32 = nI b := by decide +kernel
theorem n_by2 : ∀ b, b < 256 → 128 ≤ b → (nI b).toInt8.toInt32 < nI 48 ∧ (nI b).toInt8.toInt32 < nI 97 ∧ ¬ (nI b).toInt8.toInt32 = nI 10 ∧ ¬ (nI b).toInt8.toInt32 = nI 32 := by decide +kernel
theorem n_by3 : ∀ b, b < 256 → (((nI b).toInt8.toInt32 &&& nI 255).toUInt32 % 65536).toInt32 = nI b := by decide +kernel
theorem n_by4 : ∀ b, b < 256 → (nI b).toInt8.toInt32.toInt8.toInt32 = (nI b).toInt8.toInt32 := by decide +kernel
section CN
variable {B : Nat → Nat} {n L : Nat} {xs : Nat → Int32} {d : Nat}
theorem c_txg {M : ir_M} (h : c_tx B n L xs M) : ir_P M 100 5 = 2 ∧ ir_gp M 100 4 5 = true ∧ ir_I M 100 6 = nI n := ⟨h.2.2.2.2.1, q_gpV h.1 rfl h.2.2.2.2.1 rfl, h.2.2.2.2.2.1⟩
/-- blanks -/
theorem c_bk : ∀ (f p : Nat) {M : ir_M}, c_tx B n L xs M → p + f = n → ir_I M 100 7 = nI p → ∃ M', v_X4_next_0 d 100 M = v_X4_next_52 d 100 M' ∧ q_eq [100] M M' ∧ (∀ k, k ≠ 7 → ir_I M' 100 k = ir_I M 100 k) ∧ ir_I M' 100 7 = nI (k_sk B f p)
  | 0, p, M, h, hp, h7 => by
    have := h.2.1
    refine ⟨M, ?_, q_eq.rf _ _, fun _ _ => rfl, h7⟩
    rw [L_X4_next_0]
    simp (disch := omega) only [q_ckt, q_lt, q_cI, q_cJ, q_cV, q_cP, q_xI, q_xV, q_xP, q_xJ, g_gk, g_ga, g_gw, g_gp, g_gq, g_P, g_J, q_I_s, q_I_n, q_I_k, nI_add, pk_sub, pk_mul, nI_clamp, n_lt0, n_0lt, n_eq0, n_lt, n_le, n_eq, n_m1, n_m2, n_m9, n_12, n_19, n_10, n_01, n_1n1, n_0n1, n_1n0, n_0n0, n_dI, n_m1lt, q_inb, n_nar, n_nar0, n_nar1, n_bool, Bool.false_eq_true, Bool.true_eq_false, if_true, if_false, ↓reduceIte, Nat.reduceAdd, Nat.reduceMul, Nat.reduceSub, Nat.reduceLT, Nat.reduceLeDiff, Nat.reduceEqDiff, Nat.reduceMod, Nat.reduceDiv, q_D h.1, h7, c_txg h, show ¬ p < n by omega]
  | f + 1, p, M, h, hp, h7 => by
    have h900 := h.2.1
    obtain ⟨b1, b2⟩ := h.2.2.1 p (by omega)
    unfold k_sk
    have stp : (B p = 10 ∨ B p = 32) → v_X4_next_0 d 100 M = v_X4_next_0 d 100 (ir_sI M 100 7 (nI (p + 1))) := fun q => by
      rw [n_by1 (B p) (by omega)] at b2
      rcases q with e | e
      · rw [L_X4_next_0]
        simp (disch := omega) only [q_ckt, q_lt, q_cI, q_cJ, q_cV, q_cP, q_xI, q_xV, q_xP, q_xJ, g_gk, g_ga, g_gw, g_gp, g_gq, g_P, g_J, q_I_s, q_I_n, q_I_k, nI_add, pk_sub, pk_mul, nI_clamp, n_lt0, n_0lt, n_eq0, n_lt, n_le, n_eq, n_m1, n_m2, n_m9, n_12, n_19, n_10, n_01, n_1n1, n_0n1, n_1n0, n_0n0, n_dI, n_m1lt, q_inb, n_nar, n_nar0, n_nar1, n_bool, Bool.false_eq_true, Bool.true_eq_false, if_true, if_false, ↓reduceIte, Nat.reduceAdd, Nat.reduceMul, Nat.reduceSub, Nat.reduceLT, Nat.reduceLeDiff, Nat.reduceEqDiff, Nat.reduceMod, Nat.reduceDiv, q_D h.1, h7, c_txg h, show p < n by omega, q_W h.1, Bool.true_or, b2, e, L_X4_next_39]
      · rw [L_X4_next_0]
        simp (disch := omega) only [q_ckt, q_lt, q_cI, q_cJ, q_cV, q_cP, q_xI, q_xV, q_xP, q_xJ, g_gk, g_ga, g_gw, g_gp, g_gq, g_P, g_J, q_I_s, q_I_n, q_I_k, nI_add, pk_sub, pk_mul, nI_clamp, n_lt0, n_0lt, n_eq0, n_lt, n_le, n_eq, n_m1, n_m2, n_m9, n_12, n_19, n_10, n_01, n_1n1, n_0n1, n_1n0, n_0n0, n_dI, n_m1lt, q_inb, n_nar, n_nar0, n_nar1, n_bool, Bool.false_eq_true, Bool.true_eq_false, if_true, if_false, ↓reduceIte, Nat.reduceAdd, Nat.reduceMul, Nat.reduceSub, Nat.reduceLT, Nat.reduceLeDiff, Nat.reduceEqDiff, Nat.reduceMod, Nat.reduceDiv, q_D h.1, h7, c_txg h, show p < n by omega, q_W h.1, Bool.true_or, b2, e, L_X4_next_39]
    by_cases q : B p = 10 ∨ B p = 32
    · rw [if_pos q]
      have q1 : q_eq [100] M (ir_sI M 100 7 (nI (p + 1))) := q_eq.sI (by decide)
      obtain ⟨M', e', q', k', r'⟩ := c_bk f (p + 1) (c_tx_eq h q1 (by decide) (q_I_k (by decide))) (by omega) q_I_s
      exact ⟨M', (stp q).trans e', q1.tr q', fun k hk => (k' k hk).trans (q_I_k hk), r'⟩
    · rw [if_neg q]
      refine ⟨M, ?_, q_eq.rf _ _, fun _ _ => rfl, h7⟩
      rw [L_X4_next_0]
      by_cases c : B p < 128
      · rw [n_by1 _ c] at b2
        simp (disch := omega) only [q_ckt, q_lt, q_cI, q_cJ, q_cV, q_cP, q_xI, q_xV, q_xP, q_xJ, g_gk, g_ga, g_gw, g_gp, g_gq, g_P, g_J, q_I_s, q_I_n, q_I_k, nI_add, pk_sub, pk_mul, nI_clamp, n_lt0, n_0lt, n_eq0, n_lt, n_le, n_eq, n_m1, n_m2, n_m9, n_12, n_19, n_10, n_01, n_1n1, n_0n1, n_1n0, n_0n0, n_dI, n_m1lt, q_inb, n_nar, n_nar0, n_nar1, n_bool, Bool.false_eq_true, Bool.true_eq_false, if_true, if_false, ↓reduceIte, Nat.reduceAdd, Nat.reduceMul, Nat.reduceSub, Nat.reduceLT, Nat.reduceLeDiff, Nat.reduceEqDiff, Nat.reduceMod, Nat.reduceDiv, q_D h.1, h7, c_txg h, show p < n by omega, q_W h.1, Bool.true_or, b2, show ¬ B p = 10 by omega, show ¬ B p = 32 by omega]
      · obtain ⟨c1, c2, c3, c4⟩ := n_by2 (B p) b1 (by omega)
        rw [← b2] at c3 c4
        simp (disch := omega) only [q_ckt, q_lt, q_cI, q_cJ, q_cV, q_cP, q_xI, q_xV, q_xP, q_xJ, g_gk, g_ga, g_gw, g_gp, g_gq, g_P, g_J, q_I_s, q_I_n, q_I_k, nI_add, pk_sub, pk_mul, nI_clamp, n_lt0, n_0lt, n_eq0, n_lt, n_le, n_eq, n_m1, n_m2, n_m9, n_12, n_19, n_10, n_01, n_1n1, n_0n1, n_1n0, n_0n0, n_dI, n_m1lt, q_inb, n_nar, n_nar0, n_nar1, n_bool, Bool.false_eq_true, Bool.true_eq_false, if_true, if_false, ↓reduceIte, Nat.reduceAdd, Nat.reduceMul, Nat.reduceSub, Nat.reduceLT, Nat.reduceLeDiff, Nat.reduceEqDiff, Nat.reduceMod, Nat.reduceDiv, q_D h.1, h7, c_txg h, show p < n by omega, q_W h.1, Bool.true_or, c3, c4]
/-- digits -/
theorem c_dgl (s : Nat) : ∀ (f q : Nat) {M : ir_M}, c_tx B n L xs M → q + f = n → s ≤ q → (∀ i, s ≤ i → i < q → k_dg (B i) = true) → ir_I M 100 7 = nI q → ir_I M 100 9 = nI s → ir_I M 100 10 = nI (k_nv B s (min (q - s) 3)) → ∃ M', v_X4_nextNumber_5 d 100 M = v_X4_nextNumber_94 d 100 M' ∧ q_eq [100] M M' ∧ (∀ k, k ≠ 7 → k ≠ 10 → ir_I M' 100 k = ir_I M 100 k) ∧ ir_I M' 100 7 = nI (k_run k_dg B f q) ∧ ir_I M' 100 10 = nI (k_nv B s (min (k_run k_dg B f q - s) 3))
  | 0, q, M, h, hq, hs, hd, h7, h9, h10 => by
    have := h.2.1
    refine ⟨M, ?_, q_eq.rf _ _, fun _ _ _ => rfl, h7, h10⟩
    rw [L_X4_nextNumber_5]
    simp (disch := omega) only [q_ckt, q_lt, q_cI, q_cJ, q_cV, q_cP, q_xI, q_xV, q_xP, q_xJ, g_gk, g_ga, g_gw, g_gp, g_gq, g_P, g_J, q_I_s, q_I_n, q_I_k, nI_add, pk_sub, pk_mul, nI_clamp, n_lt0, n_0lt, n_eq0, n_lt, n_le, n_eq, n_m1, n_m2, n_m9, n_12, n_19, n_10, n_01, n_1n1, n_0n1, n_1n0, n_0n0, n_dI, n_m1lt, q_inb, n_nar, n_nar0, n_nar1, n_bool, Bool.false_eq_true, Bool.true_eq_false, if_true, if_false, ↓reduceIte, Nat.reduceAdd, Nat.reduceMul, Nat.reduceSub, Nat.reduceLT, Nat.reduceLeDiff, Nat.reduceEqDiff, Nat.reduceMod, Nat.reduceDiv, q_D h.1, h7, c_txg h, show ¬ q < n by omega]
  | f + 1, q, M, h, hq, hs, hd, h7, h9, h10 => by
    have h900 := h.2.1
    obtain ⟨b1, b2⟩ := h.2.2.1 q (by omega)
    unfold k_run
    by_cases c : k_dg (B q) = true
    · rw [if_pos c]
      have hd2 := of_decide_eq_true c
      rw [n_by1 (B q) (by omega)] at b2
      by_cases c3 : q - s < 3
      · have nl := k_nv_lt (B := B) (s := s) (q - s) (fun i hi => hd (s + i) (by omega) (by omega))
        have n100 : k_nv B s (q - s) < 100 := by
          have : (10 : Nat) ^ (q - s) ≤ 10 ^ 2 := Nat.pow_le_pow_right (by decide) (by omega)
          have : (10 : Nat) ^ 2 = 100 := by decide
          omega
        rw [Nat.min_eq_left (by omega)] at h10
        obtain ⟨M1, e1⟩ : ∃ N, N = ir_sI (ir_sI M 100 10 (nI (10 * k_nv B s (q - s) + B q - 48))) 100 7 (nI (q + 1)) := ⟨_, rfl⟩
        have q1 : q_eq [100] M M1 := by rw [e1]; exact (q_eq.sI (by decide)).tr (q_eq.sI (by decide))
        obtain ⟨M', e', q', k', r1, r2⟩ := c_dgl s f (q + 1) (M := M1) (c_tx_eq h q1 (by decide) (by rw [e1, q_I_k (by decide), q_I_k (by decide)])) (by omega) (by omega) (fun i h1 h2 => by
          by_cases z : i = q
          · rw [z]; exact c
          · exact hd i h1 (by omega)) (by rw [e1, q_I_s]) (by rw [e1, q_I_k (by decide), q_I_k (by decide)]; exact h9) (by
          rw [e1, q_I_k (by decide), q_I_s, Nat.min_eq_left (by omega), show q + 1 - s = (q - s) + 1 by omega]
          show _ = nI (10 * k_nv B s (q - s) + (B (s + (q - s)) - 48))
          rw [show s + (q - s) = q by omega, show 10 * k_nv B s (q - s) + B q - 48 = 10 * k_nv B s (q - s) + (B q - 48) by omega])
        refine ⟨M', ?_, q1.tr q', fun k h1 h2 => by rw [k' k h1 h2, e1, q_I_k h1, q_I_k h2], r1, r2⟩
        rw [← e', L_X4_nextNumber_5, e1]
        simp (disch := omega) only [q_ckt, q_lt, q_cI, q_cJ, q_cV, q_cP, q_xI, q_xV, q_xP, q_xJ, g_gk, g_ga, g_gw, g_gp, g_gq, g_P, g_J, q_I_s, q_I_n, q_I_k, nI_add, pk_sub, pk_mul, nI_clamp, n_lt0, n_0lt, n_eq0, n_lt, n_le, n_eq, n_m1, n_m2, n_m9, n_12, n_19, n_10, n_01, n_1n1, n_0n1, n_1n0, n_0n0, n_dI, n_m1lt, q_inb, n_nar, n_nar0, n_nar1, n_bool, Bool.false_eq_true, Bool.true_eq_false, if_true, if_false, ↓reduceIte, Nat.reduceAdd, Nat.reduceMul, Nat.reduceSub, Nat.reduceLT, Nat.reduceLeDiff, Nat.reduceEqDiff, Nat.reduceMod, Nat.reduceDiv, q_D h.1, h7, c_txg h, show q < n by omega, q_W h.1, Bool.true_or, b2, show ¬ B q < 48 by omega, show ¬ 57 < B q by omega, h9, c3, h10, L_X4_nextNumber_81]
      · rw [Nat.min_eq_right (by omega)] at h10
        obtain ⟨M1, e1⟩ : ∃ N, N = ir_sI M 100 7 (nI (q + 1)) := ⟨_, rfl⟩
        have q1 : q_eq [100] M M1 := by rw [e1]; exact q_eq.sI (by decide)
        obtain ⟨M', e', q', k', r1, r2⟩ := c_dgl s f (q + 1) (M := M1) (c_tx_eq h q1 (by decide) (by rw [e1, q_I_k (by decide)])) (by omega) (by omega) (fun i h1 h2 => by
          by_cases z : i = q
          · rw [z]; exact c
          · exact hd i h1 (by omega)) (by rw [e1, q_I_s]) (by rw [e1, q_I_k (by decide)]; exact h9) (by
          rw [e1, q_I_k (by decide), Nat.min_eq_right (by omega)]; exact h10)
        refine ⟨M', ?_, q1.tr q', fun k h1 h2 => by rw [k' k h1 h2, e1, q_I_k h1], r1, r2⟩
        rw [← e', L_X4_nextNumber_5, e1]
        simp (disch := omega) only [q_ckt, q_lt, q_cI, q_cJ, q_cV, q_cP, q_xI, q_xV, q_xP, q_xJ, g_gk, g_ga, g_gw, g_gp, g_gq, g_P, g_J, q_I_s, q_I_n, q_I_k, nI_add, pk_sub, pk_mul, nI_clamp, n_lt0, n_0lt, n_eq0, n_lt, n_le, n_eq, n_m1, n_m2, n_m9, n_12, n_19, n_10, n_01, n_1n1, n_0n1, n_1n0, n_0n0, n_dI, n_m1lt, q_inb, n_nar, n_nar0, n_nar1, n_bool, Bool.false_eq_true, Bool.true_eq_false, if_true, if_false, ↓reduceIte, Nat.reduceAdd, Nat.reduceMul, Nat.reduceSub, Nat.reduceLT, Nat.reduceLeDiff, Nat.reduceEqDiff, Nat.reduceMod, Nat.reduceDiv, q_D h.1, h7, c_txg h, show q < n by omega, q_W h.1, Bool.true_or, b2, show ¬ B q < 48 by omega, show ¬ 57 < B q by omega, h9, c3, L_X4_nextNumber_81]
    · rw [if_neg c]
      refine ⟨M, ?_, q_eq.rf _ _, fun _ _ _ => rfl, h7, h10⟩
      have hd2 : ¬ (48 ≤ B q ∧ B q ≤ 57) := fun z => c (decide_eq_true z)
      rw [L_X4_nextNumber_5]
      by_cases c1 : B q < 128
      · rw [n_by1 _ c1] at b2
        by_cases c2 : B q < 48
        · simp (disch := omega) only [q_ckt, q_lt, q_cI, q_cJ, q_cV, q_cP, q_xI, q_xV, q_xP, q_xJ, g_gk, g_ga, g_gw, g_gp, g_gq, g_P, g_J, q_I_s, q_I_n, q_I_k, nI_add, pk_sub, pk_mul, nI_clamp, n_lt0, n_0lt, n_eq0, n_lt, n_le, n_eq, n_m1, n_m2, n_m9, n_12, n_19, n_10, n_01, n_1n1, n_0n1, n_1n0, n_0n0, n_dI, n_m1lt, q_inb, n_nar, n_nar0, n_nar1, n_bool, Bool.false_eq_true, Bool.true_eq_false, if_true, if_false, ↓reduceIte, Nat.reduceAdd, Nat.reduceMul, Nat.reduceSub, Nat.reduceLT, Nat.reduceLeDiff, Nat.reduceEqDiff, Nat.reduceMod, Nat.reduceDiv, q_D h.1, h7, c_txg h, show q < n by omega, q_W h.1, Bool.true_or, b2, c2]
        · simp (disch := omega) only [q_ckt, q_lt, q_cI, q_cJ, q_cV, q_cP, q_xI, q_xV, q_xP, q_xJ, g_gk, g_ga, g_gw, g_gp, g_gq, g_P, g_J, q_I_s, q_I_n, q_I_k, nI_add, pk_sub, pk_mul, nI_clamp, n_lt0, n_0lt, n_eq0, n_lt, n_le, n_eq, n_m1, n_m2, n_m9, n_12, n_19, n_10, n_01, n_1n1, n_0n1, n_1n0, n_0n0, n_dI, n_m1lt, q_inb, n_nar, n_nar0, n_nar1, n_bool, Bool.false_eq_true, Bool.true_eq_false, if_true, if_false, ↓reduceIte, Nat.reduceAdd, Nat.reduceMul, Nat.reduceSub, Nat.reduceLT, Nat.reduceLeDiff, Nat.reduceEqDiff, Nat.reduceMod, Nat.reduceDiv, q_D h.1, h7, c_txg h, show q < n by omega, q_W h.1, Bool.true_or, b2, c2, show 57 < B q by omega]
      · obtain ⟨z1, -, -, -⟩ := n_by2 (B q) b1 (by omega)
        rw [← b2] at z1
        simp (disch := omega) only [q_ckt, q_lt, q_cI, q_cJ, q_cV, q_cP, q_xI, q_xV, q_xP, q_xJ, g_gk, g_ga, g_gw, g_gp, g_gq, g_P, g_J, q_I_s, q_I_n, q_I_k, nI_add, pk_sub, pk_mul, nI_clamp, n_lt0, n_0lt, n_eq0, n_lt, n_le, n_eq, n_m1, n_m2, n_m9, n_12, n_19, n_10, n_01, n_1n1, n_0n1, n_1n0, n_0n0, n_dI, n_m1lt, q_inb, n_nar, n_nar0, n_nar1, n_bool, Bool.false_eq_true, Bool.true_eq_false, if_true, if_false, ↓reduceIte, Nat.reduceAdd, Nat.reduceMul, Nat.reduceSub, Nat.reduceLT, Nat.reduceLeDiff, Nat.reduceEqDiff, Nat.reduceMod, Nat.reduceDiv, q_D h.1, h7, c_txg h, show q < n by omega, q_W h.1, Bool.true_or, z1]
/-- letters -/
theorem c_ltl : ∀ (f q : Nat) {M : ir_M}, c_tx B n L xs M → q + f = n → ir_I M 100 7 = nI q → ∃ M', v_X4_nextWord_0 d 100 M = v_X4_nextWord_52 d 100 M' ∧ q_eq [100] M M' ∧ (∀ k, k ≠ 7 → ir_I M' 100 k = ir_I M 100 k) ∧ ir_I M' 100 7 = nI (k_run k_ltr B f q)
  | 0, q, M, h, hq, h7 => by
    have := h.2.1
    refine ⟨M, ?_, q_eq.rf _ _, fun _ _ => rfl, h7⟩
    rw [L_X4_nextWord_0]
    simp (disch := omega) only [q_ckt, q_lt, q_cI, q_cJ, q_cV, q_cP, q_xI, q_xV, q_xP, q_xJ, g_gk, g_ga, g_gw, g_gp, g_gq, g_P, g_J, q_I_s, q_I_n, q_I_k, nI_add, pk_sub, pk_mul, nI_clamp, n_lt0, n_0lt, n_eq0, n_lt, n_le, n_eq, n_m1, n_m2, n_m9, n_12, n_19, n_10, n_01, n_1n1, n_0n1, n_1n0, n_0n0, n_dI, n_m1lt, q_inb, n_nar, n_nar0, n_nar1, n_bool, Bool.false_eq_true, Bool.true_eq_false, if_true, if_false, ↓reduceIte, Nat.reduceAdd, Nat.reduceMul, Nat.reduceSub, Nat.reduceLT, Nat.reduceLeDiff, Nat.reduceEqDiff, Nat.reduceMod, Nat.reduceDiv, q_D h.1, h7, c_txg h, show ¬ q < n by omega]
  | f + 1, q, M, h, hq, h7 => by
    have h900 := h.2.1
    obtain ⟨b1, b2⟩ := h.2.2.1 q (by omega)
    unfold k_run
    by_cases c : k_ltr (B q) = true
    · rw [if_pos c]
      have hd2 := of_decide_eq_true c
      rw [n_by1 (B q) (by omega)] at b2
      have q1 : q_eq [100] M (ir_sI M 100 7 (nI (q + 1))) := q_eq.sI (by decide)
      obtain ⟨M', e', q', k', r'⟩ := c_ltl f (q + 1) (c_tx_eq h q1 (by decide) (q_I_k (by decide))) (by omega) q_I_s
      refine ⟨M', ?_, q1.tr q', fun k hk => (k' k hk).trans (q_I_k hk), r'⟩
      rw [← e', L_X4_nextWord_0]
      simp (disch := omega) only [q_ckt, q_lt, q_cI, q_cJ, q_cV, q_cP, q_xI, q_xV, q_xP, q_xJ, g_gk, g_ga, g_gw, g_gp, g_gq, g_P, g_J, q_I_s, q_I_n, q_I_k, nI_add, pk_sub, pk_mul, nI_clamp, n_lt0, n_0lt, n_eq0, n_lt, n_le, n_eq, n_m1, n_m2, n_m9, n_12, n_19, n_10, n_01, n_1n1, n_0n1, n_1n0, n_0n0, n_dI, n_m1lt, q_inb, n_nar, n_nar0, n_nar1, n_bool, Bool.false_eq_true, Bool.true_eq_false, if_true, if_false, ↓reduceIte, Nat.reduceAdd, Nat.reduceMul, Nat.reduceSub, Nat.reduceLT, Nat.reduceLeDiff, Nat.reduceEqDiff, Nat.reduceMod, Nat.reduceDiv, q_D h.1, h7, c_txg h, show q < n by omega, q_W h.1, Bool.true_or, b2, show ¬ B q < 97 by omega, show ¬ 122 < B q by omega]
    · rw [if_neg c]
      refine ⟨M, ?_, q_eq.rf _ _, fun _ _ => rfl, h7⟩
      have hd2 : ¬ (97 ≤ B q ∧ B q ≤ 122) := fun z => c (decide_eq_true z)
      rw [L_X4_nextWord_0]
      by_cases c1 : B q < 128
      · rw [n_by1 _ c1] at b2
        by_cases c2 : B q < 97
        · simp (disch := omega) only [q_ckt, q_lt, q_cI, q_cJ, q_cV, q_cP, q_xI, q_xV, q_xP, q_xJ, g_gk, g_ga, g_gw, g_gp, g_gq, g_P, g_J, q_I_s, q_I_n, q_I_k, nI_add, pk_sub, pk_mul, nI_clamp, n_lt0, n_0lt, n_eq0, n_lt, n_le, n_eq, n_m1, n_m2, n_m9, n_12, n_19, n_10, n_01, n_1n1, n_0n1, n_1n0, n_0n0, n_dI, n_m1lt, q_inb, n_nar, n_nar0, n_nar1, n_bool, Bool.false_eq_true, Bool.true_eq_false, if_true, if_false, ↓reduceIte, Nat.reduceAdd, Nat.reduceMul, Nat.reduceSub, Nat.reduceLT, Nat.reduceLeDiff, Nat.reduceEqDiff, Nat.reduceMod, Nat.reduceDiv, q_D h.1, h7, c_txg h, show q < n by omega, q_W h.1, Bool.true_or, b2, c2]
        · simp (disch := omega) only [q_ckt, q_lt, q_cI, q_cJ, q_cV, q_cP, q_xI, q_xV, q_xP, q_xJ, g_gk, g_ga, g_gw, g_gp, g_gq, g_P, g_J, q_I_s, q_I_n, q_I_k, nI_add, pk_sub, pk_mul, nI_clamp, n_lt0, n_0lt, n_eq0, n_lt, n_le, n_eq, n_m1, n_m2, n_m9, n_12, n_19, n_10, n_01, n_1n1, n_0n1, n_1n0, n_0n0, n_dI, n_m1lt, q_inb, n_nar, n_nar0, n_nar1, n_bool, Bool.false_eq_true, Bool.true_eq_false, if_true, if_false, ↓reduceIte, Nat.reduceAdd, Nat.reduceMul, Nat.reduceSub, Nat.reduceLT, Nat.reduceLeDiff, Nat.reduceEqDiff, Nat.reduceMod, Nat.reduceDiv, q_D h.1, h7, c_txg h, show q < n by omega, q_W h.1, Bool.true_or, b2, c2, show 122 < B q by omega]
      · obtain ⟨-, z1, -, -⟩ := n_by2 (B q) b1 (by omega)
        rw [← b2] at z1
        simp (disch := omega) only [q_ckt, q_lt, q_cI, q_cJ, q_cV, q_cP, q_xI, q_xV, q_xP, q_xJ, g_gk, g_ga, g_gw, g_gp, g_gq, g_P, g_J, q_I_s, q_I_n, q_I_k, nI_add, pk_sub, pk_mul, nI_clamp, n_lt0, n_0lt, n_eq0, n_lt, n_le, n_eq, n_m1, n_m2, n_m9, n_12, n_19, n_10, n_01, n_1n1, n_0n1, n_1n0, n_0n0, n_dI, n_m1lt, q_inb, n_nar, n_nar0, n_nar1, n_bool, Bool.false_eq_true, Bool.true_eq_false, if_true, if_false, ↓reduceIte, Nat.reduceAdd, Nat.reduceMul, Nat.reduceSub, Nat.reduceLT, Nat.reduceLeDiff, Nat.reduceEqDiff, Nat.reduceMod, Nat.reduceDiv, q_D h.1, h7, c_txg h, show q < n by omega, q_W h.1, Bool.true_or, z1]
/-- along the words -/
theorem c_wds {s e : Nat} (hse : s ≤ e) (hen : e ≤ n) (hlt : ∀ i, s ≤ i → i < e → k_ltr (B i) = true) : ∀ (r : List Nat) (i W : Nat) (sm : Option Nat) (kd : Nat) {M : ir_M}, c_tx B n L xs M → i + r.length = 118 → (∀ j, j < r.length → ir_I M 115 (i + j) = nI (r.getD j 0) ∧ r.getD j 0 < 128) → W + 118 < 1000 + i → kd < 1000 → (∀ x, sm = some x → x ≤ e - s) → ir_I M 100 7 = nI e → ir_I M 100 9 = nI s → ir_I M 100 8 = nI kd → ∃ M', v_X4_nextWord_65 d 100 (nI W) (k_on sm) (nI i) M = ir_oV M' ∧ q_eq [100] M M' ∧ (∀ k, k ≠ 8 → ir_I M' 100 k = ir_I M 100 k) ∧ ir_I M' 100 8 = nI (k_wmt B s e r W sm kd)
  | [], i, W, sm, kd, M, h, hi, hr, hW, hkd, hsm, h7, h9, h8 => by
    have hi' : i = 118 := by have : i + 0 = 118 := hi; omega
    have ln : ir_ln M 115 = 118 := by rw [q_ln_eq (by decide)]; rfl
    have gl : ir_gl M 115 = true := q_gl0 h.1 rfl
    refine ⟨M, ?_, q_eq.rf _ _, fun _ _ => rfl, h8⟩
    rw [L_X4_nextWord_65, hi']
    simp (disch := omega) only [q_ckt, q_lt, q_cI, q_cJ, q_cV, q_cP, q_xI, q_xV, q_xP, q_xJ, g_gk, g_ga, g_gw, g_gp, g_gq, g_P, g_J, q_I_s, q_I_n, q_I_k, nI_add, pk_sub, pk_mul, nI_clamp, n_lt0, n_0lt, n_eq0, n_lt, n_le, n_eq, n_m1, n_m2, n_m9, n_12, n_19, n_10, n_01, n_1n1, n_0n1, n_1n0, n_0n0, n_dI, n_m1lt, q_inb, n_nar, n_nar0, n_nar1, n_bool, Bool.false_eq_true, Bool.true_eq_false, if_true, if_false, ↓reduceIte, Nat.reduceAdd, Nat.reduceMul, Nat.reduceSub, Nat.reduceLT, Nat.reduceLeDiff, Nat.reduceEqDiff, Nat.reduceMod, Nat.reduceDiv, q_D h.1, gl, ln, show Int32.ofNat 118 = nI 118 from rfl]
  | c :: r, i, W, sm, kd, M, h, hi, hr, hW, hkd, hsm, h7, h9, h8 => by
    have h900 := h.2.1
    have hi' : i + (r.length + 1) = 118 := hi
    obtain ⟨c0, c128⟩ := hr 0 (by show 0 < r.length + 1; omega)
    have c0' : ir_I M 115 i = nI c := c0
    have c128' : c < 128 := c128
    have ln : ir_ln M 115 = 118 := by rw [q_ln_eq (by decide)]; rfl
    have gl : ir_gl M 115 = true := q_gl0 h.1 rfl
    have hr' : ∀ j, j < r.length → ir_I M 115 (i + 1 + j) = nI (r.getD j 0) ∧ r.getD j 0 < 128 := fun j hj => by
      have := hr (j + 1) (by show j + 1 < r.length + 1; omega)
      rw [show i + (j + 1) = i + 1 + j by omega] at this
      exact this
    unfold k_wmt
    by_cases q32 : c = 32
    · rw [if_pos q32]
      by_cases qm : sm = some (e - s)
      · rw [if_pos qm]
        have q1 : q_eq [100] M (ir_sI M 100 8 (nI W)) := q_eq.sI (by decide)
        obtain ⟨M', e', q', k', r'⟩ := c_wds hse hen hlt r (i + 1) (W + 1) (some 0) W (c_tx_eq h q1 (by decide) (q_I_k (by decide))) (by omega) (fun j hj => by rw [q_I_n (by decide)]; exact hr' j hj) (by omega) (by omega) (fun x hx => by cases hx; omega) (by rw [q_I_k (by decide)]; exact h7) (by rw [q_I_k (by decide)]; exact h9) q_I_s
        refine ⟨M', ?_, q1.tr q', fun k hk => (k' k hk).trans (q_I_k hk), r'⟩
        rw [← e', L_X4_nextWord_65, qm]
        simp (disch := omega) only [q_ckt, q_lt, q_cI, q_cJ, q_cV, q_cP, q_xI, q_xV, q_xP, q_xJ, g_gk, g_ga, g_gw, g_gp, g_gq, g_P, g_J, q_I_s, q_I_n, q_I_k, nI_add, pk_sub, pk_mul, nI_clamp, n_lt0, n_0lt, n_eq0, n_lt, n_le, n_eq, n_m1, n_m2, n_m9, n_12, n_19, n_10, n_01, n_1n1, n_0n1, n_1n0, n_0n0, n_dI, n_m1lt, q_inb, n_nar, n_nar0, n_nar1, n_bool, Bool.false_eq_true, Bool.true_eq_false, if_true, if_false, ↓reduceIte, Nat.reduceAdd, Nat.reduceMul, Nat.reduceSub, Nat.reduceLT, Nat.reduceLeDiff, Nat.reduceEqDiff, Nat.reduceMod, Nat.reduceDiv, q_D h.1, gl, ln, show Int32.ofNat 118 = nI 118 from rfl, show i < 118 by omega, c0', q32, k_on, h7, h9]
      · rw [if_neg qm]
        obtain ⟨M', e', q', k', r'⟩ := c_wds hse hen hlt r (i + 1) (W + 1) (some 0) kd h (by omega) hr' (by omega) hkd (fun x hx => by cases hx; omega) h7 h9 h8
        refine ⟨M', ?_, q', k', r'⟩
        rw [← e', L_X4_nextWord_65]
        cases sm with
        | none =>
          have z : ¬ (-1 : Int32) = nI (e - s) := fun w => n_m (k := 1) (by decide +kernel) (by decide) (by omega) w.symm
          simp (disch := omega) only [q_ckt, q_lt, q_cI, q_cJ, q_cV, q_cP, q_xI, q_xV, q_xP, q_xJ, g_gk, g_ga, g_gw, g_gp, g_gq, g_P, g_J, q_I_s, q_I_n, q_I_k, nI_add, pk_sub, pk_mul, nI_clamp, n_lt0, n_0lt, n_eq0, n_lt, n_le, n_eq, n_m1, n_m2, n_m9, n_12, n_19, n_10, n_01, n_1n1, n_0n1, n_1n0, n_0n0, n_dI, n_m1lt, q_inb, n_nar, n_nar0, n_nar1, n_bool, Bool.false_eq_true, Bool.true_eq_false, if_true, if_false, ↓reduceIte, Nat.reduceAdd, Nat.reduceMul, Nat.reduceSub, Nat.reduceLT, Nat.reduceLeDiff, Nat.reduceEqDiff, Nat.reduceMod, Nat.reduceDiv, q_D h.1, gl, ln, show Int32.ofNat 118 = nI 118 from rfl, show i < 118 by omega, c0', q32, k_on, h7, h9, z]
        | some x =>
          have hx := hsm x rfl
          have z : ¬ x = e - s := fun w => qm (by rw [w])
          simp (disch := omega) only [q_ckt, q_lt, q_cI, q_cJ, q_cV, q_cP, q_xI, q_xV, q_xP, q_xJ, g_gk, g_ga, g_gw, g_gp, g_gq, g_P, g_J, q_I_s, q_I_n, q_I_k, nI_add, pk_sub, pk_mul, nI_clamp, n_lt0, n_0lt, n_eq0, n_lt, n_le, n_eq, n_m1, n_m2, n_m9, n_12, n_19, n_10, n_01, n_1n1, n_0n1, n_1n0, n_0n0, n_dI, n_m1lt, q_inb, n_nar, n_nar0, n_nar1, n_bool, Bool.false_eq_true, Bool.true_eq_false, if_true, if_false, ↓reduceIte, Nat.reduceAdd, Nat.reduceMul, Nat.reduceSub, Nat.reduceLT, Nat.reduceLeDiff, Nat.reduceEqDiff, Nat.reduceMod, Nat.reduceDiv, q_D h.1, gl, ln, show Int32.ofNat 118 = nI 118 from rfl, show i < 118 by omega, c0', q32, k_on, h7, h9, z]
    · rw [if_neg q32]
      cases sm with
      | none =>
        obtain ⟨M', e', q', k', r'⟩ := c_wds hse hen hlt r (i + 1) W none kd h (by omega) hr' (by omega) hkd (fun x hx => nomatch hx) h7 h9 h8
        refine ⟨M', ?_, q', k', r'⟩
        rw [← e', L_X4_nextWord_65]
        simp (disch := omega) only [q_ckt, q_lt, q_cI, q_cJ, q_cV, q_cP, q_xI, q_xV, q_xP, q_xJ, g_gk, g_ga, g_gw, g_gp, g_gq, g_P, g_J, q_I_s, q_I_n, q_I_k, nI_add, pk_sub, pk_mul, nI_clamp, n_lt0, n_0lt, n_eq0, n_lt, n_le, n_eq, n_m1, n_m2, n_m9, n_12, n_19, n_10, n_01, n_1n1, n_0n1, n_1n0, n_0n0, n_dI, n_m1lt, q_inb, n_nar, n_nar0, n_nar1, n_bool, Bool.false_eq_true, Bool.true_eq_false, if_true, if_false, ↓reduceIte, Nat.reduceAdd, Nat.reduceMul, Nat.reduceSub, Nat.reduceLT, Nat.reduceLeDiff, Nat.reduceEqDiff, Nat.reduceMod, Nat.reduceDiv, q_D h.1, gl, ln, show Int32.ofNat 118 = nI 118 from rfl, show i < 118 by omega, c0', q32, k_on]
      | some x =>
        have hx := hsm x rfl
        dsimp only
        by_cases qx : x < e - s ∧ B (s + x) = c
        · rw [if_pos qx]
          obtain ⟨b1, b2⟩ := h.2.2.1 (s + x) (by omega)
          rw [n_by1 _ (by omega)] at b2
          obtain ⟨M', e', q', k', r'⟩ := c_wds hse hen hlt r (i + 1) W (some (x + 1)) kd h (by omega) hr' (by omega) hkd (fun y hy => by cases hy; omega) h7 h9 h8
          refine ⟨M', ?_, q', k', r'⟩
          rw [← e', L_X4_nextWord_65]
          simp (disch := omega) only [q_ckt, q_lt, q_cI, q_cJ, q_cV, q_cP, q_xI, q_xV, q_xP, q_xJ, g_gk, g_ga, g_gw, g_gp, g_gq, g_P, g_J, q_I_s, q_I_n, q_I_k, nI_add, pk_sub, pk_mul, nI_clamp, n_lt0, n_0lt, n_eq0, n_lt, n_le, n_eq, n_m1, n_m2, n_m9, n_12, n_19, n_10, n_01, n_1n1, n_0n1, n_1n0, n_0n0, n_dI, n_m1lt, q_inb, n_nar, n_nar0, n_nar1, n_bool, Bool.false_eq_true, Bool.true_eq_false, if_true, if_false, ↓reduceIte, Nat.reduceAdd, Nat.reduceMul, Nat.reduceSub, Nat.reduceLT, Nat.reduceLeDiff, Nat.reduceEqDiff, Nat.reduceMod, Nat.reduceDiv, q_D h.1, gl, ln, show Int32.ofNat 118 = nI 118 from rfl, show i < 118 by omega, c0', q32, k_on, h7, h9, qx.1, c_txg h, q_W h.1, Bool.true_or, b2, qx.2]
        · rw [if_neg qx]
          obtain ⟨M', e', q', k', r'⟩ := c_wds hse hen hlt r (i + 1) W none kd h (by omega) hr' (by omega) hkd (fun x hx => nomatch hx) h7 h9 h8
          refine ⟨M', ?_, q', k', r'⟩
          rw [← e', L_X4_nextWord_65]
          by_cases qx1 : x < e - s
          · obtain ⟨b1, b2⟩ := h.2.2.1 (s + x) (by omega)
            have lt := of_decide_eq_true (hlt (s + x) (by omega) (by omega))
            rw [n_by1 _ (by omega)] at b2
            have z : ¬ B (s + x) = c := fun w => qx ⟨qx1, w⟩
            simp (disch := omega) only [q_ckt, q_lt, q_cI, q_cJ, q_cV, q_cP, q_xI, q_xV, q_xP, q_xJ, g_gk, g_ga, g_gw, g_gp, g_gq, g_P, g_J, q_I_s, q_I_n, q_I_k, nI_add, pk_sub, pk_mul, nI_clamp, n_lt0, n_0lt, n_eq0, n_lt, n_le, n_eq, n_m1, n_m2, n_m9, n_12, n_19, n_10, n_01, n_1n1, n_0n1, n_1n0, n_0n0, n_dI, n_m1lt, q_inb, n_nar, n_nar0, n_nar1, n_bool, Bool.false_eq_true, Bool.true_eq_false, if_true, if_false, ↓reduceIte, Nat.reduceAdd, Nat.reduceMul, Nat.reduceSub, Nat.reduceLT, Nat.reduceLeDiff, Nat.reduceEqDiff, Nat.reduceMod, Nat.reduceDiv, q_D h.1, gl, ln, show Int32.ofNat 118 = nI 118 from rfl, show i < 118 by omega, c0', q32, k_on, h7, h9, qx1, c_txg h, q_W h.1, Bool.true_or, b2, z]
          · simp (disch := omega) only [q_ckt, q_lt, q_cI, q_cJ, q_cV, q_cP, q_xI, q_xV, q_xP, q_xJ, g_gk, g_ga, g_gw, g_gp, g_gq, g_P, g_J, q_I_s, q_I_n, q_I_k, nI_add, pk_sub, pk_mul, nI_clamp, n_lt0, n_0lt, n_eq0, n_lt, n_le, n_eq, n_m1, n_m2, n_m9, n_12, n_19, n_10, n_01, n_1n1, n_0n1, n_1n0, n_0n0, n_dI, n_m1lt, q_inb, n_nar, n_nar0, n_nar1, n_bool, Bool.false_eq_true, Bool.true_eq_false, if_true, if_false, ↓reduceIte, Nat.reduceAdd, Nat.reduceMul, Nat.reduceSub, Nat.reduceLT, Nat.reduceLeDiff, Nat.reduceEqDiff, Nat.reduceMod, Nat.reduceDiv, q_D h.1, gl, ln, show Int32.ofNat 118 = nI 118 from rfl, show i < 118 by omega, c0', q32, k_on, h7, h9, qx1]
end CN
