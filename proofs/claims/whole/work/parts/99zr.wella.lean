/-! THE WELL: a unit; the law, whole -/
section WU
variable {B : Nat → Nat} {n L : Nat} {xs : Nat → Int32} {M0 M : ir_M} {d dp s f p : Nat} {K : Nat → Int32}
theorem r_123F (h : r_F B n L xs M0 f p M) {v : Int32} (hd : 3 ≤ d) : v_X12_readUnit_123 d 412 v M = ir_oV M := by
  rw [L_X12_readUnit_123]
  by_cases c1 : v = nI 61
  · rw [c1]
    simp (disch := omega) only [q_ckt, q_lt, q_cI, q_cJ, q_cV, q_cP, q_xI, q_xV, q_xP, q_xJ, g_gk, g_ga, g_gw, g_gp, g_gq, g_P, g_J, q_I_s, q_I_n, q_I_k, nI_add, pk_sub, pk_mul, nI_clamp, n_lt0, n_0lt, n_eq0, n_lt, n_le, n_eq, n_m1, n_m2, n_m9, n_12, n_19, n_10, n_01, n_1n1, n_0n1, n_1n0, n_0n0, n_dI, n_m1lt, q_inb, n_nar, n_nar0, n_nar1, n_bool, Bool.false_eq_true, Bool.true_eq_false, if_true, if_false, ↓reduceIte, Nat.reduceAdd, Nat.reduceMul, Nat.reduceSub, Nat.reduceLT, Nat.reduceLeDiff, Nat.reduceEqDiff, Nat.reduceMod, Nat.reduceDiv, q_R h.1.1, r_sumF h hd, r_lyF h (v := nI 13) (show 1 ≤ d by omega)]
  · by_cases c2 : v = nI 60
    · rw [c2]
      simp (disch := omega) only [q_ckt, q_lt, q_cI, q_cJ, q_cV, q_cP, q_xI, q_xV, q_xP, q_xJ, g_gk, g_ga, g_gw, g_gp, g_gq, g_P, g_J, q_I_s, q_I_n, q_I_k, nI_add, pk_sub, pk_mul, nI_clamp, n_lt0, n_0lt, n_eq0, n_lt, n_le, n_eq, n_m1, n_m2, n_m9, n_12, n_19, n_10, n_01, n_1n1, n_0n1, n_1n0, n_0n0, n_dI, n_m1lt, q_inb, n_nar, n_nar0, n_nar1, n_bool, Bool.false_eq_true, Bool.true_eq_false, if_true, if_false, ↓reduceIte, Nat.reduceAdd, Nat.reduceMul, Nat.reduceSub, Nat.reduceLT, Nat.reduceLeDiff, Nat.reduceEqDiff, Nat.reduceMod, Nat.reduceDiv, q_R h.1.1, r_sumF h hd, r_lyF h (v := nI 14) (show 1 ≤ d by omega)]
    · simp (disch := omega) only [q_ckt, q_lt, q_cI, q_cJ, q_cV, q_cP, q_xI, q_xV, q_xP, q_xJ, g_gk, g_ga, g_gw, g_gp, g_gq, g_P, g_J, q_I_s, q_I_n, q_I_k, nI_add, pk_sub, pk_mul, nI_clamp, n_lt0, n_0lt, n_eq0, n_lt, n_le, n_eq, n_m1, n_m2, n_m9, n_12, n_19, n_10, n_01, n_1n1, n_0n1, n_1n0, n_0n0, n_dI, n_m1lt, q_inb, n_nar, n_nar0, n_nar1, n_bool, Bool.false_eq_true, Bool.true_eq_false, if_true, if_false, ↓reduceIte, Nat.reduceAdd, Nat.reduceMul, Nat.reduceSub, Nat.reduceLT, Nat.reduceLeDiff, Nat.reduceEqDiff, Nat.reduceMod, Nat.reduceDiv, q_R h.1.1, r_sumF h hd, c1, c2, r_lyF h (v := nI 15) (show 1 ≤ d by omega)]
/-- the join of a comparison -/
def k_jn (k : Nat) : Nat := if k = 61 then 13 else if k = 60 then 14 else 15
theorem w_Unit (h900 : n ≤ 900) (hdp : dp ≤ 6) (hR : dp < 6 → w_R B n L xs (dp + 1)) (hU : dp < 6 → w_U B n L xs (dp + 1)) (hS : w_S B n L xs dp) : w_U B n L xs dp := by
  intro s K c τ hs hL hc ht hb
  obtain ⟨b1, b2, b3, b4, b5, b6, b7, b8⟩ := k_nt_b (B := B) hs
  have wd : ∀ {M0 M d}, r_T B n L xs M0 dp s M → 6 ≤ d → m_X12_isWord d 412 1000047 M = ir_oI (if k_kd B n s = 267 then nI 1 else nI 0) M := fun {M0 M d} h hd => r_word (d := d) h (j := 11) (by decide) hd
  have sg : ∀ {M0 M d}, r_T B n L xs M0 dp s M → 1 ≤ d → m_X12_isSign d 412 (nI 91) M = ir_oI (if k_kd B n s = 91 then nI 1 else nI 0) M := fun {M0 M d} h hd => r_sign (d := d) h (c := 91) (by decide) hd
  by_cases q1 : (k_kd B n s = 267 ∨ k_kd B n s = 91) ∧ dp = 6
  · obtain ⟨q1, q2⟩ := q1
    have ef : k_fk (k_kd B n s) 4 = 4 := by unfold k_fk; rw [if_neg (by omega)]
    refine ⟨4, s, K, c, by decide, Nat.le_refl _, hs, (fun z => nomatch z), fun M0 M d hd hP => ?_, fun M0 M d hd hP => ?_⟩
    · obtain ⟨e, rfl⟩ : ∃ e, d = e + 1 := ⟨d - 1, by omega⟩
      obtain ⟨h6, h8, -, h300⟩ := c_hdr hP.1
      obtain ⟨M', e1, t1⟩ := c_ref (d := e) hP.1 (w := 4) (by decide) (by omega)
      rw [ef] at t1
      refine ⟨M', ?_, (fun z => nomatch z), fun _ => t1⟩
      dsimp only
      rw [E_X4_readUnit, k_1_n (by decide), q2]
      rcases q1 with q1 | q1
      · simp (disch := omega) only [q_ckt, q_lt, q_cI, q_cJ, q_cV, q_cP, q_xI, q_xV, q_xP, q_xJ, g_gk, g_ga, g_gw, g_gp, g_gq, g_P, g_J, q_I_s, q_I_n, q_I_k, nI_add, pk_sub, pk_mul, nI_clamp, n_lt0, n_0lt, n_eq0, n_lt, n_le, n_eq, n_m1, n_m2, n_m9, n_12, n_19, n_10, n_01, n_1n1, n_0n1, n_1n0, n_0n0, n_dI, n_m1lt, q_inb, n_nar, n_nar0, n_nar1, n_bool, Bool.false_eq_true, Bool.true_eq_false, if_true, if_false, ↓reduceIte, Nat.reduceAdd, Nat.reduceMul, Nat.reduceSub, Nat.reduceLT, Nat.reduceLeDiff, Nat.reduceEqDiff, Nat.reduceMod, Nat.reduceDiv, q_D hP.1.1.1, h8, q1, L_X4_readUnit_19, e1, n_nr]
      · simp (disch := omega) only [q_ckt, q_lt, q_cI, q_cJ, q_cV, q_cP, q_xI, q_xV, q_xP, q_xJ, g_gk, g_ga, g_gw, g_gp, g_gq, g_P, g_J, q_I_s, q_I_n, q_I_k, nI_add, pk_sub, pk_mul, nI_clamp, n_lt0, n_0lt, n_eq0, n_lt, n_le, n_eq, n_m1, n_m2, n_m9, n_12, n_19, n_10, n_01, n_1n1, n_0n1, n_1n0, n_0n0, n_dI, n_m1lt, q_inb, n_nar, n_nar0, n_nar1, n_bool, Bool.false_eq_true, Bool.true_eq_false, if_true, if_false, ↓reduceIte, Nat.reduceAdd, Nat.reduceMul, Nat.reduceSub, Nat.reduceLT, Nat.reduceLeDiff, Nat.reduceEqDiff, Nat.reduceMod, Nat.reduceDiv, q_D hP.1.1.1, h8, q1, L_X4_readUnit_19, e1, n_nr]
    · obtain ⟨e, rfl⟩ : ∃ e, d = e + 1 := ⟨d - 1, by omega⟩
      obtain ⟨r10, r300, r12⟩ := r_hdr hP.1
      obtain ⟨g, g1, g2⟩ := k_gl1 hb hP
      obtain ⟨M1, e1, -, t1⟩ := r_in (d := e) hP.1 hdp g1 g2 (by omega)
      have t1 := t1 q2
      rw [ef] at t1
      have t2 := r_F_s (k := 16) (v := ir_I M1 412 16 - nI 1) t1 (by decide)
      refine ⟨_, ?_, (fun z => nomatch z), fun _ => t2⟩
      have w := wd hP.1 (show 6 ≤ e by omega)
      have g := sg hP.1 (show 1 ≤ e by omega)
      dsimp only
      rw [E_X12_readUnit]
      rcases q1 with q1 | q1
      · rw [if_pos q1] at w
        simp (disch := omega) only [q_ckt, q_lt, q_cI, q_cJ, q_cV, q_cP, q_xI, q_xV, q_xP, q_xJ, g_gk, g_ga, g_gw, g_gp, g_gq, g_P, g_J, q_I_s, q_I_n, q_I_k, nI_add, pk_sub, pk_mul, nI_clamp, n_lt0, n_0lt, n_eq0, n_lt, n_le, n_eq, n_m1, n_m2, n_m9, n_12, n_19, n_10, n_01, n_1n1, n_0n1, n_1n0, n_0n0, n_dI, n_m1lt, q_inb, n_nar, n_nar0, n_nar1, n_bool, Bool.false_eq_true, Bool.true_eq_false, if_true, if_false, ↓reduceIte, Nat.reduceAdd, Nat.reduceMul, Nat.reduceSub, Nat.reduceLT, Nat.reduceLeDiff, Nat.reduceEqDiff, Nat.reduceMod, Nat.reduceDiv, q_R hP.1.1.1, r12, w, e1, q_R t1.1.1, r_unitF t1 (show 1 ≤ e by omega), r_lyF t1 (v := nI 18) (show 1 ≤ e by omega)]
      · rw [if_neg (by omega)] at w
        rw [if_pos q1] at g
        simp (disch := omega) only [q_ckt, q_lt, q_cI, q_cJ, q_cV, q_cP, q_xI, q_xV, q_xP, q_xJ, g_gk, g_ga, g_gw, g_gp, g_gq, g_P, g_J, q_I_s, q_I_n, q_I_k, nI_add, pk_sub, pk_mul, nI_clamp, n_lt0, n_0lt, n_eq0, n_lt, n_le, n_eq, n_m1, n_m2, n_m9, n_12, n_19, n_10, n_01, n_1n1, n_0n1, n_1n0, n_0n0, n_dI, n_m1lt, q_inb, n_nar, n_nar0, n_nar1, n_bool, Bool.false_eq_true, Bool.true_eq_false, if_true, if_false, ↓reduceIte, Nat.reduceAdd, Nat.reduceMul, Nat.reduceSub, Nat.reduceLT, Nat.reduceLeDiff, Nat.reduceEqDiff, Nat.reduceMod, Nat.reduceDiv, q_R hP.1.1.1, r12, w, g, e1, q_R t1.1.1, r_truthF t1 (show 4 ≤ e by omega), r_mustF t1 (c := nI 93) (show 2 ≤ e by omega)]
  · have to31 : ∀ {M0 M e}, c_P B n L xs M0 s K M → m_X4_readUnit (e + 1) 100 (nI dp) M = v_X4_readUnit_31 e 100 (nI dp) M := fun {M0 M e} hP => by
      obtain ⟨h6, h8, -, h300⟩ := c_hdr hP.1
      rw [E_X4_readUnit]
      by_cases z1 : k_kd B n s = 267
      · simp (disch := omega) only [q_ckt, q_lt, q_cI, q_cJ, q_cV, q_cP, q_xI, q_xV, q_xP, q_xJ, g_gk, g_ga, g_gw, g_gp, g_gq, g_P, g_J, q_I_s, q_I_n, q_I_k, nI_add, pk_sub, pk_mul, nI_clamp, n_lt0, n_0lt, n_eq0, n_lt, n_le, n_eq, n_m1, n_m2, n_m9, n_12, n_19, n_10, n_01, n_1n1, n_0n1, n_1n0, n_0n0, n_dI, n_m1lt, q_inb, n_nar, n_nar0, n_nar1, n_bool, Bool.false_eq_true, Bool.true_eq_false, if_true, if_false, ↓reduceIte, Nat.reduceAdd, Nat.reduceMul, Nat.reduceSub, Nat.reduceLT, Nat.reduceLeDiff, Nat.reduceEqDiff, Nat.reduceMod, Nat.reduceDiv, q_D hP.1.1.1, h8, z1, L_X4_readUnit_19, show dp < 6 by omega]
      · by_cases z2 : k_kd B n s = 91
        · simp (disch := omega) only [q_ckt, q_lt, q_cI, q_cJ, q_cV, q_cP, q_xI, q_xV, q_xP, q_xJ, g_gk, g_ga, g_gw, g_gp, g_gq, g_P, g_J, q_I_s, q_I_n, q_I_k, nI_add, pk_sub, pk_mul, nI_clamp, n_lt0, n_0lt, n_eq0, n_lt, n_le, n_eq, n_m1, n_m2, n_m9, n_12, n_19, n_10, n_01, n_1n1, n_0n1, n_1n0, n_0n0, n_dI, n_m1lt, q_inb, n_nar, n_nar0, n_nar1, n_bool, Bool.false_eq_true, Bool.true_eq_false, if_true, if_false, ↓reduceIte, Nat.reduceAdd, Nat.reduceMul, Nat.reduceSub, Nat.reduceLT, Nat.reduceLeDiff, Nat.reduceEqDiff, Nat.reduceMod, Nat.reduceDiv, q_D hP.1.1.1, h8, z2, L_X4_readUnit_19, show dp < 6 by omega]
        · simp (disch := omega) only [q_ckt, q_lt, q_cI, q_cJ, q_cV, q_cP, q_xI, q_xV, q_xP, q_xJ, g_gk, g_ga, g_gw, g_gp, g_gq, g_P, g_J, q_I_s, q_I_n, q_I_k, nI_add, pk_sub, pk_mul, nI_clamp, n_lt0, n_0lt, n_eq0, n_lt, n_le, n_eq, n_m1, n_m2, n_m9, n_12, n_19, n_10, n_01, n_1n1, n_0n1, n_1n0, n_0n0, n_dI, n_m1lt, q_inb, n_nar, n_nar0, n_nar1, n_bool, Bool.false_eq_true, Bool.true_eq_false, if_true, if_false, ↓reduceIte, Nat.reduceAdd, Nat.reduceMul, Nat.reduceSub, Nat.reduceLT, Nat.reduceLeDiff, Nat.reduceEqDiff, Nat.reduceMod, Nat.reduceDiv, q_D hP.1.1.1, h8, z1, z2]
    by_cases q2 : k_kd B n s = 91
    · have q3 : dp < 6 := by omega
      have s1 := b3 (by omega)
      obtain ⟨f1, p1, K1, c1, y1, y2, y3, y4, y5, y6⟩ := hR q3 (k_nt B n s) K c τ b2 hL (by omega) (by omega) hb
      have CL : ∀ (M0 M : ir_M) (e : Nat), 12 + 6 * (6 - dp) ≤ e → c_P B n L xs M0 s K M → ∃ M2, c_Q B n L xs M0 f1 p1 K1 M2 ∧ m_X4_readUnit (e + 1) 100 (nI dp) M = if k_1 f1 = 0 then ir_oI (nI 0) M2 else ir_cI (m_X4_take e 100 (nI 93) M2) (fun r M3 => if r = 0 then ir_oI (nI 0) M3 else ir_oI (nI 1) M3) := fun M0 M e he hP => by
        obtain ⟨h6, h8, -, h300⟩ := c_hdr hP.1
        obtain ⟨M1, e1, P1⟩ := c_P_n (d := e) hP (by omega)
        obtain ⟨M2, e2, Q2⟩ := y5 M0 M1 e (by omega) P1
        have pi2 : q_PI M2 := by
          by_cases z : f1 = 0
          · exact (Q2.1 z).1.1.1
          · exact (Q2.2 z).1.1
        have e2' : m_X4_readTruth e 100 (nI (dp + 1)) M1 = ir_oI (k_1 f1) M2 := e2
        refine ⟨M2, Q2, ?_⟩
        rw [to31 hP, L_X4_readUnit_31]
        simp (disch := omega) only [q_ckt, q_lt, q_cI, q_cJ, q_cV, q_cP, q_xI, q_xV, q_xP, q_xJ, g_gk, g_ga, g_gw, g_gp, g_gq, g_P, g_J, q_I_s, q_I_n, q_I_k, nI_add, pk_sub, pk_mul, nI_clamp, n_lt0, n_0lt, n_eq0, n_lt, n_le, n_eq, n_m1, n_m2, n_m9, n_12, n_19, n_10, n_01, n_1n1, n_0n1, n_1n0, n_0n0, n_dI, n_m1lt, q_inb, n_nar, n_nar0, n_nar1, n_bool, Bool.false_eq_true, Bool.true_eq_false, if_true, if_false, ↓reduceIte, Nat.reduceAdd, Nat.reduceMul, Nat.reduceSub, Nat.reduceLT, Nat.reduceLeDiff, Nat.reduceEqDiff, Nat.reduceMod, Nat.reduceDiv, q_D hP.1.1.1, h8, q2, e1, q_D P1.1.1.1, e2', n_nr, q_D pi2]
      have RL : ∀ (M0 M : ir_M) (e : Nat), 12 + 6 * (6 - dp) ≤ e → r_P B n L xs M0 dp s K M → ∃ M2, r_Q B n L xs M0 (dp + 1) f1 p1 K1 M2 ∧ ∀ M3, m_X12_mustSign e 412 (nI 93) M2 = ir_oV M3 → q_PI M3 → m_X12_readUnit (e + 1) 412 M = ir_oV (ir_sI M3 412 16 (ir_I M3 412 16 - nI 1)) := fun M0 M e he hP => by
        obtain ⟨r10, r300, r12⟩ := r_hdr hP.1
        obtain ⟨g, g1, g2⟩ := k_gl1 hb hP
        obtain ⟨M1, e1, t1, -⟩ := r_in (d := e) hP.1 hdp g1 g2 (by omega)
        obtain ⟨t1, q1'⟩ := t1 q3
        obtain ⟨M2, e2, Q2⟩ := y6 M0 M1 e (by omega) ⟨t1, fun k => (q_I_eq q1' (by decide) k).trans (hP.2 k)⟩
        have pi2 : q_PI M2 := by
          by_cases z : f1 = 0
          · exact (Q2.1 z).1.1.1
          · exact (Q2.2 z).1.1
        refine ⟨M2, Q2, fun M3 e3 p3 => ?_⟩
        have w := wd hP.1 (show 6 ≤ e by omega)
        have g := sg hP.1 (show 1 ≤ e by omega)
        rw [if_neg (by omega)] at w
        rw [if_pos q2] at g
        dsimp only at e2
        rw [E_X12_readUnit]
        simp (disch := omega) only [q_ckt, q_lt, q_cI, q_cJ, q_cV, q_cP, q_xI, q_xV, q_xP, q_xJ, g_gk, g_ga, g_gw, g_gp, g_gq, g_P, g_J, q_I_s, q_I_n, q_I_k, nI_add, pk_sub, pk_mul, nI_clamp, n_lt0, n_0lt, n_eq0, n_lt, n_le, n_eq, n_m1, n_m2, n_m9, n_12, n_19, n_10, n_01, n_1n1, n_0n1, n_1n0, n_0n0, n_dI, n_m1lt, q_inb, n_nar, n_nar0, n_nar1, n_bool, Bool.false_eq_true, Bool.true_eq_false, if_true, if_false, ↓reduceIte, Nat.reduceAdd, Nat.reduceMul, Nat.reduceSub, Nat.reduceLT, Nat.reduceLeDiff, Nat.reduceEqDiff, Nat.reduceMod, Nat.reduceDiv, q_R hP.1.1.1, r12, w, g, e1, q_R t1.1.1, e2, q_R pi2, e3, q_R p3]
      by_cases qf : f1 = 0
      · obtain ⟨w1, w2, w3, w4⟩ := y4 qf
        have hb1 := k_bsz_w hb (k_lw_7 w3)
        obtain ⟨a1, a2, a3, a4, a5, a6, a7, a8⟩ := k_nt_b (B := B) y3
        by_cases q4 : k_kd B n p1 = 93
        · have a3' := a3 (by omega)
          refine ⟨0, k_nt B n p1, K1, c1, by decide, by omega, a2, fun _ => ⟨by omega, by omega, w3, w4⟩, fun M0 M d hd hP => ?_, fun M0 M d hd hP => ?_⟩
          · obtain ⟨e, rfl⟩ : ∃ e, d = e + 1 := ⟨d - 1, by omega⟩
            obtain ⟨M2, Q2, E⟩ := CL M0 M e (by omega) hP
            have P2 := Q2.1 qf
            obtain ⟨M3, e3, t3, -⟩ := c_tk (d := e) P2.1 (w := 93) (by decide) (by omega)
            obtain ⟨t3, q3'⟩ := t3 q4
            rw [if_pos q4] at e3
            refine ⟨M3, ?_, fun _ => ⟨t3, c_K_eq q3' (by decide) P2.2⟩, fun z => absurd rfl z⟩
            dsimp only
            rw [E, qf, k_1_0]
            simp (disch := omega) only [q_ckt, q_lt, q_cI, q_cJ, q_cV, q_cP, q_xI, q_xV, q_xP, q_xJ, g_gk, g_ga, g_gw, g_gp, g_gq, g_P, g_J, q_I_s, q_I_n, q_I_k, nI_add, pk_sub, pk_mul, nI_clamp, n_lt0, n_0lt, n_eq0, n_lt, n_le, n_eq, n_m1, n_m2, n_m9, n_12, n_19, n_10, n_01, n_1n1, n_0n1, n_1n0, n_0n0, n_dI, n_m1lt, q_inb, n_nar, n_nar0, n_nar1, n_bool, Bool.false_eq_true, Bool.true_eq_false, if_true, if_false, ↓reduceIte, Nat.reduceAdd, Nat.reduceMul, Nat.reduceSub, Nat.reduceLT, Nat.reduceLeDiff, Nat.reduceEqDiff, Nat.reduceMod, Nat.reduceDiv, e3]
          · obtain ⟨e, rfl⟩ : ∃ e, d = e + 1 := ⟨d - 1, by omega⟩
            obtain ⟨M2, Q2, E⟩ := RL M0 M e (by omega) hP
            have P2 := Q2.1 qf
            obtain ⟨g, g1, g2⟩ := k_gl1 hb1 P2
            obtain ⟨M3, e3, t3, -⟩ := r_must (d := e) P2.1 (c := 93) (by decide) g1 g2 (by omega)
            obtain ⟨t3, q3'⟩ := t3 q4
            have t4 := r_T_dp t3 hdp
            refine ⟨_, E M3 e3 t3.1.1, fun _ => ⟨?_, fun k => ?_⟩, fun z => absurd rfl z⟩
            · rw [t3.2.2.2.2.2.2.2.2.2]; exact t4
            · rw [q_I_eq (S := [412]) (q_eq.sI (by decide)) (by decide), q_I_eq q3' (by decide)]; exact P2.2 k
        · have kb := k_fk_b (kd := k_kd B n p1) (w := 2) (by decide)
          refine ⟨k_fk (k_kd B n p1) 2, p1, K1, c1, kb.2, by omega, y3, fun z => absurd z kb.1, fun M0 M d hd hP => ?_, fun M0 M d hd hP => ?_⟩
          · obtain ⟨e, rfl⟩ : ∃ e, d = e + 1 := ⟨d - 1, by omega⟩
            obtain ⟨M2, Q2, E⟩ := CL M0 M e (by omega) hP
            have P2 := Q2.1 qf
            obtain ⟨M3, e3, -, t3⟩ := c_tk (d := e) P2.1 (w := 93) (by decide) (by omega)
            rw [if_neg q4] at e3
            refine ⟨M3, ?_, fun z => absurd z kb.1, fun _ => t3 q4⟩
            dsimp only
            rw [E, qf, k_1_0, k_1_n kb.1]
            simp (disch := omega) only [q_ckt, q_lt, q_cI, q_cJ, q_cV, q_cP, q_xI, q_xV, q_xP, q_xJ, g_gk, g_ga, g_gw, g_gp, g_gq, g_P, g_J, q_I_s, q_I_n, q_I_k, nI_add, pk_sub, pk_mul, nI_clamp, n_lt0, n_0lt, n_eq0, n_lt, n_le, n_eq, n_m1, n_m2, n_m9, n_12, n_19, n_10, n_01, n_1n1, n_0n1, n_1n0, n_0n0, n_dI, n_m1lt, q_inb, n_nar, n_nar0, n_nar1, n_bool, Bool.false_eq_true, Bool.true_eq_false, if_true, if_false, ↓reduceIte, Nat.reduceAdd, Nat.reduceMul, Nat.reduceSub, Nat.reduceLT, Nat.reduceLeDiff, Nat.reduceEqDiff, Nat.reduceMod, Nat.reduceDiv, e3]
          · obtain ⟨e, rfl⟩ : ∃ e, d = e + 1 := ⟨d - 1, by omega⟩
            obtain ⟨M2, Q2, E⟩ := RL M0 M e (by omega) hP
            have P2 := Q2.1 qf
            obtain ⟨g, g1, g2⟩ := k_gl1 hb1 P2
            obtain ⟨M3, e3, -, t3⟩ := r_must (d := e) P2.1 (c := 93) (by decide) g1 g2 (by omega)
            have t3 := t3 q4
            exact ⟨_, E M3 e3 t3.1.1, fun z => absurd z kb.1, fun _ => r_F_s t3 (by decide)⟩
      · refine ⟨f1, p1, K1, c1, y1, by omega, y3, fun z => absurd z qf, fun M0 M d hd hP => ?_, fun M0 M d hd hP => ?_⟩
        · obtain ⟨e, rfl⟩ : ∃ e, d = e + 1 := ⟨d - 1, by omega⟩
          obtain ⟨M2, Q2, E⟩ := CL M0 M e (by omega) hP
          refine ⟨M2, ?_, Q2⟩
          dsimp only
          rw [E, k_1_n qf]
          exact if_pos rfl
        · obtain ⟨e, rfl⟩ : ∃ e, d = e + 1 := ⟨d - 1, by omega⟩
          obtain ⟨M2, Q2, E⟩ := RL M0 M e (by omega) hP
          have F2 := Q2.2 qf
          exact ⟨_, E M2 (r_mustF F2 (by omega)) F2.1.1, fun z => absurd z qf, fun _ => r_F_s F2 (by decide)⟩
    · by_cases q4 : k_kd B n s = 267
      · have q3 : dp < 6 := by omega
        have s1 := b3 (by omega)
        obtain ⟨f1, p1, K1, c1, y1, y2, y3, y4, y5, y6⟩ := hU q3 (k_nt B n s) K c τ b2 hL (by omega) (by omega) hb
        have CL : ∀ (M0 M : ir_M) (e : Nat), 12 + 6 * (6 - dp) ≤ e → c_P B n L xs M0 s K M → ∃ M2, c_Q B n L xs M0 f1 p1 K1 M2 ∧ ∀ M3, m_X1_add e 104 (nI 2000) M2 = ir_oV M3 → m_X4_readUnit (e + 1) 100 (nI dp) M = ir_oI (k_1 f1) M3 := fun M0 M e he hP => by
          obtain ⟨h6, h8, -, h300⟩ := c_hdr hP.1
          obtain ⟨M1, e1, P1⟩ := c_P_n (d := e) hP (by omega)
          obtain ⟨M2, e2, Q2⟩ := y5 M0 M1 e (by omega) P1
          have pi2 : q_PI M2 := by
            by_cases z : f1 = 0
            · exact (Q2.1 z).1.1.1
            · exact (Q2.2 z).1.1
          have e2' : m_X4_readUnit e 100 (nI (dp + 1)) M1 = ir_oI (k_1 f1) M2 := e2
          refine ⟨M2, Q2, fun M3 e3 => ?_⟩
          have nar : ir_nar 1 (k_1 f1) = true := by unfold k_1; split <;> decide +kernel
          rw [to31 hP, L_X4_readUnit_31]
          simp (disch := omega) only [q_ckt, q_lt, q_cI, q_cJ, q_cV, q_cP, q_xI, q_xV, q_xP, q_xJ, g_gk, g_ga, g_gw, g_gp, g_gq, g_P, g_J, q_I_s, q_I_n, q_I_k, nI_add, pk_sub, pk_mul, nI_clamp, n_lt0, n_0lt, n_eq0, n_lt, n_le, n_eq, n_m1, n_m2, n_m9, n_12, n_19, n_10, n_01, n_1n1, n_0n1, n_1n0, n_0n0, n_dI, n_m1lt, q_inb, n_nar, n_nar0, n_nar1, n_bool, Bool.false_eq_true, Bool.true_eq_false, if_true, if_false, ↓reduceIte, Nat.reduceAdd, Nat.reduceMul, Nat.reduceSub, Nat.reduceLT, Nat.reduceLeDiff, Nat.reduceEqDiff, Nat.reduceMod, Nat.reduceDiv, q_D hP.1.1.1, h8, q4, e1, q_D P1.1.1.1, e2', q_D pi2, q_N pi2, e3, nar]
        have RL : ∀ (M0 M : ir_M) (e : Nat), 12 + 6 * (6 - dp) ≤ e → r_P B n L xs M0 dp s K M → ∃ M2, r_Q B n L xs M0 (dp + 1) f1 p1 K1 M2 ∧ ∀ M3, m_X12_laysStep e 412 (nI 18) M2 = ir_oV M3 → q_PI M3 → m_X12_readUnit (e + 1) 412 M = ir_oV (ir_sI M3 412 16 (ir_I M3 412 16 - nI 1)) := fun M0 M e he hP => by
          obtain ⟨r10, r300, r12⟩ := r_hdr hP.1
          obtain ⟨g, g1, g2⟩ := k_gl1 hb hP
          obtain ⟨M1, e1, t1, -⟩ := r_in (d := e) hP.1 hdp g1 g2 (by omega)
          obtain ⟨t1, q1'⟩ := t1 q3
          obtain ⟨M2, e2, Q2⟩ := y6 M0 M1 e (by omega) ⟨t1, fun k => (q_I_eq q1' (by decide) k).trans (hP.2 k)⟩
          have pi2 : q_PI M2 := by
            by_cases z : f1 = 0
            · exact (Q2.1 z).1.1.1
            · exact (Q2.2 z).1.1
          refine ⟨M2, Q2, fun M3 e3 p3 => ?_⟩
          have w := wd hP.1 (show 6 ≤ e by omega)
          rw [if_pos q4] at w
          dsimp only at e2
          rw [E_X12_readUnit]
          simp (disch := omega) only [q_ckt, q_lt, q_cI, q_cJ, q_cV, q_cP, q_xI, q_xV, q_xP, q_xJ, g_gk, g_ga, g_gw, g_gp, g_gq, g_P, g_J, q_I_s, q_I_n, q_I_k, nI_add, pk_sub, pk_mul, nI_clamp, n_lt0, n_0lt, n_eq0, n_lt, n_le, n_eq, n_m1, n_m2, n_m9, n_12, n_19, n_10, n_01, n_1n1, n_0n1, n_1n0, n_0n0, n_dI, n_m1lt, q_inb, n_nar, n_nar0, n_nar1, n_bool, Bool.false_eq_true, Bool.true_eq_false, if_true, if_false, ↓reduceIte, Nat.reduceAdd, Nat.reduceMul, Nat.reduceSub, Nat.reduceLT, Nat.reduceLeDiff, Nat.reduceEqDiff, Nat.reduceMod, Nat.reduceDiv, q_R hP.1.1.1, r12, w, e1, q_R t1.1.1, e2, q_R pi2, e3, q_R p3]
        by_cases qf : f1 = 0
        · obtain ⟨w1, w2, w3, w4⟩ := y4 qf
          have hb1 := k_bsz_w hb (k_lw_7 w3)
          have hc9 : c1 < 900 := by omega
          refine ⟨0, p1, k_stp1 K1 c1 18, c1 + 1, by decide, by omega, y3, fun _ => ⟨by omega, by omega, k_lw_tr w3 (k_lw_s hc9), k_LI_s w4 (by decide) rfl (by rw [List.length_cons]; omega)⟩, fun M0 M d hd hP => ?_, fun M0 M d hd hP => ?_⟩
          · obtain ⟨e, rfl⟩ : ∃ e, d = e + 1 := ⟨d - 1, by omega⟩
            obtain ⟨M2, Q2, E⟩ := CL M0 M e (by omega) hP
            have P2 := Q2.1 qf
            obtain ⟨M3, e3, P3⟩ := c_P_s (d := e) (st := 18) P2 hb1 (by decide) hc9 w4.1 (by omega)
            refine ⟨M3, ?_, fun _ => P3, fun z => absurd rfl z⟩
            rw [← qf]
            exact E M3 e3
          · obtain ⟨e, rfl⟩ : ∃ e, d = e + 1 := ⟨d - 1, by omega⟩
            obtain ⟨M2, Q2, E⟩ := RL M0 M e (by omega) hP
            have P2 := Q2.1 qf
            obtain ⟨M3, e3, P3⟩ := r_P_s (d := e) (st := 18) P2 hc9 w4.1 (by omega)
            have t4 := r_T_dp P3.1 hdp
            refine ⟨_, E M3 e3 P3.1.1.1, fun _ => ⟨?_, fun k => ?_⟩, fun z => absurd rfl z⟩
            · rw [P3.1.2.2.2.2.2.2.2.2.2]; exact t4
            · rw [q_I_eq (S := [412]) (q_eq.sI (by decide)) (by decide)]; exact P3.2 k
        · refine ⟨f1, p1, K1, c1, y1, by omega, y3, fun z => absurd z qf, fun M0 M d hd hP => ?_, fun M0 M d hd hP => ?_⟩
          · obtain ⟨e, rfl⟩ : ∃ e, d = e + 1 := ⟨d - 1, by omega⟩
            obtain ⟨M2, Q2, E⟩ := CL M0 M e (by omega) hP
            obtain ⟨M3, e3, F3⟩ := c_F_s (d := e) (v := nI 2000) (Q2.2 qf) (by omega)
            exact ⟨M3, E M3 e3, fun z => absurd z qf, fun _ => F3⟩
          · obtain ⟨e, rfl⟩ : ∃ e, d = e + 1 := ⟨d - 1, by omega⟩
            obtain ⟨M2, Q2, E⟩ := RL M0 M e (by omega) hP
            have F2 := Q2.2 qf
            exact ⟨_, E M2 (r_lyF F2 (by omega)) F2.1.1, fun z => absurd z qf, fun _ => r_F_s F2 (by decide)⟩
      · obtain ⟨f1, p1, K1, c1, y1, y2, y3, y4, y5, y6⟩ := hS s K c τ hs hL hc (by omega) hb
        have RS : ∀ {M0 M : ir_M} {e : Nat}, 12 + 6 * (6 - dp) ≤ e → r_P B n L xs M0 dp s K M → m_X12_isWord e 412 1000047 M = ir_oI (nI 0) M ∧ m_X12_isSign e 412 (nI 91) M = ir_oI (nI 0) M := fun {M0 M e} he hP => by
          have w := wd hP.1 (show 6 ≤ e by omega)
          have g := sg hP.1 (show 1 ≤ e by omega)
          rw [if_neg q4] at w
          rw [if_neg q2] at g
          exact ⟨w, g⟩
        by_cases qf : f1 = 0
        · obtain ⟨w1, w2, w3, w4⟩ := y4 qf
          have hb1 := k_bsz_w hb (k_lw_7 w3)
          obtain ⟨a1, a2, a3, a4, a5, a6, a7, a8⟩ := k_nt_b (B := B) y3
          have i6 := (k_rt_i (k_kd B n p1)).2.2.2.2
          by_cases q5 : k_kd B n p1 = 61 ∨ k_kd B n p1 = 60 ∨ k_kd B n p1 = 62
          · have a3' := a3 (by omega)
            obtain ⟨f2, p2, K2, c2, u1, u2, u3, u4, u5, u6⟩ := hS (k_nt B n p1) K1 c1 (false :: τ) a2 w4 (by omega) (by rw [List.length_cons]; omega) hb1
            have CL : ∀ (M0 M : ir_M) (e : Nat), 12 + 6 * (6 - dp) ≤ e → c_P B n L xs M0 s K M → ∃ M2, c_Q B n L xs M0 f2 p2 K2 M2 ∧ ∀ M3, m_X1_add e 104 (nI (2000 + k_kd B n p1)) M2 = ir_oV M3 → m_X4_readUnit (e + 1) 100 (nI dp) M = ir_oI (k_1 f2) M3 := fun M0 M e he hP => by
              obtain ⟨h6, h8, -, h300⟩ := c_hdr hP.1
              obtain ⟨M1, e1, Q1⟩ := y5 M0 M e (by omega) hP
              have P1 := Q1.1 qf
              obtain ⟨-, h8', -, h300'⟩ := c_hdr P1.1
              obtain ⟨M1b, e1b, P1b⟩ := c_P_n (d := e) P1 (by omega)
              obtain ⟨M2, e2, Q2⟩ := u5 M0 M1b e (by omega) P1b
              have pi2 : q_PI M2 := by
                by_cases z : f2 = 0
                · exact (Q2.1 z).1.1.1
                · exact (Q2.2 z).1.1
              dsimp only at e1 e2
              rw [qf, k_1_0] at e1
              refine ⟨M2, Q2, fun M3 e3 => ?_⟩
              have nar : ir_nar 1 (k_1 f2) = true := by unfold k_1; split <;> decide +kernel
              rw [to31 hP, L_X4_readUnit_31]
              rcases q5 with z | z | z
              · rw [z] at e3 h8'
                simp (disch := omega) only [q_ckt, q_lt, q_cI, q_cJ, q_cV, q_cP, q_xI, q_xV, q_xP, q_xJ, g_gk, g_ga, g_gw, g_gp, g_gq, g_P, g_J, q_I_s, q_I_n, q_I_k, nI_add, pk_sub, pk_mul, nI_clamp, n_lt0, n_0lt, n_eq0, n_lt, n_le, n_eq, n_m1, n_m2, n_m9, n_12, n_19, n_10, n_01, n_1n1, n_0n1, n_1n0, n_0n0, n_dI, n_m1lt, q_inb, n_nar, n_nar0, n_nar1, n_bool, Bool.false_eq_true, Bool.true_eq_false, if_true, if_false, ↓reduceIte, Nat.reduceAdd, Nat.reduceMul, Nat.reduceSub, Nat.reduceLT, Nat.reduceLeDiff, Nat.reduceEqDiff, Nat.reduceMod, Nat.reduceDiv, q_D hP.1.1.1, h8, q2, q4, e1, q_D P1.1.1.1, h8', L_X4_readUnit_145, e1b, q_D P1b.1.1.1, e2, q_D pi2, q_N pi2, e3, nar]
              · rw [z] at e3 h8'
                simp (disch := omega) only [q_ckt, q_lt, q_cI, q_cJ, q_cV, q_cP, q_xI, q_xV, q_xP, q_xJ, g_gk, g_ga, g_gw, g_gp, g_gq, g_P, g_J, q_I_s, q_I_n, q_I_k, nI_add, pk_sub, pk_mul, nI_clamp, n_lt0, n_0lt, n_eq0, n_lt, n_le, n_eq, n_m1, n_m2, n_m9, n_12, n_19, n_10, n_01, n_1n1, n_0n1, n_1n0, n_0n0, n_dI, n_m1lt, q_inb, n_nar, n_nar0, n_nar1, n_bool, Bool.false_eq_true, Bool.true_eq_false, if_true, if_false, ↓reduceIte, Nat.reduceAdd, Nat.reduceMul, Nat.reduceSub, Nat.reduceLT, Nat.reduceLeDiff, Nat.reduceEqDiff, Nat.reduceMod, Nat.reduceDiv, q_D hP.1.1.1, h8, q2, q4, e1, q_D P1.1.1.1, h8', L_X4_readUnit_145, e1b, q_D P1b.1.1.1, e2, q_D pi2, q_N pi2, e3, nar]
              · rw [z] at e3 h8'
                simp (disch := omega) only [q_ckt, q_lt, q_cI, q_cJ, q_cV, q_cP, q_xI, q_xV, q_xP, q_xJ, g_gk, g_ga, g_gw, g_gp, g_gq, g_P, g_J, q_I_s, q_I_n, q_I_k, nI_add, pk_sub, pk_mul, nI_clamp, n_lt0, n_0lt, n_eq0, n_lt, n_le, n_eq, n_m1, n_m2, n_m9, n_12, n_19, n_10, n_01, n_1n1, n_0n1, n_1n0, n_0n0, n_dI, n_m1lt, q_inb, n_nar, n_nar0, n_nar1, n_bool, Bool.false_eq_true, Bool.true_eq_false, if_true, if_false, ↓reduceIte, Nat.reduceAdd, Nat.reduceMul, Nat.reduceSub, Nat.reduceLT, Nat.reduceLeDiff, Nat.reduceEqDiff, Nat.reduceMod, Nat.reduceDiv, q_D hP.1.1.1, h8, q2, q4, e1, q_D P1.1.1.1, h8', L_X4_readUnit_145, e1b, q_D P1b.1.1.1, e2, q_D pi2, q_N pi2, e3, nar]
            have RL : ∀ (M0 M : ir_M) (e : Nat), 12 + 6 * (6 - dp) ≤ e → r_P B n L xs M0 dp s K M → ∃ M2, r_Q B n L xs M0 dp f2 p2 K2 M2 ∧ ∀ M3, m_X12_laysStep e 412 (nI (k_jn (k_kd B n p1))) M2 = ir_oV M3 → m_X12_readUnit (e + 1) 412 M = ir_oV M3 := fun M0 M e he hP => by
              obtain ⟨r10, r300, r12⟩ := r_hdr hP.1
              obtain ⟨w, g⟩ := RS he hP
              obtain ⟨M1, e1, Q1⟩ := y6 M0 M e (by omega) hP
              have P1 := Q1.1 qf
              obtain ⟨r10', r300', r12'⟩ := r_hdr P1.1
              obtain ⟨M1b, e1b, P1b⟩ := r_P_n (d := e) P1 (by omega)
              obtain ⟨M2, e2, Q2⟩ := u6 M0 M1b e (by omega) P1b
              have pi2 : q_PI M2 := by
                by_cases z : f2 = 0
                · exact (Q2.1 z).1.1.1
                · exact (Q2.2 z).1.1
              dsimp only at e1 e2
              refine ⟨M2, Q2, fun M3 e3 => ?_⟩
              rw [E_X12_readUnit]
              rcases q5 with z | z | z
              · have z' := (i6.2 61 (by decide) (by decide)).mpr z
                rw [z'] at r10'
                rw [z] at e3
                have e3' : m_X12_laysStep e 412 (nI 13) M2 = ir_oV M3 := e3
                simp (disch := omega) only [q_ckt, q_lt, q_cI, q_cJ, q_cV, q_cP, q_xI, q_xV, q_xP, q_xJ, g_gk, g_ga, g_gw, g_gp, g_gq, g_P, g_J, q_I_s, q_I_n, q_I_k, nI_add, pk_sub, pk_mul, nI_clamp, n_lt0, n_0lt, n_eq0, n_lt, n_le, n_eq, n_m1, n_m2, n_m9, n_12, n_19, n_10, n_01, n_1n1, n_0n1, n_1n0, n_0n0, n_dI, n_m1lt, q_inb, n_nar, n_nar0, n_nar1, n_bool, Bool.false_eq_true, Bool.true_eq_false, if_true, if_false, ↓reduceIte, Nat.reduceAdd, Nat.reduceMul, Nat.reduceSub, Nat.reduceLT, Nat.reduceLeDiff, Nat.reduceEqDiff, Nat.reduceMod, Nat.reduceDiv, q_R hP.1.1.1, r12, w, g, e1, q_R P1.1.1.1, r10', r12', e1b]
                rw [L_X12_readUnit_123]
                simp (disch := omega) only [q_ckt, q_lt, q_cI, q_cJ, q_cV, q_cP, q_xI, q_xV, q_xP, q_xJ, g_gk, g_ga, g_gw, g_gp, g_gq, g_P, g_J, q_I_s, q_I_n, q_I_k, nI_add, pk_sub, pk_mul, nI_clamp, n_lt0, n_0lt, n_eq0, n_lt, n_le, n_eq, n_m1, n_m2, n_m9, n_12, n_19, n_10, n_01, n_1n1, n_0n1, n_1n0, n_0n0, n_dI, n_m1lt, q_inb, n_nar, n_nar0, n_nar1, n_bool, Bool.false_eq_true, Bool.true_eq_false, if_true, if_false, ↓reduceIte, Nat.reduceAdd, Nat.reduceMul, Nat.reduceSub, Nat.reduceLT, Nat.reduceLeDiff, Nat.reduceEqDiff, Nat.reduceMod, Nat.reduceDiv, q_R P1b.1.1.1, e2, q_R pi2, e3']
              · have z' := (i6.2 60 (by decide) (by decide)).mpr z
                rw [z'] at r10'
                rw [z] at e3
                have e3' : m_X12_laysStep e 412 (nI 14) M2 = ir_oV M3 := e3
                simp (disch := omega) only [q_ckt, q_lt, q_cI, q_cJ, q_cV, q_cP, q_xI, q_xV, q_xP, q_xJ, g_gk, g_ga, g_gw, g_gp, g_gq, g_P, g_J, q_I_s, q_I_n, q_I_k, nI_add, pk_sub, pk_mul, nI_clamp, n_lt0, n_0lt, n_eq0, n_lt, n_le, n_eq, n_m1, n_m2, n_m9, n_12, n_19, n_10, n_01, n_1n1, n_0n1, n_1n0, n_0n0, n_dI, n_m1lt, q_inb, n_nar, n_nar0, n_nar1, n_bool, Bool.false_eq_true, Bool.true_eq_false, if_true, if_false, ↓reduceIte, Nat.reduceAdd, Nat.reduceMul, Nat.reduceSub, Nat.reduceLT, Nat.reduceLeDiff, Nat.reduceEqDiff, Nat.reduceMod, Nat.reduceDiv, q_R hP.1.1.1, r12, w, g, e1, q_R P1.1.1.1, r10', r12', e1b]
                rw [L_X12_readUnit_123]
                simp (disch := omega) only [q_ckt, q_lt, q_cI, q_cJ, q_cV, q_cP, q_xI, q_xV, q_xP, q_xJ, g_gk, g_ga, g_gw, g_gp, g_gq, g_P, g_J, q_I_s, q_I_n, q_I_k, nI_add, pk_sub, pk_mul, nI_clamp, n_lt0, n_0lt, n_eq0, n_lt, n_le, n_eq, n_m1, n_m2, n_m9, n_12, n_19, n_10, n_01, n_1n1, n_0n1, n_1n0, n_0n0, n_dI, n_m1lt, q_inb, n_nar, n_nar0, n_nar1, n_bool, Bool.false_eq_true, Bool.true_eq_false, if_true, if_false, ↓reduceIte, Nat.reduceAdd, Nat.reduceMul, Nat.reduceSub, Nat.reduceLT, Nat.reduceLeDiff, Nat.reduceEqDiff, Nat.reduceMod, Nat.reduceDiv, q_R P1b.1.1.1, e2, q_R pi2, e3']
              · have z' := (i6.2 62 (by decide) (by decide)).mpr z
                rw [z'] at r10'
                rw [z] at e3
                have e3' : m_X12_laysStep e 412 (nI 15) M2 = ir_oV M3 := e3
                simp (disch := omega) only [q_ckt, q_lt, q_cI, q_cJ, q_cV, q_cP, q_xI, q_xV, q_xP, q_xJ, g_gk, g_ga, g_gw, g_gp, g_gq, g_P, g_J, q_I_s, q_I_n, q_I_k, nI_add, pk_sub, pk_mul, nI_clamp, n_lt0, n_0lt, n_eq0, n_lt, n_le, n_eq, n_m1, n_m2, n_m9, n_12, n_19, n_10, n_01, n_1n1, n_0n1, n_1n0, n_0n0, n_dI, n_m1lt, q_inb, n_nar, n_nar0, n_nar1, n_bool, Bool.false_eq_true, Bool.true_eq_false, if_true, if_false, ↓reduceIte, Nat.reduceAdd, Nat.reduceMul, Nat.reduceSub, Nat.reduceLT, Nat.reduceLeDiff, Nat.reduceEqDiff, Nat.reduceMod, Nat.reduceDiv, q_R hP.1.1.1, r12, w, g, e1, q_R P1.1.1.1, r10', r12', e1b]
                rw [L_X12_readUnit_123]
                simp (disch := omega) only [q_ckt, q_lt, q_cI, q_cJ, q_cV, q_cP, q_xI, q_xV, q_xP, q_xJ, g_gk, g_ga, g_gw, g_gp, g_gq, g_P, g_J, q_I_s, q_I_n, q_I_k, nI_add, pk_sub, pk_mul, nI_clamp, n_lt0, n_0lt, n_eq0, n_lt, n_le, n_eq, n_m1, n_m2, n_m9, n_12, n_19, n_10, n_01, n_1n1, n_0n1, n_1n0, n_0n0, n_dI, n_m1lt, q_inb, n_nar, n_nar0, n_nar1, n_bool, Bool.false_eq_true, Bool.true_eq_false, if_true, if_false, ↓reduceIte, Nat.reduceAdd, Nat.reduceMul, Nat.reduceSub, Nat.reduceLT, Nat.reduceLeDiff, Nat.reduceEqDiff, Nat.reduceMod, Nat.reduceDiv, q_R P1b.1.1.1, e2, q_R pi2, e3']
            by_cases qg : f2 = 0
            · obtain ⟨v1, v2, v3, v4⟩ := u4 qg
              have hb2 := k_bsz_w hb1 (k_lw_7 v3)
              have hc9 : c2 < 900 := by omega
              have jn : k_jn (k_kd B n p1) < 2000 ∧ k_ty (k_jn (k_kd B n p1)) (false :: false :: τ) = some (true :: τ) ∧ k_cd (k_jn (k_kd B n p1)) = 2000 + k_kd B n p1 := by
                rcases q5 with z | z | z
                · rw [z]; exact ⟨by decide, rfl, rfl⟩
                · rw [z]; exact ⟨by decide, rfl, rfl⟩
                · rw [z]; exact ⟨by decide, rfl, rfl⟩
              refine ⟨0, p2, k_stp1 K2 c2 (k_jn (k_kd B n p1)), c2 + 1, by decide, by omega, u3, fun _ => ⟨by omega, by omega, k_lw_tr w3 (k_lw_tr v3 (k_lw_s hc9)), k_LI_s v4 jn.1 jn.2.1 (by rw [List.length_cons]; omega)⟩, fun M0 M d hd hP => ?_, fun M0 M d hd hP => ?_⟩
              · obtain ⟨e, rfl⟩ : ∃ e, d = e + 1 := ⟨d - 1, by omega⟩
                obtain ⟨M2, Q2, E⟩ := CL M0 M e (by omega) hP
                obtain ⟨M3, e3, P3⟩ := c_P_s (d := e) (Q2.1 qg) hb2 jn.1 hc9 v4.1 (by omega)
                rw [jn.2.2] at e3
                refine ⟨M3, ?_, fun _ => P3, fun z => absurd rfl z⟩
                rw [← qg]
                exact E M3 e3
              · obtain ⟨e, rfl⟩ : ∃ e, d = e + 1 := ⟨d - 1, by omega⟩
                obtain ⟨M2, Q2, E⟩ := RL M0 M e (by omega) hP
                obtain ⟨M3, e3, P3⟩ := r_P_s (d := e) (st := k_jn (k_kd B n p1)) (Q2.1 qg) hc9 v4.1 (by omega)
                exact ⟨M3, E M3 e3, fun _ => P3, fun z => absurd rfl z⟩
            · refine ⟨f2, p2, K2, c2, u1, by omega, u3, fun z => absurd z qg, fun M0 M d hd hP => ?_, fun M0 M d hd hP => ?_⟩
              · obtain ⟨e, rfl⟩ : ∃ e, d = e + 1 := ⟨d - 1, by omega⟩
                obtain ⟨M2, Q2, E⟩ := CL M0 M e (by omega) hP
                obtain ⟨M3, e3, F3⟩ := c_F_s (d := e) (v := nI (2000 + k_kd B n p1)) (Q2.2 qg) (by omega)
                exact ⟨M3, E M3 e3, fun z => absurd z qg, fun _ => F3⟩
              · obtain ⟨e, rfl⟩ : ∃ e, d = e + 1 := ⟨d - 1, by omega⟩
                obtain ⟨M2, Q2, E⟩ := RL M0 M e (by omega) hP
                exact ⟨M2, E M2 (r_lyF (Q2.2 qg) (by omega)), Q2⟩
          · have kb := k_fk_b (kd := k_kd B n p1) (w := 2) (by decide)
            refine ⟨k_fk (k_kd B n p1) 2, p1, K1, c1, kb.2, by omega, y3, fun z => absurd z kb.1, fun M0 M d hd hP => ?_, fun M0 M d hd hP => ?_⟩
            · obtain ⟨e, rfl⟩ : ∃ e, d = e + 1 := ⟨d - 1, by omega⟩
              obtain ⟨h6, h8, -, h300⟩ := c_hdr hP.1
              obtain ⟨M1, e1, Q1⟩ := y5 M0 M e (by omega) hP
              have P1 := Q1.1 qf
              obtain ⟨-, h8', -, h300'⟩ := c_hdr P1.1
              obtain ⟨M2, e2, t2⟩ := c_ref (d := e) P1.1 (w := 2) (by decide) (by omega)
              dsimp only at e1
              rw [qf, k_1_0] at e1
              refine ⟨M2, ?_, fun z => absurd z kb.1, fun _ => t2⟩
              dsimp only
              rw [to31 hP, L_X4_readUnit_31, k_1_n kb.1]
              simp (disch := omega) only [q_ckt, q_lt, q_cI, q_cJ, q_cV, q_cP, q_xI, q_xV, q_xP, q_xJ, g_gk, g_ga, g_gw, g_gp, g_gq, g_P, g_J, q_I_s, q_I_n, q_I_k, nI_add, pk_sub, pk_mul, nI_clamp, n_lt0, n_0lt, n_eq0, n_lt, n_le, n_eq, n_m1, n_m2, n_m9, n_12, n_19, n_10, n_01, n_1n1, n_0n1, n_1n0, n_0n0, n_dI, n_m1lt, q_inb, n_nar, n_nar0, n_nar1, n_bool, Bool.false_eq_true, Bool.true_eq_false, if_true, if_false, ↓reduceIte, Nat.reduceAdd, Nat.reduceMul, Nat.reduceSub, Nat.reduceLT, Nat.reduceLeDiff, Nat.reduceEqDiff, Nat.reduceMod, Nat.reduceDiv, q_D hP.1.1.1, h8, q2, q4, e1, q_D P1.1.1.1, h8', show ¬ k_kd B n p1 = 61 by omega, show ¬ k_kd B n p1 = 60 by omega, show ¬ k_kd B n p1 = 62 by omega, e2, n_nr]
            · obtain ⟨e, rfl⟩ : ∃ e, d = e + 1 := ⟨d - 1, by omega⟩
              obtain ⟨r10, r300, r12⟩ := r_hdr hP.1
              obtain ⟨w, g⟩ := RS (show _ ≤ e by omega) hP
              obtain ⟨M1, e1, Q1⟩ := y6 M0 M e (by omega) hP
              have P1 := Q1.1 qf
              obtain ⟨r10', r300', r12'⟩ := r_hdr P1.1
              obtain ⟨gg, g1, g2⟩ := k_gl1 hb1 P1
              obtain ⟨M2, e2, t2⟩ := r_blame (d := e) P1.1 (w := 2) (by decide) g1 g2 (by omega)
              dsimp only at e1
              refine ⟨M2, ?_, fun z => absurd z kb.1, fun _ => t2⟩
              have m1 : ¬ k_rt (k_kd B n p1) = 61 := fun z => q5 (Or.inl ((i6.2 61 (by decide) (by decide)).mp z))
              have m2 : ¬ k_rt (k_kd B n p1) = 60 := fun z => q5 (Or.inr (Or.inl ((i6.2 60 (by decide) (by decide)).mp z)))
              have m3 : ¬ k_rt (k_kd B n p1) = 62 := fun z => q5 (Or.inr (Or.inr ((i6.2 62 (by decide) (by decide)).mp z)))
              dsimp only
              rw [E_X12_readUnit]
              simp (disch := omega) only [q_ckt, q_lt, q_cI, q_cJ, q_cV, q_cP, q_xI, q_xV, q_xP, q_xJ, g_gk, g_ga, g_gw, g_gp, g_gq, g_P, g_J, q_I_s, q_I_n, q_I_k, nI_add, pk_sub, pk_mul, nI_clamp, n_lt0, n_0lt, n_eq0, n_lt, n_le, n_eq, n_m1, n_m2, n_m9, n_12, n_19, n_10, n_01, n_1n1, n_0n1, n_1n0, n_0n0, n_dI, n_m1lt, q_inb, n_nar, n_nar0, n_nar1, n_bool, Bool.false_eq_true, Bool.true_eq_false, if_true, if_false, ↓reduceIte, Nat.reduceAdd, Nat.reduceMul, Nat.reduceSub, Nat.reduceLT, Nat.reduceLeDiff, Nat.reduceEqDiff, Nat.reduceMod, Nat.reduceDiv, q_R hP.1.1.1, r12, w, g, e1, q_R P1.1.1.1, r10', m1, m2, m3, e2, q_R t2.1.1, r_F_z t2]
              exact r_123F t2 (by omega)
        · refine ⟨f1, p1, K1, c1, y1, by omega, y3, fun z => absurd z qf, fun M0 M d hd hP => ?_, fun M0 M d hd hP => ?_⟩
          · obtain ⟨e, rfl⟩ : ∃ e, d = e + 1 := ⟨d - 1, by omega⟩
            obtain ⟨h6, h8, -, h300⟩ := c_hdr hP.1
            obtain ⟨M1, e1, Q1⟩ := y5 M0 M e (by omega) hP
            dsimp only at e1
            rw [k_1_n qf] at e1
            refine ⟨M1, ?_, Q1⟩
            dsimp only
            rw [to31 hP, L_X4_readUnit_31, k_1_n qf]
            simp (disch := omega) only [q_ckt, q_lt, q_cI, q_cJ, q_cV, q_cP, q_xI, q_xV, q_xP, q_xJ, g_gk, g_ga, g_gw, g_gp, g_gq, g_P, g_J, q_I_s, q_I_n, q_I_k, nI_add, pk_sub, pk_mul, nI_clamp, n_lt0, n_0lt, n_eq0, n_lt, n_le, n_eq, n_m1, n_m2, n_m9, n_12, n_19, n_10, n_01, n_1n1, n_0n1, n_1n0, n_0n0, n_dI, n_m1lt, q_inb, n_nar, n_nar0, n_nar1, n_bool, Bool.false_eq_true, Bool.true_eq_false, if_true, if_false, ↓reduceIte, Nat.reduceAdd, Nat.reduceMul, Nat.reduceSub, Nat.reduceLT, Nat.reduceLeDiff, Nat.reduceEqDiff, Nat.reduceMod, Nat.reduceDiv, q_D hP.1.1.1, h8, q2, q4, e1, n_nr]
          · obtain ⟨e, rfl⟩ : ∃ e, d = e + 1 := ⟨d - 1, by omega⟩
            obtain ⟨r10, r300, r12⟩ := r_hdr hP.1
            obtain ⟨w, g⟩ := RS (show _ ≤ e by omega) hP
            obtain ⟨M1, e1, Q1⟩ := y6 M0 M e (by omega) hP
            have F1 := Q1.2 qf
            have E1 := r_123F F1 (v := ir_I M1 412 10) (d := e) (by omega)
            have E2 := r_blameF F1 (w := nI 2) (d := e) (by omega)
            dsimp only at e1
            refine ⟨M1, ?_, Q1⟩
            dsimp only
            rw [E_X12_readUnit]
            simp (disch := omega) only [q_ckt, q_lt, q_cI, q_cJ, q_cV, q_cP, q_xI, q_xV, q_xP, q_xJ, g_gk, g_ga, g_gw, g_gp, g_gq, g_P, g_J, q_I_s, q_I_n, q_I_k, nI_add, pk_sub, pk_mul, nI_clamp, n_lt0, n_0lt, n_eq0, n_lt, n_le, n_eq, n_m1, n_m2, n_m9, n_12, n_19, n_10, n_01, n_1n1, n_0n1, n_1n0, n_0n0, n_dI, n_m1lt, q_inb, n_nar, n_nar0, n_nar1, n_bool, Bool.false_eq_true, Bool.true_eq_false, if_true, if_false, ↓reduceIte, Nat.reduceAdd, Nat.reduceMul, Nat.reduceSub, Nat.reduceLT, Nat.reduceLeDiff, Nat.reduceEqDiff, Nat.reduceMod, Nat.reduceDiv, q_R hP.1.1.1, r12, w, g, e1, q_R F1.1.1, r_F_z F1, E1, E2]
            split
            · rfl
            · split
              · rfl
              · split
                · rfl
                · rfl
/-- the law, at every depth -/
theorem w_all (h900 : n ≤ 900) : ∀ (r dp : Nat), dp + r = 6 → w_S B n L xs dp ∧ w_U B n L xs dp ∧ w_R B n L xs dp
  | r, dp, hr => by
    have hdp : dp ≤ 6 := by omega
    have ih : dp < 6 → w_S B n L xs (dp + 1) ∧ w_U B n L xs (dp + 1) ∧ w_R B n L xs (dp + 1) := by
      intro h
      match r, hr with
      | 0, hr => omega
      | r + 1, hr => exact w_all h900 r (dp + 1) (by omega)
    have A := w_Atom (B := B) (L := L) (xs := xs) h900 hdp (fun h => (ih h).1)
    have T := w_Term (tl := 2 * dp + 4) (by omega) h900 (by omega) A
    have S : w_S B n L xs dp := by
      have z := w_Sum (tl := 2 * dp + 3) (by omega) h900 (by omega) T
      rw [show 10 + 6 * (6 - dp) + 1 + 1 = 12 + 6 * (6 - dp) by omega] at z
      exact z
    have U := w_Unit h900 hdp (fun h => (ih h).2.2) (fun h => (ih h).2.1) S
    have Bo := w_Both (tl := 2 * dp + 1) (by omega) h900 (by omega) U
    have R : w_R B n L xs dp := by
      have z := w_Truth (tl := 2 * dp) (by omega) h900 (by omega) Bo
      rw [show 13 + 6 * (6 - dp) + 1 + 1 = 15 + 6 * (6 - dp) by omega] at z
      exact z
    exact ⟨S, U, R⟩
theorem w_law (h900 : n ≤ 900) : w_R B n L xs 0 := (w_all h900 6 0 rfl).2.2
end WU
