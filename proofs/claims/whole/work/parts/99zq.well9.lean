/-! THE WELL: an atom, a unit, the law -/
section WA
variable {B : Nat → Nat} {n L : Nat} {xs : Nat → Int32} {M0 M : ir_M} {d dp s f p : Nat} {K : Nat → Int32}
theorem r_lwd (h : r_T B n L xs M0 dp s M) (hd : 8 ≤ d) : ∃ M', m_X12_lawWord d 412 M = ir_oI (if 270 ≤ k_kd B n s ∧ k_kd B n s ≤ 277 then nI (k_kd B n s - 270) else -1) M' ∧ (270 ≤ k_kd B n s ∧ k_kd B n s ≤ 277 → r_T B n L xs M0 dp (k_nt B n s) M' ∧ q_eq [412] M M') ∧ (¬ (270 ≤ k_kd B n s ∧ k_kd B n s ≤ 277) → M' = M) := by
  obtain ⟨e, rfl⟩ : ∃ e, d = e + 1 := ⟨d - 1, by omega⟩
  by_cases c : 270 ≤ k_kd B n s ∧ k_kd B n s ≤ 277
  · rw [if_pos c]
    have c8 : k_kd B n s = 256 + 14 ∨ k_kd B n s = 256 + 15 ∨ k_kd B n s = 256 + 16 ∨ k_kd B n s = 256 + 17 ∨ k_kd B n s = 256 + 18 ∨ k_kd B n s = 256 + 19 ∨ k_kd B n s = 256 + 20 ∨ k_kd B n s = 256 + 21 := by omega
    rcases c8 with z | z | z | z | z | z | z | z
    · obtain ⟨M', e1, t1⟩ := r_tookY (d := e) h (j := 14) (a := 1000048) (by decide) rfl z (by omega)
      refine ⟨M', ?_, fun _ => t1, fun w => absurd c w⟩
      rw [E_X12_lawWord, z]
      simp (disch := omega) only [q_ckt, q_lt, q_cI, q_cJ, q_cV, q_cP, q_xI, q_xV, q_xP, q_xJ, g_gk, g_ga, g_gw, g_gp, g_gq, g_P, g_J, q_I_s, q_I_n, q_I_k, nI_add, pk_sub, pk_mul, nI_clamp, n_lt0, n_0lt, n_eq0, n_lt, n_le, n_eq, n_m1, n_m2, n_m9, n_12, n_19, n_10, n_01, n_1n1, n_0n1, n_1n0, n_0n0, n_dI, n_m1lt, q_inb, n_nar, n_nar0, n_nar1, n_bool, Bool.false_eq_true, Bool.true_eq_false, if_true, if_false, ↓reduceIte, Nat.reduceAdd, Nat.reduceMul, Nat.reduceSub, Nat.reduceLT, Nat.reduceLeDiff, Nat.reduceEqDiff, Nat.reduceMod, Nat.reduceDiv, q_R h.1.1, e1]
    · have w0 := r_tookN (d := e) h (j := 14) (a := 1000048) (by decide) rfl (by omega) (by omega)
      obtain ⟨M', e1, t1⟩ := r_tookY (d := e) h (j := 15) (a := 1000038) (by decide) rfl z (by omega)
      refine ⟨M', ?_, fun _ => t1, fun w => absurd c w⟩
      rw [E_X12_lawWord, z]
      simp (disch := omega) only [q_ckt, q_lt, q_cI, q_cJ, q_cV, q_cP, q_xI, q_xV, q_xP, q_xJ, g_gk, g_ga, g_gw, g_gp, g_gq, g_P, g_J, q_I_s, q_I_n, q_I_k, nI_add, pk_sub, pk_mul, nI_clamp, n_lt0, n_0lt, n_eq0, n_lt, n_le, n_eq, n_m1, n_m2, n_m9, n_12, n_19, n_10, n_01, n_1n1, n_0n1, n_1n0, n_0n0, n_dI, n_m1lt, q_inb, n_nar, n_nar0, n_nar1, n_bool, Bool.false_eq_true, Bool.true_eq_false, if_true, if_false, ↓reduceIte, Nat.reduceAdd, Nat.reduceMul, Nat.reduceSub, Nat.reduceLT, Nat.reduceLeDiff, Nat.reduceEqDiff, Nat.reduceMod, Nat.reduceDiv, q_R h.1.1, w0, e1]
    · have w0 := r_tookN (d := e) h (j := 14) (a := 1000048) (by decide) rfl (by omega) (by omega)
      have w1 := r_tookN (d := e) h (j := 15) (a := 1000038) (by decide) rfl (by omega) (by omega)
      obtain ⟨M', e1, t1⟩ := r_tookY (d := e) h (j := 16) (a := 1000035) (by decide) rfl z (by omega)
      refine ⟨M', ?_, fun _ => t1, fun w => absurd c w⟩
      rw [E_X12_lawWord, z]
      simp (disch := omega) only [q_ckt, q_lt, q_cI, q_cJ, q_cV, q_cP, q_xI, q_xV, q_xP, q_xJ, g_gk, g_ga, g_gw, g_gp, g_gq, g_P, g_J, q_I_s, q_I_n, q_I_k, nI_add, pk_sub, pk_mul, nI_clamp, n_lt0, n_0lt, n_eq0, n_lt, n_le, n_eq, n_m1, n_m2, n_m9, n_12, n_19, n_10, n_01, n_1n1, n_0n1, n_1n0, n_0n0, n_dI, n_m1lt, q_inb, n_nar, n_nar0, n_nar1, n_bool, Bool.false_eq_true, Bool.true_eq_false, if_true, if_false, ↓reduceIte, Nat.reduceAdd, Nat.reduceMul, Nat.reduceSub, Nat.reduceLT, Nat.reduceLeDiff, Nat.reduceEqDiff, Nat.reduceMod, Nat.reduceDiv, q_R h.1.1, w0, w1, e1]
    · have w0 := r_tookN (d := e) h (j := 14) (a := 1000048) (by decide) rfl (by omega) (by omega)
      have w1 := r_tookN (d := e) h (j := 15) (a := 1000038) (by decide) rfl (by omega) (by omega)
      have w2 := r_tookN (d := e) h (j := 16) (a := 1000035) (by decide) rfl (by omega) (by omega)
      obtain ⟨M', e1, t1⟩ := r_tookY (d := e) h (j := 17) (a := 1000036) (by decide) rfl z (by omega)
      refine ⟨M', ?_, fun _ => t1, fun w => absurd c w⟩
      rw [E_X12_lawWord, z]
      simp (disch := omega) only [q_ckt, q_lt, q_cI, q_cJ, q_cV, q_cP, q_xI, q_xV, q_xP, q_xJ, g_gk, g_ga, g_gw, g_gp, g_gq, g_P, g_J, q_I_s, q_I_n, q_I_k, nI_add, pk_sub, pk_mul, nI_clamp, n_lt0, n_0lt, n_eq0, n_lt, n_le, n_eq, n_m1, n_m2, n_m9, n_12, n_19, n_10, n_01, n_1n1, n_0n1, n_1n0, n_0n0, n_dI, n_m1lt, q_inb, n_nar, n_nar0, n_nar1, n_bool, Bool.false_eq_true, Bool.true_eq_false, if_true, if_false, ↓reduceIte, Nat.reduceAdd, Nat.reduceMul, Nat.reduceSub, Nat.reduceLT, Nat.reduceLeDiff, Nat.reduceEqDiff, Nat.reduceMod, Nat.reduceDiv, q_R h.1.1, w0, w1, w2, e1]
    · have w0 := r_tookN (d := e) h (j := 14) (a := 1000048) (by decide) rfl (by omega) (by omega)
      have w1 := r_tookN (d := e) h (j := 15) (a := 1000038) (by decide) rfl (by omega) (by omega)
      have w2 := r_tookN (d := e) h (j := 16) (a := 1000035) (by decide) rfl (by omega) (by omega)
      have w3 := r_tookN (d := e) h (j := 17) (a := 1000036) (by decide) rfl (by omega) (by omega)
      obtain ⟨M', e1, t1⟩ := r_tookY (d := e) h (j := 18) (a := 1000049) (by decide) rfl z (by omega)
      refine ⟨M', ?_, fun _ => t1, fun w => absurd c w⟩
      rw [E_X12_lawWord, z]
      simp (disch := omega) only [q_ckt, q_lt, q_cI, q_cJ, q_cV, q_cP, q_xI, q_xV, q_xP, q_xJ, g_gk, g_ga, g_gw, g_gp, g_gq, g_P, g_J, q_I_s, q_I_n, q_I_k, nI_add, pk_sub, pk_mul, nI_clamp, n_lt0, n_0lt, n_eq0, n_lt, n_le, n_eq, n_m1, n_m2, n_m9, n_12, n_19, n_10, n_01, n_1n1, n_0n1, n_1n0, n_0n0, n_dI, n_m1lt, q_inb, n_nar, n_nar0, n_nar1, n_bool, Bool.false_eq_true, Bool.true_eq_false, if_true, if_false, ↓reduceIte, Nat.reduceAdd, Nat.reduceMul, Nat.reduceSub, Nat.reduceLT, Nat.reduceLeDiff, Nat.reduceEqDiff, Nat.reduceMod, Nat.reduceDiv, q_R h.1.1, w0, w1, w2, w3, e1]
    · have w0 := r_tookN (d := e) h (j := 14) (a := 1000048) (by decide) rfl (by omega) (by omega)
      have w1 := r_tookN (d := e) h (j := 15) (a := 1000038) (by decide) rfl (by omega) (by omega)
      have w2 := r_tookN (d := e) h (j := 16) (a := 1000035) (by decide) rfl (by omega) (by omega)
      have w3 := r_tookN (d := e) h (j := 17) (a := 1000036) (by decide) rfl (by omega) (by omega)
      have w4 := r_tookN (d := e) h (j := 18) (a := 1000049) (by decide) rfl (by omega) (by omega)
      obtain ⟨M', e1, t1⟩ := r_tookY (d := e) h (j := 19) (a := 1000050) (by decide) rfl z (by omega)
      refine ⟨M', ?_, fun _ => t1, fun w => absurd c w⟩
      rw [E_X12_lawWord, z]
      simp (disch := omega) only [q_ckt, q_lt, q_cI, q_cJ, q_cV, q_cP, q_xI, q_xV, q_xP, q_xJ, g_gk, g_ga, g_gw, g_gp, g_gq, g_P, g_J, q_I_s, q_I_n, q_I_k, nI_add, pk_sub, pk_mul, nI_clamp, n_lt0, n_0lt, n_eq0, n_lt, n_le, n_eq, n_m1, n_m2, n_m9, n_12, n_19, n_10, n_01, n_1n1, n_0n1, n_1n0, n_0n0, n_dI, n_m1lt, q_inb, n_nar, n_nar0, n_nar1, n_bool, Bool.false_eq_true, Bool.true_eq_false, if_true, if_false, ↓reduceIte, Nat.reduceAdd, Nat.reduceMul, Nat.reduceSub, Nat.reduceLT, Nat.reduceLeDiff, Nat.reduceEqDiff, Nat.reduceMod, Nat.reduceDiv, q_R h.1.1, w0, w1, w2, w3, w4, e1]
    · have w0 := r_tookN (d := e) h (j := 14) (a := 1000048) (by decide) rfl (by omega) (by omega)
      have w1 := r_tookN (d := e) h (j := 15) (a := 1000038) (by decide) rfl (by omega) (by omega)
      have w2 := r_tookN (d := e) h (j := 16) (a := 1000035) (by decide) rfl (by omega) (by omega)
      have w3 := r_tookN (d := e) h (j := 17) (a := 1000036) (by decide) rfl (by omega) (by omega)
      have w4 := r_tookN (d := e) h (j := 18) (a := 1000049) (by decide) rfl (by omega) (by omega)
      have w5 := r_tookN (d := e) h (j := 19) (a := 1000050) (by decide) rfl (by omega) (by omega)
      obtain ⟨M', e1, t1⟩ := r_tookY (d := e) h (j := 20) (a := 1000051) (by decide) rfl z (by omega)
      refine ⟨M', ?_, fun _ => t1, fun w => absurd c w⟩
      rw [E_X12_lawWord, z]
      simp (disch := omega) only [q_ckt, q_lt, q_cI, q_cJ, q_cV, q_cP, q_xI, q_xV, q_xP, q_xJ, g_gk, g_ga, g_gw, g_gp, g_gq, g_P, g_J, q_I_s, q_I_n, q_I_k, nI_add, pk_sub, pk_mul, nI_clamp, n_lt0, n_0lt, n_eq0, n_lt, n_le, n_eq, n_m1, n_m2, n_m9, n_12, n_19, n_10, n_01, n_1n1, n_0n1, n_1n0, n_0n0, n_dI, n_m1lt, q_inb, n_nar, n_nar0, n_nar1, n_bool, Bool.false_eq_true, Bool.true_eq_false, if_true, if_false, ↓reduceIte, Nat.reduceAdd, Nat.reduceMul, Nat.reduceSub, Nat.reduceLT, Nat.reduceLeDiff, Nat.reduceEqDiff, Nat.reduceMod, Nat.reduceDiv, q_R h.1.1, w0, w1, w2, w3, w4, w5, e1]
    · have w0 := r_tookN (d := e) h (j := 14) (a := 1000048) (by decide) rfl (by omega) (by omega)
      have w1 := r_tookN (d := e) h (j := 15) (a := 1000038) (by decide) rfl (by omega) (by omega)
      have w2 := r_tookN (d := e) h (j := 16) (a := 1000035) (by decide) rfl (by omega) (by omega)
      have w3 := r_tookN (d := e) h (j := 17) (a := 1000036) (by decide) rfl (by omega) (by omega)
      have w4 := r_tookN (d := e) h (j := 18) (a := 1000049) (by decide) rfl (by omega) (by omega)
      have w5 := r_tookN (d := e) h (j := 19) (a := 1000050) (by decide) rfl (by omega) (by omega)
      have w6 := r_tookN (d := e) h (j := 20) (a := 1000051) (by decide) rfl (by omega) (by omega)
      obtain ⟨M', e1, t1⟩ := r_tookY (d := e) h (j := 21) (a := 1000052) (by decide) rfl z (by omega)
      refine ⟨M', ?_, fun _ => t1, fun w => absurd c w⟩
      rw [E_X12_lawWord, z]
      simp (disch := omega) only [q_ckt, q_lt, q_cI, q_cJ, q_cV, q_cP, q_xI, q_xV, q_xP, q_xJ, g_gk, g_ga, g_gw, g_gp, g_gq, g_P, g_J, q_I_s, q_I_n, q_I_k, nI_add, pk_sub, pk_mul, nI_clamp, n_lt0, n_0lt, n_eq0, n_lt, n_le, n_eq, n_m1, n_m2, n_m9, n_12, n_19, n_10, n_01, n_1n1, n_0n1, n_1n0, n_0n0, n_dI, n_m1lt, q_inb, n_nar, n_nar0, n_nar1, n_bool, Bool.false_eq_true, Bool.true_eq_false, if_true, if_false, ↓reduceIte, Nat.reduceAdd, Nat.reduceMul, Nat.reduceSub, Nat.reduceLT, Nat.reduceLeDiff, Nat.reduceEqDiff, Nat.reduceMod, Nat.reduceDiv, q_R h.1.1, w0, w1, w2, w3, w4, w5, w6, e1]
  · rw [if_neg c]
    have w0 := r_tookN (d := e) h (j := 14) (a := 1000048) (by decide) rfl (by omega) (by omega)
    have w1 := r_tookN (d := e) h (j := 15) (a := 1000038) (by decide) rfl (by omega) (by omega)
    have w2 := r_tookN (d := e) h (j := 16) (a := 1000035) (by decide) rfl (by omega) (by omega)
    have w3 := r_tookN (d := e) h (j := 17) (a := 1000036) (by decide) rfl (by omega) (by omega)
    have w4 := r_tookN (d := e) h (j := 18) (a := 1000049) (by decide) rfl (by omega) (by omega)
    have w5 := r_tookN (d := e) h (j := 19) (a := 1000050) (by decide) rfl (by omega) (by omega)
    have w6 := r_tookN (d := e) h (j := 20) (a := 1000051) (by decide) rfl (by omega) (by omega)
    have w7 := r_tookN (d := e) h (j := 21) (a := 1000052) (by decide) rfl (by omega) (by omega)
    refine ⟨M, ?_, fun w => absurd w c, fun _ => rfl⟩
    rw [E_X12_lawWord]
    simp (disch := omega) only [q_ckt, q_lt, q_cI, q_cJ, q_cV, q_cP, q_xI, q_xV, q_xP, q_xJ, g_gk, g_ga, g_gw, g_gp, g_gq, g_P, g_J, q_I_s, q_I_n, q_I_k, nI_add, pk_sub, pk_mul, nI_clamp, n_lt0, n_0lt, n_eq0, n_lt, n_le, n_eq, n_m1, n_m2, n_m9, n_12, n_19, n_10, n_01, n_1n1, n_0n1, n_1n0, n_0n0, n_dI, n_m1lt, q_inb, n_nar, n_nar0, n_nar1, n_bool, Bool.false_eq_true, Bool.true_eq_false, if_true, if_false, ↓reduceIte, Nat.reduceAdd, Nat.reduceMul, Nat.reduceSub, Nat.reduceLT, Nat.reduceLeDiff, Nat.reduceEqDiff, Nat.reduceMod, Nat.reduceDiv, q_R h.1.1, w0, w1, w2, w3, w4, w5, w6, w7]
theorem k_1_0 : k_1 0 = nI 1 := rfl
theorem k_1_n (h : f ≠ 0) : k_1 f = nI 0 := if_neg h
abbrev w_S (B : Nat → Nat) (n L : Nat) (xs : Nat → Int32) (dp : Nat) : Prop := w_W B n L xs (12 + 6 * (6 - dp)) dp (2 * dp + 3) false (fun d M => m_X4_readSum d 100 (nI dp) M) (fun d M => m_X12_readSum d 412 M)
abbrev w_A (B : Nat → Nat) (n L : Nat) (xs : Nat → Int32) (dp : Nat) : Prop := w_W B n L xs (10 + 6 * (6 - dp)) dp (2 * dp + 5) false (fun d M => m_X4_readAtom d 100 (nI dp) M) (fun d M => m_X12_readAtom d 412 M)
abbrev w_U (B : Nat → Nat) (n L : Nat) (xs : Nat → Int32) (dp : Nat) : Prop := w_W B n L xs (13 + 6 * (6 - dp)) dp (2 * dp + 2) true (fun d M => m_X4_readUnit d 100 (nI dp) M) (fun d M => m_X12_readUnit d 412 M)
abbrev w_R (B : Nat → Nat) (n L : Nat) (xs : Nat → Int32) (dp : Nat) : Prop := w_W B n L xs (15 + 6 * (6 - dp)) dp (2 * dp) true (fun d M => m_X4_readTruth d 100 (nI dp) M) (fun d M => m_X12_readTruth d 412 M)
theorem k_gl1 (hb : k_bsz K) (h : r_P B n L xs M0 dp s K M) : ∃ g : Nat, g ≤ 6 ∧ ir_I M 414 1 = nI g := by
  obtain ⟨g, g1, g2⟩ := hb.2.2.2.2.2
  exact ⟨g, g1, (h.2 1).trans g2⟩
theorem w_Atom (h900 : n ≤ 900) (hdp : dp ≤ 6) (hS : dp < 6 → w_S B n L xs (dp + 1)) : w_A B n L xs dp := by
  intro s K c τ hs hL hc ht hb
  obtain ⟨b1, b2, b3, b4, b5, b6, b7, b8⟩ := k_nt_b (B := B) hs
  by_cases q1 : k_kd B n s = 40
  · have sg : ∀ {M0 M d}, r_T B n L xs M0 dp s M → 1 ≤ d → m_X12_isSign d 412 (nI 40) M = ir_oI (nI 1) M := fun {M0 M d} h hd => by
      have w := r_sign (d := d) h (c := 40) (by decide) hd
      rw [if_pos q1] at w
      exact w
    have lw : ∀ {M0 M d}, r_T B n L xs M0 dp s M → 8 ≤ d → m_X12_lawWord d 412 M = ir_oI (-1) M := fun {M0 M d} h hd => by
      obtain ⟨M', e1, -, e3⟩ := r_lwd (d := d) h hd
      rw [if_neg (by omega), e3 (by omega)] at e1
      exact e1
    by_cases q2 : dp = 6
    · have ef : k_fk (k_kd B n s) 4 = 4 := by rw [q1]; rfl
      refine ⟨4, s, K, c, by decide, Nat.le_refl _, hs, (fun z => nomatch z), fun M0 M d hd hP => ?_, fun M0 M d hd hP => ?_⟩
      · obtain ⟨e, rfl⟩ : ∃ e, d = e + 1 := ⟨d - 1, by omega⟩
        obtain ⟨h6, h8, -, h300⟩ := c_hdr hP.1
        obtain ⟨M', e1, t1⟩ := c_ref (d := e) hP.1 (w := 4) (by decide) (by omega)
        rw [ef] at t1
        refine ⟨M', ?_, (fun z => nomatch z), fun _ => t1⟩
        dsimp only
        rw [E_X4_readAtom, k_1_n (by decide), q2]
        simp (disch := omega) only [q_ckt, q_lt, q_cI, q_cJ, q_cV, q_cP, q_xI, q_xV, q_xP, q_xJ, g_gk, g_ga, g_gw, g_gp, g_gq, g_P, g_J, q_I_s, q_I_n, q_I_k, nI_add, pk_sub, pk_mul, nI_clamp, n_lt0, n_0lt, n_eq0, n_lt, n_le, n_eq, n_m1, n_m2, n_m9, n_12, n_19, n_10, n_01, n_1n1, n_0n1, n_1n0, n_0n0, n_dI, n_m1lt, q_inb, n_nar, n_nar0, n_nar1, n_bool, Bool.false_eq_true, Bool.true_eq_false, if_true, if_false, ↓reduceIte, Nat.reduceAdd, Nat.reduceMul, Nat.reduceSub, Nat.reduceLT, Nat.reduceLeDiff, Nat.reduceEqDiff, Nat.reduceMod, Nat.reduceDiv, q_D hP.1.1.1, h8, q1, e1, n_nr]
      · obtain ⟨e, rfl⟩ : ∃ e, d = e + 1 := ⟨d - 1, by omega⟩
        obtain ⟨r10, r300, r12⟩ := r_hdr hP.1
        obtain ⟨g, g1, g2⟩ := k_gl1 hb hP
        obtain ⟨M1, e1, -, t1⟩ := r_in (d := e) hP.1 hdp g1 g2 (by omega)
        have t1 := t1 q2
        rw [ef] at t1
        have t2 := r_F_s (k := 16) (v := ir_I M1 412 16 - nI 1) t1 (by decide)
        refine ⟨_, ?_, (fun z => nomatch z), fun _ => t2⟩
        dsimp only
        rw [E_X12_readAtom]
        simp (disch := omega) only [q_ckt, q_lt, q_cI, q_cJ, q_cV, q_cP, q_xI, q_xV, q_xP, q_xJ, g_gk, g_ga, g_gw, g_gp, g_gq, g_P, g_J, q_I_s, q_I_n, q_I_k, nI_add, pk_sub, pk_mul, nI_clamp, n_lt0, n_0lt, n_eq0, n_lt, n_le, n_eq, n_m1, n_m2, n_m9, n_12, n_19, n_10, n_01, n_1n1, n_0n1, n_1n0, n_0n0, n_dI, n_m1lt, q_inb, n_nar, n_nar0, n_nar1, n_bool, Bool.false_eq_true, Bool.true_eq_false, if_true, if_false, ↓reduceIte, Nat.reduceAdd, Nat.reduceMul, Nat.reduceSub, Nat.reduceLT, Nat.reduceLeDiff, Nat.reduceEqDiff, Nat.reduceMod, Nat.reduceDiv, q_R hP.1.1.1, r12, lw hP.1 (show 8 ≤ e by omega), sg hP.1 (show 1 ≤ e by omega), e1, q_R t1.1.1, r_sumF t1 (show 3 ≤ e by omega), r_mustF t1 (c := nI 41) (show 2 ≤ e by omega)]
    · have q3 : dp < 6 := by omega
      have s1 := b3 (by omega)
      obtain ⟨f1, p1, K1, c1, y1, y2, y3, y4, y5, y6⟩ := hS q3 (k_nt B n s) K c τ b2 hL (by omega) (by omega) hb
      have CL : ∀ (M0 M : ir_M) (e : Nat), 9 + 6 * (6 - dp) ≤ e → c_P B n L xs M0 s K M → ∃ M2, c_Q B n L xs M0 f1 p1 K1 M2 ∧ m_X4_readAtom (e + 1) 100 (nI dp) M = if k_1 f1 = 0 then ir_oI (nI 0) M2 else ir_cI (m_X4_take e 100 (nI 41) M2) (fun r M3 => if r = 0 then ir_oI (nI 0) M3 else ir_oI (nI 1) M3) := fun M0 M e he hP => by
        obtain ⟨h6, h8, -, h300⟩ := c_hdr hP.1
        obtain ⟨M1, e1, P1⟩ := c_P_n (d := e) hP (by omega)
        obtain ⟨M2, e2, Q2⟩ := y5 M0 M1 e (by omega) P1
        have pi2 : q_PI M2 := by
          by_cases z : f1 = 0
          · exact (Q2.1 z).1.1.1
          · exact (Q2.2 z).1.1
        have e2' : m_X4_readSum e 100 (nI (dp + 1)) M1 = ir_oI (k_1 f1) M2 := e2
        refine ⟨M2, Q2, ?_⟩
        rw [E_X4_readAtom]
        simp (disch := omega) only [q_ckt, q_lt, q_cI, q_cJ, q_cV, q_cP, q_xI, q_xV, q_xP, q_xJ, g_gk, g_ga, g_gw, g_gp, g_gq, g_P, g_J, q_I_s, q_I_n, q_I_k, nI_add, pk_sub, pk_mul, nI_clamp, n_lt0, n_0lt, n_eq0, n_lt, n_le, n_eq, n_m1, n_m2, n_m9, n_12, n_19, n_10, n_01, n_1n1, n_0n1, n_1n0, n_0n0, n_dI, n_m1lt, q_inb, n_nar, n_nar0, n_nar1, n_bool, Bool.false_eq_true, Bool.true_eq_false, if_true, if_false, ↓reduceIte, Nat.reduceAdd, Nat.reduceMul, Nat.reduceSub, Nat.reduceLT, Nat.reduceLeDiff, Nat.reduceEqDiff, Nat.reduceMod, Nat.reduceDiv, q_D hP.1.1.1, h8, q1, q3, e1, q_D P1.1.1.1, e2', n_nr, q_D pi2]
      have RL : ∀ (M0 M : ir_M) (e : Nat), 9 + 6 * (6 - dp) ≤ e → r_P B n L xs M0 dp s K M → ∃ M2, r_Q B n L xs M0 (dp + 1) f1 p1 K1 M2 ∧ ∀ M3, m_X12_mustSign e 412 (nI 41) M2 = ir_oV M3 → q_PI M3 → m_X12_readAtom (e + 1) 412 M = ir_oV (ir_sI M3 412 16 (ir_I M3 412 16 - nI 1)) := fun M0 M e he hP => by
        obtain ⟨r10, r300, r12⟩ := r_hdr hP.1
        obtain ⟨g, g1, g2⟩ := k_gl1 hb hP
        obtain ⟨M1, e1, t1, -⟩ := r_in (d := e) hP.1 hdp g1 g2 (by omega)
        obtain ⟨t1, q1'⟩ := t1 q3
        obtain ⟨M2, e2, Q2⟩ := y6 M0 M1 e (by omega) ⟨t1, fun k => (q_I_eq q1' (by decide) k).trans (hP.2 k)⟩
        have pi2 : q_PI M2 := by
          by_cases z : f1 = 0
          · exact (Q2.1 z).1.1.1
          · exact (Q2.2 z).1.1
        refine ⟨M2, Q2, fun M3 e3 p3 => ?_⟩
        dsimp only at e2
        rw [E_X12_readAtom]
        simp (disch := omega) only [q_ckt, q_lt, q_cI, q_cJ, q_cV, q_cP, q_xI, q_xV, q_xP, q_xJ, g_gk, g_ga, g_gw, g_gp, g_gq, g_P, g_J, q_I_s, q_I_n, q_I_k, nI_add, pk_sub, pk_mul, nI_clamp, n_lt0, n_0lt, n_eq0, n_lt, n_le, n_eq, n_m1, n_m2, n_m9, n_12, n_19, n_10, n_01, n_1n1, n_0n1, n_1n0, n_0n0, n_dI, n_m1lt, q_inb, n_nar, n_nar0, n_nar1, n_bool, Bool.false_eq_true, Bool.true_eq_false, if_true, if_false, ↓reduceIte, Nat.reduceAdd, Nat.reduceMul, Nat.reduceSub, Nat.reduceLT, Nat.reduceLeDiff, Nat.reduceEqDiff, Nat.reduceMod, Nat.reduceDiv, q_R hP.1.1.1, r12, lw hP.1 (show 8 ≤ e by omega), sg hP.1 (show 1 ≤ e by omega), e1, q_R t1.1.1, e2, q_R pi2, e3, q_R p3]
      by_cases qf : f1 = 0
      · obtain ⟨w1, w2, w3, w4⟩ := y4 qf
        have hb1 := k_bsz_w hb (k_lw_7 w3)
        obtain ⟨a1, a2, a3, a4, a5, a6, a7, a8⟩ := k_nt_b (B := B) y3
        by_cases q4 : k_kd B n p1 = 41
        · have a3' := a3 (by omega)
          refine ⟨0, k_nt B n p1, K1, c1, by decide, by omega, a2, fun _ => ⟨by omega, by omega, w3, w4⟩, fun M0 M d hd hP => ?_, fun M0 M d hd hP => ?_⟩
          · obtain ⟨e, rfl⟩ : ∃ e, d = e + 1 := ⟨d - 1, by omega⟩
            obtain ⟨M2, Q2, E⟩ := CL M0 M e (by omega) hP
            have P2 := Q2.1 qf
            obtain ⟨M3, e3, t3, -⟩ := c_tk (d := e) P2.1 (w := 41) (by decide) (by omega)
            obtain ⟨t3, q3'⟩ := t3 q4
            rw [if_pos q4] at e3
            refine ⟨M3, ?_, fun _ => ⟨t3, c_K_eq q3' (by decide) P2.2⟩, fun z => absurd rfl z⟩
            dsimp only
            rw [E, qf, k_1_0]
            simp (disch := omega) only [q_ckt, q_lt, q_cI, q_cJ, q_cV, q_cP, q_xI, q_xV, q_xP, q_xJ, g_gk, g_ga, g_gw, g_gp, g_gq, g_P, g_J, q_I_s, q_I_n, q_I_k, nI_add, pk_sub, pk_mul, nI_clamp, n_lt0, n_0lt, n_eq0, n_lt, n_le, n_eq, n_m1, n_m2, n_m9, n_12, n_19, n_10, n_01, n_1n1, n_0n1, n_1n0, n_0n0, n_dI, n_m1lt, q_inb, n_nar, n_nar0, n_nar1, n_bool, Bool.false_eq_true, Bool.true_eq_false, if_true, if_false, ↓reduceIte, Nat.reduceAdd, Nat.reduceMul, Nat.reduceSub, Nat.reduceLT, Nat.reduceLeDiff, Nat.reduceEqDiff, Nat.reduceMod, Nat.reduceDiv, e3]
          · obtain ⟨e, rfl⟩ : ∃ e, d = e + 1 := ⟨d - 1, by omega⟩
            obtain ⟨M2, Q2, E⟩ := RL M0 M e (by omega) hP
            have P2 := Q2.1 qf
            obtain ⟨g, g1, g2⟩ := k_gl1 hb1 P2
            obtain ⟨M3, e3, t3, -⟩ := r_must (d := e) P2.1 (c := 41) (by decide) g1 g2 (by omega)
            obtain ⟨t3, q3'⟩ := t3 q4
            have t4 := r_T_dp t3 hdp
            refine ⟨_, E M3 e3 t3.1.1, fun _ => ⟨?_, fun k => ?_⟩, fun z => absurd rfl z⟩
            · rw [t3.2.2.2.2.2.2.2.2.2]; exact t4
            · rw [q_I_eq (S := [412]) (q_eq.sI (by decide)) (by decide), q_I_eq q3' (by decide)]; exact P2.2 k
        · have kb := k_fk_b (kd := k_kd B n p1) (w := 2) (by decide)
          refine ⟨k_fk (k_kd B n p1) 2, p1, K1, c1, kb.2, by omega, y3, fun z => absurd z kb.1, fun M0 M d hd hP => ?_, fun M0 M d hd hP => ?_⟩
          · obtain ⟨e, rfl⟩ : ∃ e, d = e + 1 := ⟨d - 1, by omega⟩
            obtain ⟨M2, Q2, E⟩ := CL M0 M e (by omega) hP
            have P2 := Q2.1 qf
            obtain ⟨M3, e3, -, t3⟩ := c_tk (d := e) P2.1 (w := 41) (by decide) (by omega)
            rw [if_neg q4] at e3
            refine ⟨M3, ?_, fun z => absurd z kb.1, fun _ => t3 q4⟩
            dsimp only
            rw [E, qf, k_1_0, k_1_n kb.1]
            simp (disch := omega) only [q_ckt, q_lt, q_cI, q_cJ, q_cV, q_cP, q_xI, q_xV, q_xP, q_xJ, g_gk, g_ga, g_gw, g_gp, g_gq, g_P, g_J, q_I_s, q_I_n, q_I_k, nI_add, pk_sub, pk_mul, nI_clamp, n_lt0, n_0lt, n_eq0, n_lt, n_le, n_eq, n_m1, n_m2, n_m9, n_12, n_19, n_10, n_01, n_1n1, n_0n1, n_1n0, n_0n0, n_dI, n_m1lt, q_inb, n_nar, n_nar0, n_nar1, n_bool, Bool.false_eq_true, Bool.true_eq_false, if_true, if_false, ↓reduceIte, Nat.reduceAdd, Nat.reduceMul, Nat.reduceSub, Nat.reduceLT, Nat.reduceLeDiff, Nat.reduceEqDiff, Nat.reduceMod, Nat.reduceDiv, e3]
          · obtain ⟨e, rfl⟩ : ∃ e, d = e + 1 := ⟨d - 1, by omega⟩
            obtain ⟨M2, Q2, E⟩ := RL M0 M e (by omega) hP
            have P2 := Q2.1 qf
            obtain ⟨g, g1, g2⟩ := k_gl1 hb1 P2
            obtain ⟨M3, e3, -, t3⟩ := r_must (d := e) P2.1 (c := 41) (by decide) g1 g2 (by omega)
            have t3 := t3 q4
            exact ⟨_, E M3 e3 t3.1.1, fun z => absurd z kb.1, fun _ => r_F_s t3 (by decide)⟩
      · refine ⟨f1, p1, K1, c1, y1, by omega, y3, fun z => absurd z qf, fun M0 M d hd hP => ?_, fun M0 M d hd hP => ?_⟩
        · obtain ⟨e, rfl⟩ : ∃ e, d = e + 1 := ⟨d - 1, by omega⟩
          obtain ⟨M2, Q2, E⟩ := CL M0 M e (by omega) hP
          refine ⟨M2, ?_, Q2⟩
          dsimp only
          rw [E, k_1_n qf]
          exact if_pos rfl
        · obtain ⟨e, rfl⟩ : ∃ e, d = e + 1 := ⟨d - 1, by omega⟩
          obtain ⟨M2, Q2, E⟩ := RL M0 M e (by omega) hP
          have F2 := Q2.2 qf
          exact ⟨_, E M2 (r_mustF F2 (by omega)) F2.1.1, fun z => absurd z qf, fun _ => r_F_s F2 (by decide)⟩
  · have sg : ∀ {M0 M d}, r_T B n L xs M0 dp s M → 1 ≤ d → m_X12_isSign d 412 (nI 40) M = ir_oI (nI 0) M := fun {M0 M d} h hd => by
      have w := r_sign (d := d) h (c := 40) (by decide) hd
      rw [if_neg q1] at w
      exact w
    have lw : ¬ (270 ≤ k_kd B n s ∧ k_kd B n s ≤ 277) → ∀ {M0 M d}, r_T B n L xs M0 dp s M → 8 ≤ d → m_X12_lawWord d 412 M = ir_oI (-1) M := fun z {M0 M d} h hd => by
      obtain ⟨M', e1, -, e3⟩ := r_lwd (d := d) h hd
      rw [if_neg z, e3 z] at e1
      exact e1
    have t999 : (nI 999).toInt = 999 := by decide +kernel
    by_cases q2 : k_kd B n s = 2
    · have v1000 := b6 q2
      have s1 := b3 (by omega)
      have hc9 : c < 900 := by omega
      have nf : k_nf (k_kd B n s) (k_vl B n s) 0 (nI 999).toInt = 0 := by
        unfold k_nf
        rw [if_pos q2, t999, if_pos (by omega)]
      refine ⟨0, k_nt B n s, k_stp1 K c (1000 + k_vl B n s), c + 1, by decide, b1, b2, fun _ => ⟨by omega, by omega, k_lw_s hc9, k_LI_s hL (by omega) (by
        unfold k_ty
        rw [if_pos (by omega), if_pos (by omega), if_pos (by omega)]) (by rw [List.length_cons]; omega)⟩, fun M0 M d hd hP => ?_, fun M0 M d hd hP => ?_⟩
      · obtain ⟨e, rfl⟩ : ∃ e, d = e + 1 := ⟨d - 1, by omega⟩
        obtain ⟨h6, h8, -, h300⟩ := c_hdr hP.1
        have h10 := hP.1.2.2.2.2.2.2.2.2.2 q2
        obtain ⟨M1, e1, P1⟩ := c_P_s (d := e) (st := 1000 + k_vl B n s) hP hb (by omega) hc9 hL.1 (by omega)
        have ec : k_cd (1000 + k_vl B n s) = k_vl B n s := by unfold k_cd; rw [if_pos (by omega)]; omega
        rw [ec] at e1
        obtain ⟨M2, e2, P2⟩ := c_P_n (d := e) P1 (by omega)
        refine ⟨M2, ?_, fun _ => P2, fun z => absurd rfl z⟩
        dsimp only
        rw [E_X4_readAtom, k_1_0]
        simp (disch := omega) only [q_ckt, q_lt, q_cI, q_cJ, q_cV, q_cP, q_xI, q_xV, q_xP, q_xJ, g_gk, g_ga, g_gw, g_gp, g_gq, g_P, g_J, q_I_s, q_I_n, q_I_k, nI_add, pk_sub, pk_mul, nI_clamp, n_lt0, n_0lt, n_eq0, n_lt, n_le, n_eq, n_m1, n_m2, n_m9, n_12, n_19, n_10, n_01, n_1n1, n_0n1, n_1n0, n_0n0, n_dI, n_m1lt, q_inb, n_nar, n_nar0, n_nar1, n_bool, Bool.false_eq_true, Bool.true_eq_false, if_true, if_false, ↓reduceIte, Nat.reduceAdd, Nat.reduceMul, Nat.reduceSub, Nat.reduceLT, Nat.reduceLeDiff, Nat.reduceEqDiff, Nat.reduceMod, Nat.reduceDiv, q_D hP.1.1.1, q_N hP.1.1.1, h8, q2, h10, e1, q_D P1.1.1.1, e2, n_nr]
      · obtain ⟨e, rfl⟩ : ∃ e, d = e + 1 := ⟨d - 1, by omega⟩
        obtain ⟨r10, r300, r12⟩ := r_hdr hP.1
        obtain ⟨g, g1, g2⟩ := k_gl1 hb hP
        obtain ⟨M1, e1, t1, -⟩ := r_num (d := e) hP.1 (a := 0) (hi := nI 999) (by decide) g1 g2 (by omega)
        obtain ⟨t1, q1'⟩ := t1 nf
        rw [if_pos nf] at e1
        obtain ⟨M2, e2, P2⟩ := r_P_s (d := e) (st := 1000 + k_vl B n s) ⟨t1, fun k => (q_I_eq q1' (by decide) k).trans (hP.2 k)⟩ hc9 hL.1 (by omega)
        refine ⟨M2, ?_, fun _ => P2, fun z => absurd rfl z⟩
        dsimp only
        rw [E_X12_readAtom]
        simp (disch := omega) only [q_ckt, q_lt, q_cI, q_cJ, q_cV, q_cP, q_xI, q_xV, q_xP, q_xJ, g_gk, g_ga, g_gw, g_gp, g_gq, g_P, g_J, q_I_s, q_I_n, q_I_k, nI_add, pk_sub, pk_mul, nI_clamp, n_lt0, n_0lt, n_eq0, n_lt, n_le, n_eq, n_m1, n_m2, n_m9, n_12, n_19, n_10, n_01, n_1n1, n_0n1, n_1n0, n_0n0, n_dI, n_m1lt, q_inb, n_nar, n_nar0, n_nar1, n_bool, Bool.false_eq_true, Bool.true_eq_false, if_true, if_false, ↓reduceIte, Nat.reduceAdd, Nat.reduceMul, Nat.reduceSub, Nat.reduceLT, Nat.reduceLeDiff, Nat.reduceEqDiff, Nat.reduceMod, Nat.reduceDiv, q_R hP.1.1.1, r12, lw (by omega) hP.1 (show 8 ≤ e by omega), sg hP.1 (show 1 ≤ e by omega), e1, q_R t1.1.1, e2]
    · by_cases q3 : 270 ≤ k_kd B n s ∧ k_kd B n s ≤ 277
      · have s1 := b3 (by omega)
        have hc9 : c < 900 := by omega
        obtain ⟨j, hj⟩ : ∃ j, k_kd B n s = 270 + j := ⟨k_kd B n s - 270, by omega⟩
        have nm : ¬ nI j = (-1 : Int32) := fun z => by
          have := congrArg Int32.toInt z
          rw [nI_toInt (by omega), show (-1 : Int32).toInt = -1 by decide +kernel] at this
          omega
        refine ⟨0, k_nt B n s, k_stp1 K c (100 + j), c + 1, by decide, b1, b2, fun _ => ⟨by omega, by omega, k_lw_s hc9, k_LI_s hL (by omega) (by
          unfold k_ty
          rw [if_pos (by omega), if_pos (by omega), if_pos (by omega)]) (by rw [List.length_cons]; omega)⟩, fun M0 M d hd hP => ?_, fun M0 M d hd hP => ?_⟩
        · obtain ⟨e, rfl⟩ : ∃ e, d = e + 1 := ⟨d - 1, by omega⟩
          obtain ⟨h6, h8, -, h300⟩ := c_hdr hP.1
          obtain ⟨M1, e1, P1⟩ := c_P_s (d := e) (st := 100 + j) hP hb (by omega) hc9 hL.1 (by omega)
          have ec : k_cd (100 + j) = 1000 + k_kd B n s - 270 := by unfold k_cd; rw [if_neg (by omega), if_pos (by omega)]; omega
          rw [ec] at e1
          obtain ⟨M2, e2, P2⟩ := c_P_n (d := e) P1 (by omega)
          refine ⟨M2, ?_, fun _ => P2, fun z => absurd rfl z⟩
          dsimp only
          rw [E_X4_readAtom, k_1_0]
          simp (disch := omega) only [q_ckt, q_lt, q_cI, q_cJ, q_cV, q_cP, q_xI, q_xV, q_xP, q_xJ, g_gk, g_ga, g_gw, g_gp, g_gq, g_P, g_J, q_I_s, q_I_n, q_I_k, nI_add, pk_sub, pk_mul, nI_clamp, n_lt0, n_0lt, n_eq0, n_lt, n_le, n_eq, n_m1, n_m2, n_m9, n_12, n_19, n_10, n_01, n_1n1, n_0n1, n_1n0, n_0n0, n_dI, n_m1lt, q_inb, n_nar, n_nar0, n_nar1, n_bool, Bool.false_eq_true, Bool.true_eq_false, if_true, if_false, ↓reduceIte, Nat.reduceAdd, Nat.reduceMul, Nat.reduceSub, Nat.reduceLT, Nat.reduceLeDiff, Nat.reduceEqDiff, Nat.reduceMod, Nat.reduceDiv, q_D hP.1.1.1, q_N hP.1.1.1, h8, q1, q2, show ¬ k_kd B n s < 270 by omega, show ¬ 277 < k_kd B n s by omega, e1, q_D P1.1.1.1, e2, n_nr]
        · obtain ⟨e, rfl⟩ : ∃ e, d = e + 1 := ⟨d - 1, by omega⟩
          obtain ⟨r10, r300, r12⟩ := r_hdr hP.1
          obtain ⟨M1, e1, t1, -⟩ := r_lwd (d := e) hP.1 (by omega)
          obtain ⟨t1, q1'⟩ := t1 q3
          rw [if_pos q3, show k_kd B n s - 270 = j by omega] at e1
          obtain ⟨M2, e2, P2⟩ := r_P_s (d := e) (st := 100 + j) ⟨t1, fun k => (q_I_eq q1' (by decide) k).trans (hP.2 k)⟩ hc9 hL.1 (by omega)
          refine ⟨M2, ?_, fun _ => P2, fun z => absurd rfl z⟩
          dsimp only
          rw [E_X12_readAtom]
          simp (disch := omega) only [q_ckt, q_lt, q_cI, q_cJ, q_cV, q_cP, q_xI, q_xV, q_xP, q_xJ, g_gk, g_ga, g_gw, g_gp, g_gq, g_P, g_J, q_I_s, q_I_n, q_I_k, nI_add, pk_sub, pk_mul, nI_clamp, n_lt0, n_0lt, n_eq0, n_lt, n_le, n_eq, n_m1, n_m2, n_m9, n_12, n_19, n_10, n_01, n_1n1, n_0n1, n_1n0, n_0n0, n_dI, n_m1lt, q_inb, n_nar, n_nar0, n_nar1, n_bool, Bool.false_eq_true, Bool.true_eq_false, if_true, if_false, ↓reduceIte, Nat.reduceAdd, Nat.reduceMul, Nat.reduceSub, Nat.reduceLT, Nat.reduceLeDiff, Nat.reduceEqDiff, Nat.reduceMod, Nat.reduceDiv, q_R hP.1.1.1, r12, e1, nm, q_R t1.1.1, e2]
      · have kb := k_fk_b (kd := k_kd B n s) (w := 2) (by decide)
        have nf : k_nf (k_kd B n s) (k_vl B n s) 0 (nI 999).toInt = k_fk (k_kd B n s) 2 := if_neg q2
        refine ⟨k_fk (k_kd B n s) 2, s, K, c, kb.2, Nat.le_refl _, hs, fun z => absurd z kb.1, fun M0 M d hd hP => ?_, fun M0 M d hd hP => ?_⟩
        · obtain ⟨e, rfl⟩ : ∃ e, d = e + 1 := ⟨d - 1, by omega⟩
          obtain ⟨h6, h8, -, h300⟩ := c_hdr hP.1
          obtain ⟨M', e1, t1⟩ := c_ref (d := e) hP.1 (w := 2) (by decide) (by omega)
          refine ⟨M', ?_, fun z => absurd z kb.1, fun _ => t1⟩
          dsimp only
          rw [E_X4_readAtom, k_1_n kb.1]
          by_cases q4 : k_kd B n s < 270
          · simp (disch := omega) only [q_ckt, q_lt, q_cI, q_cJ, q_cV, q_cP, q_xI, q_xV, q_xP, q_xJ, g_gk, g_ga, g_gw, g_gp, g_gq, g_P, g_J, q_I_s, q_I_n, q_I_k, nI_add, pk_sub, pk_mul, nI_clamp, n_lt0, n_0lt, n_eq0, n_lt, n_le, n_eq, n_m1, n_m2, n_m9, n_12, n_19, n_10, n_01, n_1n1, n_0n1, n_1n0, n_0n0, n_dI, n_m1lt, q_inb, n_nar, n_nar0, n_nar1, n_bool, Bool.false_eq_true, Bool.true_eq_false, if_true, if_false, ↓reduceIte, Nat.reduceAdd, Nat.reduceMul, Nat.reduceSub, Nat.reduceLT, Nat.reduceLeDiff, Nat.reduceEqDiff, Nat.reduceMod, Nat.reduceDiv, q_D hP.1.1.1, h8, q1, q2, q4, e1, n_nr]
          · simp (disch := omega) only [q_ckt, q_lt, q_cI, q_cJ, q_cV, q_cP, q_xI, q_xV, q_xP, q_xJ, g_gk, g_ga, g_gw, g_gp, g_gq, g_P, g_J, q_I_s, q_I_n, q_I_k, nI_add, pk_sub, pk_mul, nI_clamp, n_lt0, n_0lt, n_eq0, n_lt, n_le, n_eq, n_m1, n_m2, n_m9, n_12, n_19, n_10, n_01, n_1n1, n_0n1, n_1n0, n_0n0, n_dI, n_m1lt, q_inb, n_nar, n_nar0, n_nar1, n_bool, Bool.false_eq_true, Bool.true_eq_false, if_true, if_false, ↓reduceIte, Nat.reduceAdd, Nat.reduceMul, Nat.reduceSub, Nat.reduceLT, Nat.reduceLeDiff, Nat.reduceEqDiff, Nat.reduceMod, Nat.reduceDiv, q_D hP.1.1.1, h8, q1, q2, q4, show 277 < k_kd B n s by omega, e1, n_nr]
        · obtain ⟨e, rfl⟩ : ∃ e, d = e + 1 := ⟨d - 1, by omega⟩
          obtain ⟨r10, r300, r12⟩ := r_hdr hP.1
          obtain ⟨g, g1, g2⟩ := k_gl1 hb hP
          obtain ⟨M1, e1, -, t1⟩ := r_num (d := e) hP.1 (a := 0) (hi := nI 999) (by decide) g1 g2 (by omega)
          rw [nf] at e1 t1
          have t1 := t1 kb.1
          rw [if_neg kb.1] at e1
          refine ⟨M1, ?_, fun z => absurd z kb.1, fun _ => t1⟩
          dsimp only
          rw [E_X12_readAtom]
          simp (disch := omega) only [q_ckt, q_lt, q_cI, q_cJ, q_cV, q_cP, q_xI, q_xV, q_xP, q_xJ, g_gk, g_ga, g_gw, g_gp, g_gq, g_P, g_J, q_I_s, q_I_n, q_I_k, nI_add, pk_sub, pk_mul, nI_clamp, n_lt0, n_0lt, n_eq0, n_lt, n_le, n_eq, n_m1, n_m2, n_m9, n_12, n_19, n_10, n_01, n_1n1, n_0n1, n_1n0, n_0n0, n_dI, n_m1lt, q_inb, n_nar, n_nar0, n_nar1, n_bool, Bool.false_eq_true, Bool.true_eq_false, if_true, if_false, ↓reduceIte, Nat.reduceAdd, Nat.reduceMul, Nat.reduceSub, Nat.reduceLT, Nat.reduceLeDiff, Nat.reduceEqDiff, Nat.reduceMod, Nat.reduceDiv, q_R hP.1.1.1, r12, lw q3 hP.1 (show 8 ≤ e by omega), sg hP.1 (show 1 ≤ e by omega), e1, q_R t1.1.1, r_lyF t1 (v := nI 1000) (show 1 ≤ e by omega)]
end WA
