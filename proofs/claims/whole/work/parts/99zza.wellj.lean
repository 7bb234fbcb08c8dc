/-! THE WELL: a line, the lines -/
section LN
variable {B : Nat → Nat} {n L : Nat} {xs : Nat → Int32} {M0 M M' : ir_M} {d dp s f p G N : Nat} {K K' : Nat → Int32}
theorem w_Other (hF : k_FR G N K) (hs : s ≤ n) (h1 : k_kd B n s ≠ 257) (h3 : k_kd B n s < 259 ∨ 266 < k_kd B n s) : w_N B n L xs G s K := by
  have kb := k_fk_b (kd := k_kd B n s) (w := 2) (by decide)
  refine ⟨k_fk (k_kd B n s) 2, s, K, N, kb.2, Nat.le_refl _, hs, fun z => absurd z kb.1, fun M0 M d hd hP => ?_, fun M0 M d hd hP => ?_⟩
  · obtain ⟨h6, h8, -, h300⟩ := c_hdr hP.1
    obtain ⟨M1, e1, t1⟩ := c_ref (d := d) hP.1 (w := 2) (by decide) (by omega)
    refine ⟨M1, ?_, fun z => absurd z kb.1, fun _ => t1⟩
    rw [E_X4_readLine, k_1_n kb.1]
    by_cases c : k_kd B n s = 258
    · simp (disch := omega) only [q_ckt, q_lt, q_cI, q_cJ, q_cV, q_cP, q_xI, q_xV, q_xP, q_xJ, g_gk, g_ga, g_gw, g_gp, g_gq, g_P, g_J, q_I_s, q_I_n, q_I_k, nI_add, pk_sub, pk_mul, nI_clamp, n_lt0, n_0lt, n_eq0, n_lt, n_le, n_eq, n_m1, n_m2, n_m9, n_12, n_19, n_10, n_01, n_1n1, n_0n1, n_1n0, n_0n0, n_dI, n_m1lt, q_inb, n_nar, n_nar0, n_nar1, n_bool, Bool.false_eq_true, Bool.true_eq_false, if_true, if_false, ↓reduceIte, Nat.reduceAdd, Nat.reduceMul, Nat.reduceSub, Nat.reduceLT, Nat.reduceLeDiff, Nat.reduceEqDiff, Nat.reduceMod, Nat.reduceDiv, q_D hP.1.1.1, h8, c, e1, n_nr]
    · simp (disch := omega) only [q_ckt, q_lt, q_cI, q_cJ, q_cV, q_cP, q_xI, q_xV, q_xP, q_xJ, g_gk, g_ga, g_gw, g_gp, g_gq, g_P, g_J, q_I_s, q_I_n, q_I_k, nI_add, pk_sub, pk_mul, nI_clamp, n_lt0, n_0lt, n_eq0, n_lt, n_le, n_eq, n_m1, n_m2, n_m9, n_12, n_19, n_10, n_01, n_1n1, n_0n1, n_1n0, n_0n0, n_dI, n_m1lt, q_inb, n_nar, n_nar0, n_nar1, n_bool, Bool.false_eq_true, Bool.true_eq_false, if_true, if_false, ↓reduceIte, Nat.reduceAdd, Nat.reduceMul, Nat.reduceSub, Nat.reduceLT, Nat.reduceLeDiff, Nat.reduceEqDiff, Nat.reduceMod, Nat.reduceDiv, q_D hP.1.1.1, h8, h1, c, show ¬ k_kd B n s = 259 by omega, show ¬ k_kd B n s = 260 by omega, show ¬ k_kd B n s = 261 by omega, show ¬ k_kd B n s = 262 by omega, show ¬ k_kd B n s = 263 by omega, show ¬ k_kd B n s = 264 by omega, show ¬ k_kd B n s = 265 by omega, show ¬ k_kd B n s = 266 by omega, e1, n_nr]
  · have u1 := r_wordN (d := d) hP.1 (j := 1) (a := 1000034) (by decide) rfl (by omega) (by omega)
    have u3 := r_wordN (d := d) hP.1 (j := 3) (a := 1000039) (by decide) rfl (by omega) (by omega)
    have u4 := r_tookN (d := d) hP.1 (j := 4) (a := 1000040) (by decide) rfl (by omega) (by omega)
    have u5 := r_tookN (d := d) hP.1 (j := 5) (a := 1000041) (by decide) rfl (by omega) (by omega)
    have u6 := r_tookN (d := d) hP.1 (j := 6) (a := 1000042) (by decide) rfl (by omega) (by omega)
    have u7 := r_tookN (d := d) hP.1 (j := 7) (a := 1000043) (by decide) rfl (by omega) (by omega)
    have u8 := r_tookN (d := d) hP.1 (j := 8) (a := 1000044) (by decide) rfl (by omega) (by omega)
    have u9 := r_tookN (d := d) hP.1 (j := 9) (a := 1000045) (by decide) rfl (by omega) (by omega)
    have u10 := r_tookN (d := d) hP.1 (j := 10) (a := 1000046) (by decide) rfl (by omega) (by omega)
    obtain ⟨M1, e1, t1⟩ := r_blame (d := d) hP.1 (w := 2) (by decide) hF.1.2.1 ((hP.2 1).trans hF.1.2.2.2.1) (by omega)
    refine ⟨M1, ⟨fun z => absurd z kb.1, fun _ => t1⟩, fun X hX => ?_⟩
    rw [E_X12_readLine]
    refine (r_no (q_R hP.1.1.1).1 u1).trans ?_
    refine (r_no (q_R hP.1.1.1).1 u3).trans ?_
    refine (r_no (q_R hP.1.1.1).1 u4).trans ?_
    refine (r_no (q_R hP.1.1.1).1 u5).trans ?_
    refine (r_no (q_R hP.1.1.1).1 u6).trans ?_
    refine (r_no (q_R hP.1.1.1).1 u7).trans ?_
    refine (r_no (q_R hP.1.1.1).1 u8).trans ?_
    refine (r_no (q_R hP.1.1.1).1 u9).trans ?_
    refine (r_no (q_R hP.1.1.1).1 u10).trans ?_
    simp (disch := omega) only [q_ckt, q_lt, q_cI, q_cJ, q_cV, q_cP, q_xI, q_xV, q_xP, q_xJ, g_gk, g_ga, g_gw, g_gp, g_gq, g_P, g_J, q_I_s, q_I_n, q_I_k, nI_add, pk_sub, pk_mul, nI_clamp, n_lt0, n_0lt, n_eq0, n_lt, n_le, n_eq, n_m1, n_m2, n_m9, n_12, n_19, n_10, n_01, n_1n1, n_0n1, n_1n0, n_0n0, n_dI, n_m1lt, q_inb, n_nar, n_nar0, n_nar1, n_bool, Bool.false_eq_true, Bool.true_eq_false, if_true, if_false, ↓reduceIte, Nat.reduceAdd, Nat.reduceMul, Nat.reduceSub, Nat.reduceLT, Nat.reduceLeDiff, Nat.reduceEqDiff, Nat.reduceMod, Nat.reduceDiv, q_R hP.1.1.1, e1, q_R t1.1.1, hX]
theorem w_Line (h900 : n ≤ 900) (hF : k_FR G N K) (hs : s ≤ n) : w_N B n L xs G s K := by
  by_cases c1 : k_kd B n s = 257
  · exact w_Person hF hs c1
  · by_cases c3 : k_kd B n s = 259
    · exact w_Apart hF hs c3
    · by_cases c4 : k_kd B n s = 260
      · exact w_Likes hF hs c4
      · by_cases c5 : k_kd B n s = 261
        · exact w_Behind hF hs c5
        · by_cases c6 : k_kd B n s = 262
          · exact w_Middle hF hs c6
          · by_cases c7 : k_kd B n s = 263
            · exact w_Ring hF hs c7
            · by_cases c8 : k_kd B n s = 264
              · exact w_Night hF hs c8
              · by_cases c9 : k_kd B n s = 265
                · exact w_Ruin hF hs c9
                · by_cases c10 : k_kd B n s = 266
                  · exact w_Law h900 hF hs c10
                  · exact w_Other hF hs c1 (by omega)
theorem r_stop (h : r_P B n L xs M0 0 s K M) {g : Nat} (hg : g ≤ 6) (h1 : K 1 = nI g) (hd : 5 ≤ d) : ∃ M', m_X12_readStop d 412 M = ir_oV M' ∧ (k_kd B n s = 59 → r_P B n L xs M0 0 (k_nt B n s) (k_put1 K 0 (K 0 + nI 1)) M') ∧ (k_kd B n s ≠ 59 → r_F B n L xs M0 (k_fk (k_kd B n s) 2) s M') := by
  obtain ⟨e, rfl⟩ : ∃ e, d = e + 1 := ⟨d - 1, by omega⟩
  obtain ⟨M1, e1, t1, t1'⟩ := r_must (d := e) h.1 (c := 59) (by decide) hg ((h.2 1).trans h1) (by omega)
  by_cases c : k_kd B n s = 59
  · have P1 := r_P_e h (t1 c)
    have k0 : ir_I M1 414 0 = K 0 := P1.2 0
    refine ⟨_, ?_, fun _ => r_P_4 (k := 0) (v := K 0 + nI 1) P1, fun z => absurd c z⟩
    rw [E_X12_readStop]
    simp (disch := omega) only [q_ckt, q_lt, q_cI, q_cJ, q_cV, q_cP, q_xI, q_xV, q_xP, q_xJ, g_gk, g_ga, g_gw, g_gp, g_gq, g_P, g_J, q_I_s, q_I_n, q_I_k, nI_add, pk_sub, pk_mul, nI_clamp, n_lt0, n_0lt, n_eq0, n_lt, n_le, n_eq, n_m1, n_m2, n_m9, n_12, n_19, n_10, n_01, n_1n1, n_0n1, n_1n0, n_0n0, n_dI, n_m1lt, q_inb, n_nar, n_nar0, n_nar1, n_bool, Bool.false_eq_true, Bool.true_eq_false, if_true, if_false, ↓reduceIte, Nat.reduceAdd, Nat.reduceMul, Nat.reduceSub, Nat.reduceLT, Nat.reduceLeDiff, Nat.reduceEqDiff, Nat.reduceMod, Nat.reduceDiv, q_R h.1.1.1, e1, q_R P1.1.1.1, P1.1.2.2.2.2.1, k0]
  · have F1 := t1' c
    refine ⟨M1, ?_, fun z => absurd z c, fun _ => F1⟩
    rw [E_X12_readStop]
    simp (disch := omega) only [q_ckt, q_lt, q_cI, q_cJ, q_cV, q_cP, q_xI, q_xV, q_xP, q_xJ, g_gk, g_ga, g_gw, g_gp, g_gq, g_P, g_J, q_I_s, q_I_n, q_I_k, nI_add, pk_sub, pk_mul, nI_clamp, n_lt0, n_0lt, n_eq0, n_lt, n_le, n_eq, n_m1, n_m2, n_m9, n_12, n_19, n_10, n_01, n_1n1, n_0n1, n_1n0, n_0n0, n_dI, n_m1lt, q_inb, n_nar, n_nar0, n_nar1, n_bool, Bool.false_eq_true, Bool.true_eq_false, if_true, if_false, ↓reduceIte, Nat.reduceAdd, Nat.reduceMul, Nat.reduceSub, Nat.reduceLT, Nat.reduceLeDiff, Nat.reduceEqDiff, Nat.reduceMod, Nat.reduceDiv, q_R h.1.1.1, e1, q_R F1.1.1, r_F_z F1]
theorem r_stopF (h : r_F B n L xs M0 f p M) (hd : 3 ≤ d) : m_X12_readStop d 412 M = ir_oV M := by
  obtain ⟨e, rfl⟩ : ∃ e, d = e + 1 := ⟨d - 1, by omega⟩
  rw [E_X12_readStop]
  simp (disch := omega) only [q_ckt, q_lt, q_cI, q_cJ, q_cV, q_cP, q_xI, q_xV, q_xP, q_xJ, g_gk, g_ga, g_gw, g_gp, g_gq, g_P, g_J, q_I_s, q_I_n, q_I_k, nI_add, pk_sub, pk_mul, nI_clamp, n_lt0, n_0lt, n_eq0, n_lt, n_le, n_eq, n_m1, n_m2, n_m9, n_12, n_19, n_10, n_01, n_1n1, n_0n1, n_1n0, n_0n0, n_dI, n_m1lt, q_inb, n_nar, n_nar0, n_nar1, n_bool, Bool.false_eq_true, Bool.true_eq_false, if_true, if_false, ↓reduceIte, Nat.reduceAdd, Nat.reduceMul, Nat.reduceSub, Nat.reduceLT, Nat.reduceLeDiff, Nat.reduceEqDiff, Nat.reduceMod, Nat.reduceDiv, q_R h.1.1, r_mustF h (c := nI 59) (show 2 ≤ e by omega), r_F_z h]
theorem c_64F (h : c_F B n L xs M0 f p M) {i : Nat} (hi : i ≤ 1000) : v_X4_read_64 d 100 (nI 0) (nI i) M = ir_oV M := by
  have h6 := h.1.2.2.2.2.2.1
  have h900 := h.1.2.1
  rw [L_X4_read_64]
  by_cases q : i < n
  · simp (disch := omega) only [q_ckt, q_lt, q_cI, q_cJ, q_cV, q_cP, q_xI, q_xV, q_xP, q_xJ, g_gk, g_ga, g_gw, g_gp, g_gq, g_P, g_J, q_I_s, q_I_n, q_I_k, nI_add, pk_sub, pk_mul, nI_clamp, n_lt0, n_0lt, n_eq0, n_lt, n_le, n_eq, n_m1, n_m2, n_m9, n_12, n_19, n_10, n_01, n_1n1, n_0n1, n_1n0, n_0n0, n_dI, n_m1lt, q_inb, n_nar, n_nar0, n_nar1, n_bool, Bool.false_eq_true, Bool.true_eq_false, if_true, if_false, ↓reduceIte, Nat.reduceAdd, Nat.reduceMul, Nat.reduceSub, Nat.reduceLT, Nat.reduceLeDiff, Nat.reduceEqDiff, Nat.reduceMod, Nat.reduceDiv, q_D h.1.1, h6, q]
  · simp (disch := omega) only [q_ckt, q_lt, q_cI, q_cJ, q_cV, q_cP, q_xI, q_xV, q_xP, q_xJ, g_gk, g_ga, g_gw, g_gp, g_gq, g_P, g_J, q_I_s, q_I_n, q_I_k, nI_add, pk_sub, pk_mul, nI_clamp, n_lt0, n_0lt, n_eq0, n_lt, n_le, n_eq, n_m1, n_m2, n_m9, n_12, n_19, n_10, n_01, n_1n1, n_0n1, n_1n0, n_0n0, n_dI, n_m1lt, q_inb, n_nar, n_nar0, n_nar1, n_bool, Bool.false_eq_true, Bool.true_eq_false, if_true, if_false, ↓reduceIte, Nat.reduceAdd, Nat.reduceMul, Nat.reduceSub, Nat.reduceLT, Nat.reduceLeDiff, Nat.reduceEqDiff, Nat.reduceMod, Nat.reduceDiv, q_D h.1.1, h6, q]
theorem c_105F (h : c_F B n L xs M0 f p M) {i : Nat} (hi : i ≤ 900) : ∃ M', v_X4_read_105 d 100 (nI i) (nI 0) M = ir_oV M' ∧ c_F B n L xs M0 f p M' := by
  have q1 : q_eq [101] M (ir_sI M 101 0 (ir_I M 101 0 + nI 1)) := q_eq.sI (by decide)
  have F1 := c_F_eq h q1 (by decide) (c_cn_eq q1 (by decide) h.2.2.1)
  refine ⟨_, ?_, F1⟩
  rw [L_X4_read_105]
  simp (disch := omega) only [q_ckt, q_lt, q_cI, q_cJ, q_cV, q_cP, q_xI, q_xV, q_xP, q_xJ, g_gk, g_ga, g_gw, g_gp, g_gq, g_P, g_J, q_I_s, q_I_n, q_I_k, nI_add, pk_sub, pk_mul, nI_clamp, n_lt0, n_0lt, n_eq0, n_lt, n_le, n_eq, n_m1, n_m2, n_m9, n_12, n_19, n_10, n_01, n_1n1, n_0n1, n_1n0, n_0n0, n_dI, n_m1lt, q_inb, n_nar, n_nar0, n_nar1, n_bool, Bool.false_eq_true, Bool.true_eq_false, if_true, if_false, ↓reduceIte, Nat.reduceAdd, Nat.reduceMul, Nat.reduceSub, Nat.reduceLT, Nat.reduceLeDiff, Nat.reduceEqDiff, Nat.reduceMod, Nat.reduceDiv, q_D h.1.1, q_N h.1.1]
  exact c_64F F1 (by omega)
/-- the lines, to the end -/
theorem w_Lines (h900 : n ≤ 900) : ∀ (r s : Nat) (K : Nat → Int32) (N : Nat), s + r = n → k_FR G N K → ∃ (f p : Nat) (K' : Nat → Int32) (N' : Nat), f ≤ 4 ∧ p ≤ n ∧ (f = 0 → k_FR G N' K') ∧ (∀ M0 M d i, 52 ≤ d → i ≤ s → c_P B n L xs M0 s K M → ∃ M', v_X4_read_64 d 100 (nI 1) (nI i) M = ir_oV M' ∧ c_Q B n L xs M0 f p K' M') ∧ (∀ M0 M d, 52 ≤ d → r_P B n L xs M0 0 s K M → ∃ M', v_X12_well_107 d 412 M = v_X12_well_128 d 412 M' ∧ r_Q B n L xs M0 0 f p K' M') := by
  intro r
  induction r using Nat.strongRecOn with
  | ind r ih =>
    intro s K N hs hF
    obtain ⟨b1, b2, b3, b4, b5, b6, b7, b8⟩ := k_nt_b (B := B) (show s ≤ n by omega)
    by_cases q : k_kd B n s = 0
    · refine ⟨0, s, K, N, by decide, by omega, fun _ => hF, fun M0 M d i hd hi hP => ⟨M, ?_, fun _ => hP, fun z => absurd rfl z⟩, fun M0 M d hd hP => ⟨M, ?_, fun _ => hP, fun z => absurd rfl z⟩⟩
      · obtain ⟨h6, h8, -, h300⟩ := c_hdr hP.1
        rw [L_X4_read_64]
        rw [q] at h8
        by_cases c : i < n
        · simp (disch := omega) only [q_ckt, q_lt, q_cI, q_cJ, q_cV, q_cP, q_xI, q_xV, q_xP, q_xJ, g_gk, g_ga, g_gw, g_gp, g_gq, g_P, g_J, q_I_s, q_I_n, q_I_k, nI_add, pk_sub, pk_mul, nI_clamp, n_lt0, n_0lt, n_eq0, n_lt, n_le, n_eq, n_m1, n_m2, n_m9, n_12, n_19, n_10, n_01, n_1n1, n_0n1, n_1n0, n_0n0, n_dI, n_m1lt, q_inb, n_nar, n_nar0, n_nar1, n_bool, Bool.false_eq_true, Bool.true_eq_false, if_true, if_false, ↓reduceIte, Nat.reduceAdd, Nat.reduceMul, Nat.reduceSub, Nat.reduceLT, Nat.reduceLeDiff, Nat.reduceEqDiff, Nat.reduceMod, Nat.reduceDiv, q_D hP.1.1.1, h6, c, h8]
        · simp (disch := omega) only [q_ckt, q_lt, q_cI, q_cJ, q_cV, q_cP, q_xI, q_xV, q_xP, q_xJ, g_gk, g_ga, g_gw, g_gp, g_gq, g_P, g_J, q_I_s, q_I_n, q_I_k, nI_add, pk_sub, pk_mul, nI_clamp, n_lt0, n_0lt, n_eq0, n_lt, n_le, n_eq, n_m1, n_m2, n_m9, n_12, n_19, n_10, n_01, n_1n1, n_0n1, n_1n0, n_0n0, n_dI, n_m1lt, q_inb, n_nar, n_nar0, n_nar1, n_bool, Bool.false_eq_true, Bool.true_eq_false, if_true, if_false, ↓reduceIte, Nat.reduceAdd, Nat.reduceMul, Nat.reduceSub, Nat.reduceLT, Nat.reduceLeDiff, Nat.reduceEqDiff, Nat.reduceMod, Nat.reduceDiv, q_D hP.1.1.1, h6, c]
      · obtain ⟨r10, r300, r12⟩ := r_hdr hP.1
        rw [(k_rt_i (k_kd B n s)).1.mpr q] at r10
        rw [L_X12_well_107]
        simp (disch := omega) only [q_ckt, q_lt, q_cI, q_cJ, q_cV, q_cP, q_xI, q_xV, q_xP, q_xJ, g_gk, g_ga, g_gw, g_gp, g_gq, g_P, g_J, q_I_s, q_I_n, q_I_k, nI_add, pk_sub, pk_mul, nI_clamp, n_lt0, n_0lt, n_eq0, n_lt, n_le, n_eq, n_m1, n_m2, n_m9, n_12, n_19, n_10, n_01, n_1n1, n_0n1, n_1n0, n_0n0, n_dI, n_m1lt, q_inb, n_nar, n_nar0, n_nar1, n_bool, Bool.false_eq_true, Bool.true_eq_false, if_true, if_false, ↓reduceIte, Nat.reduceAdd, Nat.reduceMul, Nat.reduceSub, Nat.reduceLT, Nat.reduceLeDiff, Nat.reduceEqDiff, Nat.reduceMod, Nat.reduceDiv, q_R hP.1.1.1, r12, r10]
    · have sn : s < n := by
        have := b4.mpr
        omega
      have r0 : ¬ k_rt (k_kd B n s) = 0 := fun z => q ((k_rt_i _).1.mp z)
      obtain ⟨f1, p1, K1, N1, y1, y2, y3, y4, y5, y6⟩ := w_Line (B := B) (L := L) (xs := xs) h900 hF (show s ≤ n by omega)
      obtain ⟨a1, a2, a3, a4, a5, a6, a7, a8⟩ := k_nt_b (B := B) y3
      by_cases qf : f1 = 0
      · obtain ⟨w1, hF1⟩ := y4 qf
        by_cases q5 : k_kd B n p1 = 59
        · have a3' := a3 (by omega)
          have hF2 : k_FR G N1 (k_put1 K1 0 (K1 0 + nI 1)) := k_FR_1 hF1 (Or.inl rfl)
          obtain ⟨f, p, K', N', v1, v2, v3, v4, v5⟩ := ih (n - k_nt B n p1) (by omega) (k_nt B n p1) (k_put1 K1 0 (K1 0 + nI 1)) N1 (by omega) hF2
          refine ⟨f, p, K', N', v1, v2, v3, fun M0 M d i hd hi hP => ?_, fun M0 M d hd hP => ?_⟩
          · obtain ⟨e, rfl⟩ : ∃ e, d = e + 1 := ⟨d - 1, by omega⟩
            obtain ⟨h6, h8, -, h300⟩ := c_hdr hP.1
            obtain ⟨M1, e1, Q1⟩ := y5 M0 M e (by omega) hP
            have P1 := Q1.1 qf
            rw [qf, k_1_0] at e1
            obtain ⟨M2, e2, t2, -⟩ := c_tk (d := e + 1) P1.1 (w := 59) (by decide) (by omega)
            rw [if_pos q5] at e2
            have P2 := c_P_e P1 (t2 q5)
            have k0 : ir_I M2 101 0 = K1 0 := P2.2.1.1
            have P3 := c_P_1 (k := 0) (c := 0) (v := K1 0 + nI 1) P2 (k_FR_d hF1).2.2.2.2.2 (Or.inl ⟨rfl, rfl⟩)
            obtain ⟨M', e', Q'⟩ := v4 M0 _ (e + 1) (i + 1) hd (by omega) P3
            refine ⟨M', ?_, Q'⟩
            rw [← e', L_X4_read_64]
            simp (disch := omega) only [q_ckt, q_lt, q_cI, q_cJ, q_cV, q_cP, q_xI, q_xV, q_xP, q_xJ, g_gk, g_ga, g_gw, g_gp, g_gq, g_P, g_J, q_I_s, q_I_n, q_I_k, nI_add, pk_sub, pk_mul, nI_clamp, n_lt0, n_0lt, n_eq0, n_lt, n_le, n_eq, n_m1, n_m2, n_m9, n_12, n_19, n_10, n_01, n_1n1, n_0n1, n_1n0, n_0n0, n_dI, n_m1lt, q_inb, n_nar, n_nar0, n_nar1, n_bool, Bool.false_eq_true, Bool.true_eq_false, if_true, if_false, ↓reduceIte, Nat.reduceAdd, Nat.reduceMul, Nat.reduceSub, Nat.reduceLT, Nat.reduceLeDiff, Nat.reduceEqDiff, Nat.reduceMod, Nat.reduceDiv, q_D hP.1.1.1, h6, show i < n by omega, h8, q, e1, q_D P1.1.1.1, e2]
            rw [L_X4_read_105]
            simp (disch := omega) only [q_ckt, q_lt, q_cI, q_cJ, q_cV, q_cP, q_xI, q_xV, q_xP, q_xJ, g_gk, g_ga, g_gw, g_gp, g_gq, g_P, g_J, q_I_s, q_I_n, q_I_k, nI_add, pk_sub, pk_mul, nI_clamp, n_lt0, n_0lt, n_eq0, n_lt, n_le, n_eq, n_m1, n_m2, n_m9, n_12, n_19, n_10, n_01, n_1n1, n_0n1, n_1n0, n_0n0, n_dI, n_m1lt, q_inb, n_nar, n_nar0, n_nar1, n_bool, Bool.false_eq_true, Bool.true_eq_false, if_true, if_false, ↓reduceIte, Nat.reduceAdd, Nat.reduceMul, Nat.reduceSub, Nat.reduceLT, Nat.reduceLeDiff, Nat.reduceEqDiff, Nat.reduceMod, Nat.reduceDiv, q_D P2.1.1.1, q_N P2.1.1.1, k0]
          · obtain ⟨e, rfl⟩ : ∃ e, d = e + 1 := ⟨d - 1, by omega⟩
            obtain ⟨r10, r300, r12⟩ := r_hdr hP.1
            obtain ⟨M1, Q1, E1⟩ := y6 M0 M e (by omega) hP
            have P1 := Q1.1 qf
            obtain ⟨M2, e2, t2, -⟩ := r_stop (d := e) P1 hF1.1.2.1 hF1.1.2.2.2.1 (by omega)
            have E2 := E1 M2 e2
            have P2 := t2 q5
            obtain ⟨M', e', Q'⟩ := v5 M0 M2 (e + 1) hd P2
            refine ⟨M', ?_, Q'⟩
            rw [← e', L_X12_well_107]
            simp (disch := omega) only [q_ckt, q_lt, q_cI, q_cJ, q_cV, q_cP, q_xI, q_xV, q_xP, q_xJ, g_gk, g_ga, g_gw, g_gp, g_gq, g_P, g_J, q_I_s, q_I_n, q_I_k, nI_add, pk_sub, pk_mul, nI_clamp, n_lt0, n_0lt, n_eq0, n_lt, n_le, n_eq, n_m1, n_m2, n_m9, n_12, n_19, n_10, n_01, n_1n1, n_0n1, n_1n0, n_0n0, n_dI, n_m1lt, q_inb, n_nar, n_nar0, n_nar1, n_bool, Bool.false_eq_true, Bool.true_eq_false, if_true, if_false, ↓reduceIte, Nat.reduceAdd, Nat.reduceMul, Nat.reduceSub, Nat.reduceLT, Nat.reduceLeDiff, Nat.reduceEqDiff, Nat.reduceMod, Nat.reduceDiv, q_R hP.1.1.1, r12, r10, r0, E2]
        · have kb := k_fk_b (kd := k_kd B n p1) (w := 2) (by decide)
          refine ⟨k_fk (k_kd B n p1) 2, p1, K1, N1, kb.2, y3, fun z => absurd z kb.1, fun M0 M d i hd hi hP => ?_, fun M0 M d hd hP => ?_⟩
          · obtain ⟨e, rfl⟩ : ∃ e, d = e + 1 := ⟨d - 1, by omega⟩
            obtain ⟨h6, h8, -, h300⟩ := c_hdr hP.1
            obtain ⟨M1, e1, Q1⟩ := y5 M0 M e (by omega) hP
            have P1 := Q1.1 qf
            rw [qf, k_1_0] at e1
            obtain ⟨M2, e2, -, t2⟩ := c_tk (d := e + 1) P1.1 (w := 59) (by decide) (by omega)
            rw [if_neg q5] at e2
            obtain ⟨M3, e3, F3⟩ := c_105F (d := e + 1) (i := i) (t2 q5) (by omega)
            refine ⟨M3, ?_, fun z => absurd z kb.1, fun _ => F3⟩
            rw [L_X4_read_64]
            simp (disch := omega) only [q_ckt, q_lt, q_cI, q_cJ, q_cV, q_cP, q_xI, q_xV, q_xP, q_xJ, g_gk, g_ga, g_gw, g_gp, g_gq, g_P, g_J, q_I_s, q_I_n, q_I_k, nI_add, pk_sub, pk_mul, nI_clamp, n_lt0, n_0lt, n_eq0, n_lt, n_le, n_eq, n_m1, n_m2, n_m9, n_12, n_19, n_10, n_01, n_1n1, n_0n1, n_1n0, n_0n0, n_dI, n_m1lt, q_inb, n_nar, n_nar0, n_nar1, n_bool, Bool.false_eq_true, Bool.true_eq_false, if_true, if_false, ↓reduceIte, Nat.reduceAdd, Nat.reduceMul, Nat.reduceSub, Nat.reduceLT, Nat.reduceLeDiff, Nat.reduceEqDiff, Nat.reduceMod, Nat.reduceDiv, q_D hP.1.1.1, h6, show i < n by omega, h8, q, e1, q_D P1.1.1.1, e2, e3]
          · obtain ⟨e, rfl⟩ : ∃ e, d = e + 1 := ⟨d - 1, by omega⟩
            obtain ⟨r10, r300, r12⟩ := r_hdr hP.1
            obtain ⟨M1, Q1, E1⟩ := y6 M0 M e (by omega) hP
            have P1 := Q1.1 qf
            obtain ⟨M2, e2, -, t2⟩ := r_stop (d := e) P1 hF1.1.2.1 hF1.1.2.2.2.1 (by omega)
            have E2 := E1 M2 e2
            have F2 := t2 q5
            refine ⟨M2, ?_, fun z => absurd z kb.1, fun _ => F2⟩
            rw [L_X12_well_107]
            simp (disch := omega) only [q_ckt, q_lt, q_cI, q_cJ, q_cV, q_cP, q_xI, q_xV, q_xP, q_xJ, g_gk, g_ga, g_gw, g_gp, g_gq, g_P, g_J, q_I_s, q_I_n, q_I_k, nI_add, pk_sub, pk_mul, nI_clamp, n_lt0, n_0lt, n_eq0, n_lt, n_le, n_eq, n_m1, n_m2, n_m9, n_12, n_19, n_10, n_01, n_1n1, n_0n1, n_1n0, n_0n0, n_dI, n_m1lt, q_inb, n_nar, n_nar0, n_nar1, n_bool, Bool.false_eq_true, Bool.true_eq_false, if_true, if_false, ↓reduceIte, Nat.reduceAdd, Nat.reduceMul, Nat.reduceSub, Nat.reduceLT, Nat.reduceLeDiff, Nat.reduceEqDiff, Nat.reduceMod, Nat.reduceDiv, q_R hP.1.1.1, r12, r10, r0, E2]
            rw [L_X12_well_107]
            simp (disch := omega) only [q_ckt, q_lt, q_cI, q_cJ, q_cV, q_cP, q_xI, q_xV, q_xP, q_xJ, g_gk, g_ga, g_gw, g_gp, g_gq, g_P, g_J, q_I_s, q_I_n, q_I_k, nI_add, pk_sub, pk_mul, nI_clamp, n_lt0, n_0lt, n_eq0, n_lt, n_le, n_eq, n_m1, n_m2, n_m9, n_12, n_19, n_10, n_01, n_1n1, n_0n1, n_1n0, n_0n0, n_dI, n_m1lt, q_inb, n_nar, n_nar0, n_nar1, n_bool, Bool.false_eq_true, Bool.true_eq_false, if_true, if_false, ↓reduceIte, Nat.reduceAdd, Nat.reduceMul, Nat.reduceSub, Nat.reduceLT, Nat.reduceLeDiff, Nat.reduceEqDiff, Nat.reduceMod, Nat.reduceDiv, q_R F2.1.1, r_F_z F2]
      · refine ⟨f1, p1, K1, N1, y1, y3, fun z => absurd z qf, fun M0 M d i hd hi hP => ?_, fun M0 M d hd hP => ?_⟩
        · obtain ⟨e, rfl⟩ : ∃ e, d = e + 1 := ⟨d - 1, by omega⟩
          obtain ⟨h6, h8, -, h300⟩ := c_hdr hP.1
          obtain ⟨M1, e1, Q1⟩ := y5 M0 M e (by omega) hP
          rw [k_1_n qf] at e1
          obtain ⟨M3, e3, F3⟩ := c_105F (d := e + 1) (i := i) (Q1.2 qf) (by omega)
          refine ⟨M3, ?_, fun z => absurd z qf, fun _ => F3⟩
          rw [L_X4_read_64]
          simp (disch := omega) only [q_ckt, q_lt, q_cI, q_cJ, q_cV, q_cP, q_xI, q_xV, q_xP, q_xJ, g_gk, g_ga, g_gw, g_gp, g_gq, g_P, g_J, q_I_s, q_I_n, q_I_k, nI_add, pk_sub, pk_mul, nI_clamp, n_lt0, n_0lt, n_eq0, n_lt, n_le, n_eq, n_m1, n_m2, n_m9, n_12, n_19, n_10, n_01, n_1n1, n_0n1, n_1n0, n_0n0, n_dI, n_m1lt, q_inb, n_nar, n_nar0, n_nar1, n_bool, Bool.false_eq_true, Bool.true_eq_false, if_true, if_false, ↓reduceIte, Nat.reduceAdd, Nat.reduceMul, Nat.reduceSub, Nat.reduceLT, Nat.reduceLeDiff, Nat.reduceEqDiff, Nat.reduceMod, Nat.reduceDiv, q_D hP.1.1.1, h6, show i < n by omega, h8, q, e1, e3]
        · obtain ⟨e, rfl⟩ : ∃ e, d = e + 1 := ⟨d - 1, by omega⟩
          obtain ⟨r10, r300, r12⟩ := r_hdr hP.1
          obtain ⟨M1, Q1, E1⟩ := y6 M0 M e (by omega) hP
          have F1 := Q1.2 qf
          have E2 := E1 M1 (r_stopF F1 (by omega))
          refine ⟨M1, ?_, Q1⟩
          rw [L_X12_well_107]
          simp (disch := omega) only [q_ckt, q_lt, q_cI, q_cJ, q_cV, q_cP, q_xI, q_xV, q_xP, q_xJ, g_gk, g_ga, g_gw, g_gp, g_gq, g_P, g_J, q_I_s, q_I_n, q_I_k, nI_add, pk_sub, pk_mul, nI_clamp, n_lt0, n_0lt, n_eq0, n_lt, n_le, n_eq, n_m1, n_m2, n_m9, n_12, n_19, n_10, n_01, n_1n1, n_0n1, n_1n0, n_0n0, n_dI, n_m1lt, q_inb, n_nar, n_nar0, n_nar1, n_bool, Bool.false_eq_true, Bool.true_eq_false, if_true, if_false, ↓reduceIte, Nat.reduceAdd, Nat.reduceMul, Nat.reduceSub, Nat.reduceLT, Nat.reduceLeDiff, Nat.reduceEqDiff, Nat.reduceMod, Nat.reduceDiv, q_R hP.1.1.1, r12, r10, r0, E2]
          rw [L_X12_well_107]
          simp (disch := omega) only [q_ckt, q_lt, q_cI, q_cJ, q_cV, q_cP, q_xI, q_xV, q_xP, q_xJ, g_gk, g_ga, g_gw, g_gp, g_gq, g_P, g_J, q_I_s, q_I_n, q_I_k, nI_add, pk_sub, pk_mul, nI_clamp, n_lt0, n_0lt, n_eq0, n_lt, n_le, n_eq, n_m1, n_m2, n_m9, n_12, n_19, n_10, n_01, n_1n1, n_0n1, n_1n0, n_0n0, n_dI, n_m1lt, q_inb, n_nar, n_nar0, n_nar1, n_bool, Bool.false_eq_true, Bool.true_eq_false, if_true, if_false, ↓reduceIte, Nat.reduceAdd, Nat.reduceMul, Nat.reduceSub, Nat.reduceLT, Nat.reduceLeDiff, Nat.reduceEqDiff, Nat.reduceMod, Nat.reduceDiv, q_R F1.1.1, r_F_z F1]
end LN
