/-! THE WELL: a person, whole; a line -/
section PW
variable {B : Nat → Nat} {n L : Nat} {xs : Nat → Int32} {M0 M M' : ir_M} {d dp s f p G N : Nat} {K K' : Nat → Int32}
theorem w_Person (hF : k_FR G N K) (hs : s ≤ n) (q : k_kd B n s = 257) : w_N B n L xs G s K := by
  obtain ⟨b1, b2, b3, b4, b5, b6, b7, b8⟩ := k_nt_b (B := B) hs
  have s1 := b3 (by omega)
  have hN8 := hF.1.2.2.1
  have hG := hF.1.2.1
  have KK1 := hF.1.2.2.2.1
  have KK2 := hF.1.2.2.2.2.1
  obtain ⟨s2, es2⟩ : ∃ x, x = k_nt B n s := ⟨_, rfl⟩
  rw [← es2] at b1 b2 s1
  have C2 : ∀ {M0 M : ir_M} {p : Nat}, c_P B n L xs M0 p K M → ir_I M 101 2 = nI N := fun h => h.2.1.2.2.1.trans KK2
  have R2 : ∀ {M0 M : ir_M} {p : Nat}, r_P B n L xs M0 0 p K M → ir_I M 414 2 = nI N := fun h => (h.2 2).trans KK2
  have CR : ∀ {M0 M M' : ir_M} {d : Nat} {r : Int32}, 51 ≤ d → c_P B n L xs M0 s K M → ir_nar 1 r = true → m_X4_readPerson d 100 M = ir_oI r M' → m_X4_readLine (d + 1) 100 M = ir_oI r M' := fun {M0 M M' d r} hd hP hr e => by
    obtain ⟨h6, h8, -, h300⟩ := c_hdr hP.1
    rw [E_X4_readLine]
    simp (disch := omega) only [q_ckt, q_lt, q_cI, q_cJ, q_cV, q_cP, q_xI, q_xV, q_xP, q_xJ, g_gk, g_ga, g_gw, g_gp, g_gq, g_P, g_J, q_I_s, q_I_n, q_I_k, nI_add, pk_sub, pk_mul, nI_clamp, n_lt0, n_0lt, n_eq0, n_lt, n_le, n_eq, n_m1, n_m2, n_m9, n_12, n_19, n_10, n_01, n_1n1, n_0n1, n_1n0, n_0n0, n_dI, n_m1lt, q_inb, n_nar, n_nar0, n_nar1, n_bool, Bool.false_eq_true, Bool.true_eq_false, if_true, if_false, ↓reduceIte, Nat.reduceAdd, Nat.reduceMul, Nat.reduceSub, Nat.reduceLT, Nat.reduceLeDiff, Nat.reduceEqDiff, Nat.reduceMod, Nat.reduceDiv, q_D hP.1.1.1, h8, q, e, hr]
  have RR : ∀ {M0 M : ir_M} {d : Nat}, 51 ≤ d → r_P B n L xs M0 0 s K M → ∀ M2 X, m_X12_readPerson d 412 M = ir_oV M2 → q_PI M2 → m_X12_readStop d 412 M2 = ir_oV X → m_X12_readLine (d + 1) 412 M = ir_oV X := fun {M0 M d} hd hP M2 X e2 pi hX => by
    have e1 := r_wordY (d := d) hP.1 (j := 1) (a := 1000034) (by decide) rfl q (by omega)
    rw [E_X12_readLine]
    refine (r_yes (q_R hP.1.1.1).1 e1).trans ?_
    simp (disch := omega) only [q_ckt, q_lt, q_cI, q_cJ, q_cV, q_cP, q_xI, q_xV, q_xP, q_xJ, g_gk, g_ga, g_gw, g_gp, g_gq, g_P, g_J, q_I_s, q_I_n, q_I_k, nI_add, pk_sub, pk_mul, nI_clamp, n_lt0, n_0lt, n_eq0, n_lt, n_le, n_eq, n_m1, n_m2, n_m9, n_12, n_19, n_10, n_01, n_1n1, n_0n1, n_1n0, n_0n0, n_dI, n_m1lt, q_inb, n_nar, n_nar0, n_nar1, n_bool, Bool.false_eq_true, Bool.true_eq_false, if_true, if_false, ↓reduceIte, Nat.reduceAdd, Nat.reduceMul, Nat.reduceSub, Nat.reduceLT, Nat.reduceLeDiff, Nat.reduceEqDiff, Nat.reduceMod, Nat.reduceDiv, q_R hP.1.1.1, e2, q_R pi, hX]
  by_cases hA : N = 8
  · have ef : k_fk (k_kd B n s) 4 = 4 := if_neg (by omega)
    refine ⟨4, s, K, N, by decide, Nat.le_refl _, hs, (fun z => nomatch z), fun M0 M d hd hP => ?_, fun M0 M d hd hP => ?_⟩
    · obtain ⟨e, rfl⟩ : ∃ e, d = e + 1 := ⟨d - 1, by omega⟩
      obtain ⟨M1, e1, t1⟩ := c_ref (d := e) hP.1 (w := 4) (by decide) (by omega)
      rw [ef] at t1
      rw [k_1_n (by decide)]
      refine ⟨M1, CR hd hP (by decide +kernel) ?_, (fun z => nomatch z), fun _ => t1⟩
      rw [E_X4_readPerson, q_ck (q_g100_2 hP.1.1.1), q_p100_2 hP.1.1.1, q_ck (q_k101 hP.1.1.1), C2 hP, if_neg (fun z => by have := (nI_ltI (a := N) (b := 8) (by omega) (by decide)).mp z; omega), q_ck (q_k100 hP.1.1.1), e1, q_cI, q_ck (by decide +kernel)]
    · obtain ⟨e, rfl⟩ : ∃ e, d = e + 1 := ⟨d - 1, by omega⟩
      obtain ⟨M1, e1, t1⟩ := r_blame (d := e) hP.1 (w := 4) (by decide) hG ((hP.2 1).trans KK1) (by omega)
      rw [ef] at t1
      refine ⟨M1, ⟨(fun z => nomatch z), fun _ => t1⟩, fun X hX => RR hd hP M1 X ?_ t1.1.1 hX⟩
      rw [E_X12_readPerson]
      simp (disch := omega) only [q_ckt, q_lt, q_cI, q_cJ, q_cV, q_cP, q_xI, q_xV, q_xP, q_xJ, g_gk, g_ga, g_gw, g_gp, g_gq, g_P, g_J, q_I_s, q_I_n, q_I_k, nI_add, pk_sub, pk_mul, nI_clamp, n_lt0, n_0lt, n_eq0, n_lt, n_le, n_eq, n_m1, n_m2, n_m9, n_12, n_19, n_10, n_01, n_1n1, n_0n1, n_1n0, n_0n0, n_dI, n_m1lt, q_inb, n_nar, n_nar0, n_nar1, n_bool, Bool.false_eq_true, Bool.true_eq_false, if_true, if_false, ↓reduceIte, Nat.reduceAdd, Nat.reduceMul, Nat.reduceSub, Nat.reduceLT, Nat.reduceLeDiff, Nat.reduceEqDiff, Nat.reduceMod, Nat.reduceDiv, q_R hP.1.1.1, R2 hP, hA, e1]
      rw [L_X12_readPerson_16, q_ck (q_k412 t1.1.1), if_neg (r_F_z t1)]
  · have hN : N < 8 := by omega
    have hA2 : ¬ N = 8 := hA
    have RA : ∀ {M0 M : ir_M} {e : Nat}, r_P B n L xs M0 0 s K M → m_X12_readPerson (e + 1) 412 M = v_X12_readPerson_16 e 412 M := fun {M0 M e} hP => by
      rw [E_X12_readPerson]
      simp (disch := omega) only [q_ckt, q_lt, q_cI, q_cJ, q_cV, q_cP, q_xI, q_xV, q_xP, q_xJ, g_gk, g_ga, g_gw, g_gp, g_gq, g_P, g_J, q_I_s, q_I_n, q_I_k, nI_add, pk_sub, pk_mul, nI_clamp, n_lt0, n_0lt, n_eq0, n_lt, n_le, n_eq, n_m1, n_m2, n_m9, n_12, n_19, n_10, n_01, n_1n1, n_0n1, n_1n0, n_0n0, n_dI, n_m1lt, q_inb, n_nar, n_nar0, n_nar1, n_bool, Bool.false_eq_true, Bool.true_eq_false, if_true, if_false, ↓reduceIte, Nat.reduceAdd, Nat.reduceMul, Nat.reduceSub, Nat.reduceLT, Nat.reduceLeDiff, Nat.reduceEqDiff, Nat.reduceMod, Nat.reduceDiv, q_R hP.1.1.1, R2 hP, hA2]
    obtain ⟨p2, ep1⟩ : ∃ x, x = k_nt B n (k_nt B n s2) := ⟨_, rfl⟩
    obtain ⟨p3, ep2⟩ : ∃ x, x = k_nt B n (k_nt B n p2) := ⟨_, rfl⟩
    obtain ⟨p4, ep3⟩ : ∃ x, x = k_nt B n (k_nt B n p3) := ⟨_, rfl⟩
    have m1 : s2 ≤ p2 ∧ p2 ≤ n := by
      obtain ⟨a1, a2, -⟩ := k_nt_b (B := B) b2
      obtain ⟨c1, c2, -⟩ := k_nt_b (B := B) a2
      rw [ep1]; omega
    have m2 : p2 ≤ p3 ∧ p3 ≤ n := by
      obtain ⟨a1, a2, -⟩ := k_nt_b (B := B) m1.2
      obtain ⟨c1, c2, -⟩ := k_nt_b (B := B) a2
      rw [ep2]; omega
    have m3 : p3 ≤ p4 ∧ p4 ≤ n := by
      obtain ⟨a1, a2, -⟩ := k_nt_b (B := B) m2.2
      obtain ⟨c1, c2, -⟩ := k_nt_b (B := B) a2
      rw [ep3]; omega
    obtain ⟨K1, eK1⟩ : ∃ x, x = k_put1 K (53 + N) (nI (k_vl B n (k_nt B n s2))) := ⟨_, rfl⟩
    obtain ⟨K2, eK2⟩ : ∃ x, x = k_put1 K1 (26 + N) (nI (k_vl B n (k_nt B n p2))) := ⟨_, rfl⟩
    obtain ⟨K3, eK3⟩ : ∃ x, x = k_put1 K2 (18 + N) (nI (k_vl B n (k_nt B n p3))) := ⟨_, rfl⟩
    have hF1 : k_FR G N K1 := by rw [eK1]; exact k_FR_p hF hN (by omega)
    have hF2 : k_FR G N K2 := by rw [eK2]; exact k_FR_p hF1 hN (by omega)
    have hF3 : k_FR G N K3 := by rw [eK3]; exact k_FR_p hF2 hN (by omega)
    by_cases f1 : k_sfl B n s2 16 99 = 0
    · by_cases f2 : k_sfl B n p2 17 999 = 0
      · by_cases f3 : k_sfl B n p3 2 ((G : Int) - 1) = 0
        · obtain ⟨-, -, v3, -⟩ := k_sfl_0 f3
          obtain ⟨n1, n2, n3, n4, n5, n6, n7, n8⟩ := k_nt_b (B := B) m3.2
          have ha : ∃ a : Nat, a < G ∧ K3 (18 + N) = nI a := ⟨k_vl B n (k_nt B n p3), by omega, by rw [eK3]; exact if_pos rfl⟩
          by_cases f4 : k_kd B n p4 = 271
          · obtain ⟨f, p, K', y1, y2, y3, y4, y5, y6⟩ := w_wl (B := B) (L := L) (xs := xs) hN G 0 (k_nt B n p4) K3 (by omega) n2 hF3 ha
            refine ⟨f, p, K', N + 1, y1, by omega, y3, fun z => ⟨by omega, y4 z⟩, fun M0 M d hd hP => ?_, fun M0 M d hd hP => ?_⟩
            · skip
              obtain ⟨e, rfl⟩ : ∃ e, d = e + 1 := ⟨d - 1, by omega⟩
              obtain ⟨M1, e1, P1⟩ := c_P_n (d := e) hP (by omega)
              rw [← es2] at P1
              obtain ⟨M2, P2, x1, q1, g1⟩ := (c_sg1 (d := e) P1 hF hN (by omega)).1 f1
              rw [← ep1, ← eK1] at P2
              obtain ⟨M3, P3, x2, q2, g2⟩ := (c_sg2 (d := e) P2 hF1 hN (by omega)).1 f2
              rw [← ep2, ← eK2] at P3
              obtain ⟨M4, P4, x3, q3, g3⟩ := (c_sg3 (d := e) P3 hF2 hN (by omega)).1 f3
              rw [← ep3, ← eK3] at P4
              obtain ⟨M5, e5, t5, -⟩ := c_tk (d := e) P4.1 (w := 271) (by decide) (by omega)
              rw [if_pos f4] at e5
              have P5 := c_P_e P4 (t5 f4)
              have X5 : c_X M5 K3 N 0 := by
                refine ⟨?_, ?_, ?_, fun j hj => absurd hj (Nat.not_lt_zero _)⟩
                · rw [q_I_eq (t5 f4).2 (by decide), q_I_eq q3 (by decide), q_I_eq q2 (by decide), x1, eK3, eK2, eK1]
                  unfold k_put1
                  rw [if_neg (by omega), if_neg (by omega), if_pos rfl]
                · rw [q_I_eq (t5 f4).2 (by decide), q_I_eq q3 (by decide), x2, eK3, eK2]
                  unfold k_put1
                  rw [if_neg (by omega), if_pos rfl]
                · rw [q_I_eq (t5 f4).2 (by decide), x3, eK3]
                  exact (if_pos rfl).symm
              obtain ⟨M9, e9, Q9⟩ := y5 M0 M5 e (by omega) P5 X5
              refine ⟨M9, CR hd hP (by unfold k_1; split <;> decide +kernel) ?_, Q9⟩
              rw [E_X4_readPerson, q_ck (q_g100_2 hP.1.1.1), q_p100_2 hP.1.1.1, q_ck (q_k101 hP.1.1.1), C2 hP, if_pos ((nI_ltI (by omega) (by decide)).mpr hN), q_ck (q_k100 hP.1.1.1), e1, q_cV]
              refine (g1 _).trans ?_
              refine (g2 _).trans ?_
              refine (g3 _).trans ?_
              simp (disch := omega) only [q_ckt, q_lt, q_cI, q_cJ, q_cV, q_cP, q_xI, q_xV, q_xP, q_xJ, g_gk, g_ga, g_gw, g_gp, g_gq, g_P, g_J, q_I_s, q_I_n, q_I_k, nI_add, pk_sub, pk_mul, nI_clamp, n_lt0, n_0lt, n_eq0, n_lt, n_le, n_eq, n_m1, n_m2, n_m9, n_12, n_19, n_10, n_01, n_1n1, n_0n1, n_1n0, n_0n0, n_dI, n_m1lt, q_inb, n_nar, n_nar0, n_nar1, n_bool, Bool.false_eq_true, Bool.true_eq_false, if_true, if_false, ↓reduceIte, Nat.reduceAdd, Nat.reduceMul, Nat.reduceSub, Nat.reduceLT, Nat.reduceLeDiff, Nat.reduceEqDiff, Nat.reduceMod, Nat.reduceDiv, q_D P4.1.1.1, e5, e9]
            · skip
              obtain ⟨e, rfl⟩ : ∃ e, d = e + 1 := ⟨d - 1, by omega⟩
              obtain ⟨M1, e1, P1⟩ := r_P_n (d := e) hP (by omega)
              rw [← es2] at P1
              obtain ⟨M2, P2, g1⟩ := (r_sg1 (d := e) P1 hF hN (by omega)).1 f1
              rw [← ep1, ← eK1] at P2
              obtain ⟨M3, P3, g2⟩ := (r_sg2 (d := e) P2 hF1 hN (by omega)).1 f2
              rw [← ep2, ← eK2] at P3
              obtain ⟨M4, P4, g3⟩ := (r_sg3 (d := e) P3 hF2 hN (by omega)).1 f3
              rw [← ep3, ← eK3] at P4
              obtain ⟨M5, e5, t5, -⟩ := r_mw (d := e) P4.1 (j := 15) (a := 1000038) (by decide) rfl hG ((P4.2 1).trans hF3.1.2.2.2.1) (by omega)
              have P5 := r_P_e P4 (t5 f4)
              obtain ⟨M9, e9, Q9⟩ := y6 M0 M5 e (by omega) P5
              have pi9 : q_PI M9 := by
                by_cases z : f = 0
                · exact (Q9.1 z).1.1.1
                · exact (Q9.2 z).1.1
              refine ⟨M9, Q9, fun X hX => RR hd hP M9 X ?_ pi9 hX⟩
              rw [RA hP, L_X12_readPerson_16, q_ck (q_k412 hP.1.1.1), if_pos hP.1.2.2.2.2.1, q_ck (q_k412 hP.1.1.1), e1, q_cV, q_ck (q_g412_1 P1.1.1.1), q_p412_1 P1.1.1.1, q_ck ((q_a414 P1.1.1.1 (nI 2)).trans (by decide +kernel)), show (nI 2).toNatClampNeg = 2 by decide +kernel, R2 P1]
              refine (g1 _).trans ?_
              refine (g2 _).trans ?_
              refine (g3 _).trans ?_
              simp (disch := omega) only [q_ckt, q_lt, q_cI, q_cJ, q_cV, q_cP, q_xI, q_xV, q_xP, q_xJ, g_gk, g_ga, g_gw, g_gp, g_gq, g_P, g_J, q_I_s, q_I_n, q_I_k, nI_add, pk_sub, pk_mul, nI_clamp, n_lt0, n_0lt, n_eq0, n_lt, n_le, n_eq, n_m1, n_m2, n_m9, n_12, n_19, n_10, n_01, n_1n1, n_0n1, n_1n0, n_0n0, n_dI, n_m1lt, q_inb, n_nar, n_nar0, n_nar1, n_bool, Bool.false_eq_true, Bool.true_eq_false, if_true, if_false, ↓reduceIte, Nat.reduceAdd, Nat.reduceMul, Nat.reduceSub, Nat.reduceLT, Nat.reduceLeDiff, Nat.reduceEqDiff, Nat.reduceMod, Nat.reduceDiv, q_R P4.1.1.1, e5, e9]
          · have kb := k_fk_b (kd := k_kd B n p4) (w := 2) (by decide)
            refine ⟨k_fk (k_kd B n p4) 2, p4, K, N, kb.2, by omega, m3.2, fun z => absurd z kb.1, fun M0 M d hd hP => ?_, fun M0 M d hd hP => ?_⟩
            · skip
              obtain ⟨e, rfl⟩ : ∃ e, d = e + 1 := ⟨d - 1, by omega⟩
              obtain ⟨M1, e1, P1⟩ := c_P_n (d := e) hP (by omega)
              rw [← es2] at P1
              obtain ⟨M2, P2, x1, q1, g1⟩ := (c_sg1 (d := e) P1 hF hN (by omega)).1 f1
              rw [← ep1, ← eK1] at P2
              obtain ⟨M3, P3, x2, q2, g2⟩ := (c_sg2 (d := e) P2 hF1 hN (by omega)).1 f2
              rw [← ep2, ← eK2] at P3
              obtain ⟨M4, P4, x3, q3, g3⟩ := (c_sg3 (d := e) P3 hF2 hN (by omega)).1 f3
              rw [← ep3, ← eK3] at P4
              obtain ⟨M5, e5, -, t5⟩ := c_tk (d := e) P4.1 (w := 271) (by decide) (by omega)
              rw [if_neg f4] at e5
              rw [k_1_n kb.1]
              refine ⟨M5, CR hd hP (by decide +kernel) ?_, fun z => absurd z kb.1, fun _ => t5 f4⟩
              rw [E_X4_readPerson, q_ck (q_g100_2 hP.1.1.1), q_p100_2 hP.1.1.1, q_ck (q_k101 hP.1.1.1), C2 hP, if_pos ((nI_ltI (by omega) (by decide)).mpr hN), q_ck (q_k100 hP.1.1.1), e1, q_cV]
              refine (g1 _).trans ?_
              refine (g2 _).trans ?_
              refine (g3 _).trans ?_
              simp (disch := omega) only [q_ckt, q_lt, q_cI, q_cJ, q_cV, q_cP, q_xI, q_xV, q_xP, q_xJ, g_gk, g_ga, g_gw, g_gp, g_gq, g_P, g_J, q_I_s, q_I_n, q_I_k, nI_add, pk_sub, pk_mul, nI_clamp, n_lt0, n_0lt, n_eq0, n_lt, n_le, n_eq, n_m1, n_m2, n_m9, n_12, n_19, n_10, n_01, n_1n1, n_0n1, n_1n0, n_0n0, n_dI, n_m1lt, q_inb, n_nar, n_nar0, n_nar1, n_bool, Bool.false_eq_true, Bool.true_eq_false, if_true, if_false, ↓reduceIte, Nat.reduceAdd, Nat.reduceMul, Nat.reduceSub, Nat.reduceLT, Nat.reduceLeDiff, Nat.reduceEqDiff, Nat.reduceMod, Nat.reduceDiv, q_D P4.1.1.1, e5, n_nr]
            · skip
              obtain ⟨e, rfl⟩ : ∃ e, d = e + 1 := ⟨d - 1, by omega⟩
              obtain ⟨M1, e1, P1⟩ := r_P_n (d := e) hP (by omega)
              rw [← es2] at P1
              obtain ⟨M2, P2, g1⟩ := (r_sg1 (d := e) P1 hF hN (by omega)).1 f1
              rw [← ep1, ← eK1] at P2
              obtain ⟨M3, P3, g2⟩ := (r_sg2 (d := e) P2 hF1 hN (by omega)).1 f2
              rw [← ep2, ← eK2] at P3
              obtain ⟨M4, P4, g3⟩ := (r_sg3 (d := e) P3 hF2 hN (by omega)).1 f3
              rw [← ep3, ← eK3] at P4
              obtain ⟨M5, e5, -, t5⟩ := r_mw (d := e) P4.1 (j := 15) (a := 1000038) (by decide) rfl hG ((P4.2 1).trans hF3.1.2.2.2.1) (by omega)
              obtain ⟨M9, e9, F9⟩ := r_116F hN (show 4 ≤ e by omega) 7 0 (by omega) (t5 f4)
              refine ⟨M9, ⟨fun z => absurd z kb.1, fun _ => F9⟩, fun X hX => RR hd hP M9 X ?_ F9.1.1 hX⟩
              rw [RA hP, L_X12_readPerson_16, q_ck (q_k412 hP.1.1.1), if_pos hP.1.2.2.2.2.1, q_ck (q_k412 hP.1.1.1), e1, q_cV, q_ck (q_g412_1 P1.1.1.1), q_p412_1 P1.1.1.1, q_ck ((q_a414 P1.1.1.1 (nI 2)).trans (by decide +kernel)), show (nI 2).toNatClampNeg = 2 by decide +kernel, R2 P1]
              refine (g1 _).trans ?_
              refine (g2 _).trans ?_
              refine (g3 _).trans ?_
              simp (disch := omega) only [q_ckt, q_lt, q_cI, q_cJ, q_cV, q_cP, q_xI, q_xV, q_xP, q_xJ, g_gk, g_ga, g_gw, g_gp, g_gq, g_P, g_J, q_I_s, q_I_n, q_I_k, nI_add, pk_sub, pk_mul, nI_clamp, n_lt0, n_0lt, n_eq0, n_lt, n_le, n_eq, n_m1, n_m2, n_m9, n_12, n_19, n_10, n_01, n_1n1, n_0n1, n_1n0, n_0n0, n_dI, n_m1lt, q_inb, n_nar, n_nar0, n_nar1, n_bool, Bool.false_eq_true, Bool.true_eq_false, if_true, if_false, ↓reduceIte, Nat.reduceAdd, Nat.reduceMul, Nat.reduceSub, Nat.reduceLT, Nat.reduceLeDiff, Nat.reduceEqDiff, Nat.reduceMod, Nat.reduceDiv, q_R P4.1.1.1, e5, e9]
        · refine ⟨k_sfl B n p3 2 ((G : Int) - 1), k_sq2 B n p3 2, K, N, k_sfl_b, by have := k_sq2_b (B := B) (j := 2) (show p3 ≤ n by omega); omega, (k_sq2_b (by omega)).2, fun z => absurd z f3, fun M0 M d hd hP => ?_, fun M0 M d hd hP => ?_⟩
          · skip
            obtain ⟨e, rfl⟩ : ∃ e, d = e + 1 := ⟨d - 1, by omega⟩
            obtain ⟨M1, e1, P1⟩ := c_P_n (d := e) hP (by omega)
            rw [← es2] at P1
            obtain ⟨M2, P2, x1, q1, g1⟩ := (c_sg1 (d := e) P1 hF hN (by omega)).1 f1
            rw [← ep1, ← eK1] at P2
            obtain ⟨M3, P3, x2, q2, g2⟩ := (c_sg2 (d := e) P2 hF1 hN (by omega)).1 f2
            rw [← ep2, ← eK2] at P3
            obtain ⟨MF, FF, gf⟩ := (c_sg3 (d := e) P3 hF2 hN (by omega)).2 f3
            rw [k_1_n f3]
            refine ⟨MF, CR hd hP (by decide +kernel) ?_, fun z => absurd z f3, fun _ => FF⟩
            rw [E_X4_readPerson, q_ck (q_g100_2 hP.1.1.1), q_p100_2 hP.1.1.1, q_ck (q_k101 hP.1.1.1), C2 hP, if_pos ((nI_ltI (by omega) (by decide)).mpr hN), q_ck (q_k100 hP.1.1.1), e1, q_cV]
            refine (g1 _).trans ?_
            refine (g2 _).trans ?_
            exact gf _
          · skip
            obtain ⟨e, rfl⟩ : ∃ e, d = e + 1 := ⟨d - 1, by omega⟩
            obtain ⟨M1, e1, P1⟩ := r_P_n (d := e) hP (by omega)
            rw [← es2] at P1
            obtain ⟨M2, P2, g1⟩ := (r_sg1 (d := e) P1 hF hN (by omega)).1 f1
            rw [← ep1, ← eK1] at P2
            obtain ⟨M3, P3, g2⟩ := (r_sg2 (d := e) P2 hF1 hN (by omega)).1 f2
            rw [← ep2, ← eK2] at P3
            obtain ⟨MF3, FF3, g3⟩ := (r_sg3 (d := e) P3 hF2 hN (by omega)).2 f3
            obtain ⟨M9, e9, F9⟩ := r_116F hN (show 4 ≤ e by omega) 7 0 (by omega) FF3
            refine ⟨M9, ⟨fun z => absurd z f3, fun _ => F9⟩, fun X hX => RR hd hP M9 X ?_ F9.1.1 hX⟩
            rw [RA hP, L_X12_readPerson_16, q_ck (q_k412 hP.1.1.1), if_pos hP.1.2.2.2.2.1, q_ck (q_k412 hP.1.1.1), e1, q_cV, q_ck (q_g412_1 P1.1.1.1), q_p412_1 P1.1.1.1, q_ck ((q_a414 P1.1.1.1 (nI 2)).trans (by decide +kernel)), show (nI 2).toNatClampNeg = 2 by decide +kernel, R2 P1]
            refine (g1 _).trans ?_
            refine (g2 _).trans ?_
            refine (g3 _).trans ?_
            simp (disch := omega) only [q_ckt, q_lt, q_cI, q_cJ, q_cV, q_cP, q_xI, q_xV, q_xP, q_xJ, g_gk, g_ga, g_gw, g_gp, g_gq, g_P, g_J, q_I_s, q_I_n, q_I_k, nI_add, pk_sub, pk_mul, nI_clamp, n_lt0, n_0lt, n_eq0, n_lt, n_le, n_eq, n_m1, n_m2, n_m9, n_12, n_19, n_10, n_01, n_1n1, n_0n1, n_1n0, n_0n0, n_dI, n_m1lt, q_inb, n_nar, n_nar0, n_nar1, n_bool, Bool.false_eq_true, Bool.true_eq_false, if_true, if_false, ↓reduceIte, Nat.reduceAdd, Nat.reduceMul, Nat.reduceSub, Nat.reduceLT, Nat.reduceLeDiff, Nat.reduceEqDiff, Nat.reduceMod, Nat.reduceDiv, q_R FF3.1.1, r_mwF FF3 (a := 1000038) (show 3 ≤ e by omega), e9]
      · refine ⟨k_sfl B n p2 17 999, k_sq2 B n p2 17, K, N, k_sfl_b, by have := k_sq2_b (B := B) (j := 17) (show p2 ≤ n by omega); omega, (k_sq2_b (by omega)).2, fun z => absurd z f2, fun M0 M d hd hP => ?_, fun M0 M d hd hP => ?_⟩
        · skip
          obtain ⟨e, rfl⟩ : ∃ e, d = e + 1 := ⟨d - 1, by omega⟩
          obtain ⟨M1, e1, P1⟩ := c_P_n (d := e) hP (by omega)
          rw [← es2] at P1
          obtain ⟨M2, P2, x1, q1, g1⟩ := (c_sg1 (d := e) P1 hF hN (by omega)).1 f1
          rw [← ep1, ← eK1] at P2
          obtain ⟨MF, FF, gf⟩ := (c_sg2 (d := e) P2 hF1 hN (by omega)).2 f2
          rw [k_1_n f2]
          refine ⟨MF, CR hd hP (by decide +kernel) ?_, fun z => absurd z f2, fun _ => FF⟩
          rw [E_X4_readPerson, q_ck (q_g100_2 hP.1.1.1), q_p100_2 hP.1.1.1, q_ck (q_k101 hP.1.1.1), C2 hP, if_pos ((nI_ltI (by omega) (by decide)).mpr hN), q_ck (q_k100 hP.1.1.1), e1, q_cV]
          refine (g1 _).trans ?_
          exact gf _
        · skip
          obtain ⟨e, rfl⟩ : ∃ e, d = e + 1 := ⟨d - 1, by omega⟩
          obtain ⟨M1, e1, P1⟩ := r_P_n (d := e) hP (by omega)
          rw [← es2] at P1
          obtain ⟨M2, P2, g1⟩ := (r_sg1 (d := e) P1 hF hN (by omega)).1 f1
          rw [← ep1, ← eK1] at P2
          obtain ⟨MF2, FF2, g2⟩ := (r_sg2 (d := e) P2 hF1 hN (by omega)).2 f2
          obtain ⟨MF3, FF3, g3⟩ := r_sgF3 (d := e) FF2 hN (by omega)
          obtain ⟨M9, e9, F9⟩ := r_116F hN (show 4 ≤ e by omega) 7 0 (by omega) FF3
          refine ⟨M9, ⟨fun z => absurd z f2, fun _ => F9⟩, fun X hX => RR hd hP M9 X ?_ F9.1.1 hX⟩
          rw [RA hP, L_X12_readPerson_16, q_ck (q_k412 hP.1.1.1), if_pos hP.1.2.2.2.2.1, q_ck (q_k412 hP.1.1.1), e1, q_cV, q_ck (q_g412_1 P1.1.1.1), q_p412_1 P1.1.1.1, q_ck ((q_a414 P1.1.1.1 (nI 2)).trans (by decide +kernel)), show (nI 2).toNatClampNeg = 2 by decide +kernel, R2 P1]
          refine (g1 _).trans ?_
          refine (g2 _).trans ?_
          refine (g3 _).trans ?_
          simp (disch := omega) only [q_ckt, q_lt, q_cI, q_cJ, q_cV, q_cP, q_xI, q_xV, q_xP, q_xJ, g_gk, g_ga, g_gw, g_gp, g_gq, g_P, g_J, q_I_s, q_I_n, q_I_k, nI_add, pk_sub, pk_mul, nI_clamp, n_lt0, n_0lt, n_eq0, n_lt, n_le, n_eq, n_m1, n_m2, n_m9, n_12, n_19, n_10, n_01, n_1n1, n_0n1, n_1n0, n_0n0, n_dI, n_m1lt, q_inb, n_nar, n_nar0, n_nar1, n_bool, Bool.false_eq_true, Bool.true_eq_false, if_true, if_false, ↓reduceIte, Nat.reduceAdd, Nat.reduceMul, Nat.reduceSub, Nat.reduceLT, Nat.reduceLeDiff, Nat.reduceEqDiff, Nat.reduceMod, Nat.reduceDiv, q_R FF3.1.1, r_mwF FF3 (a := 1000038) (show 3 ≤ e by omega), e9]
    · refine ⟨k_sfl B n s2 16 99, k_sq2 B n s2 16, K, N, k_sfl_b, by have := k_sq2_b (B := B) (j := 16) (show s2 ≤ n by omega); omega, (k_sq2_b (by omega)).2, fun z => absurd z f1, fun M0 M d hd hP => ?_, fun M0 M d hd hP => ?_⟩
      · skip
        obtain ⟨e, rfl⟩ : ∃ e, d = e + 1 := ⟨d - 1, by omega⟩
        obtain ⟨M1, e1, P1⟩ := c_P_n (d := e) hP (by omega)
        rw [← es2] at P1
        obtain ⟨MF, FF, gf⟩ := (c_sg1 (d := e) P1 hF hN (by omega)).2 f1
        rw [k_1_n f1]
        refine ⟨MF, CR hd hP (by decide +kernel) ?_, fun z => absurd z f1, fun _ => FF⟩
        rw [E_X4_readPerson, q_ck (q_g100_2 hP.1.1.1), q_p100_2 hP.1.1.1, q_ck (q_k101 hP.1.1.1), C2 hP, if_pos ((nI_ltI (by omega) (by decide)).mpr hN), q_ck (q_k100 hP.1.1.1), e1, q_cV]
        exact gf _
      · skip
        obtain ⟨e, rfl⟩ : ∃ e, d = e + 1 := ⟨d - 1, by omega⟩
        obtain ⟨M1, e1, P1⟩ := r_P_n (d := e) hP (by omega)
        rw [← es2] at P1
        obtain ⟨MF1, FF1, g1⟩ := (r_sg1 (d := e) P1 hF hN (by omega)).2 f1
        obtain ⟨MF2, FF2, g2⟩ := r_sgF2 (d := e) FF1 hN (by omega)
        obtain ⟨MF3, FF3, g3⟩ := r_sgF3 (d := e) FF2 hN (by omega)
        obtain ⟨M9, e9, F9⟩ := r_116F hN (show 4 ≤ e by omega) 7 0 (by omega) FF3
        refine ⟨M9, ⟨fun z => absurd z f1, fun _ => F9⟩, fun X hX => RR hd hP M9 X ?_ F9.1.1 hX⟩
        rw [RA hP, L_X12_readPerson_16, q_ck (q_k412 hP.1.1.1), if_pos hP.1.2.2.2.2.1, q_ck (q_k412 hP.1.1.1), e1, q_cV, q_ck (q_g412_1 P1.1.1.1), q_p412_1 P1.1.1.1, q_ck ((q_a414 P1.1.1.1 (nI 2)).trans (by decide +kernel)), show (nI 2).toNatClampNeg = 2 by decide +kernel, R2 P1]
        refine (g1 _).trans ?_
        refine (g2 _).trans ?_
        refine (g3 _).trans ?_
        simp (disch := omega) only [q_ckt, q_lt, q_cI, q_cJ, q_cV, q_cP, q_xI, q_xV, q_xP, q_xJ, g_gk, g_ga, g_gw, g_gp, g_gq, g_P, g_J, q_I_s, q_I_n, q_I_k, nI_add, pk_sub, pk_mul, nI_clamp, n_lt0, n_0lt, n_eq0, n_lt, n_le, n_eq, n_m1, n_m2, n_m9, n_12, n_19, n_10, n_01, n_1n1, n_0n1, n_1n0, n_0n0, n_dI, n_m1lt, q_inb, n_nar, n_nar0, n_nar1, n_bool, Bool.false_eq_true, Bool.true_eq_false, if_true, if_false, ↓reduceIte, Nat.reduceAdd, Nat.reduceMul, Nat.reduceSub, Nat.reduceLT, Nat.reduceLeDiff, Nat.reduceEqDiff, Nat.reduceMod, Nat.reduceDiv, q_R FF3.1.1, r_mwF FF3 (a := 1000038) (show 3 ≤ e by omega), e9]
end PW
