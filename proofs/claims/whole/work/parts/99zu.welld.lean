/-! THE WELL: the line of the law, of likings, of those apart -/
section LL
variable {B : Nat → Nat} {n L : Nat} {xs : Nat → Int32} {M0 M : ir_M} {d dp s f p G N : Nat} {K : Nat → Int32}
theorem k_nf_b {kd vl a : Nat} {hi : Int} : k_nf kd vl a hi ≤ 4 := by
  unfold k_nf
  have := k_fk_b (kd := kd) (w := 2) (by decide)
  split
  · split <;> omega
  · omega
theorem k_nf_0 {kd vl a : Nat} {hi : Int} (h : k_nf kd vl a hi = 0) : kd = 2 ∧ a ≤ vl ∧ (vl : Int) ≤ hi := by
  unfold k_nf at h
  by_cases z1 : kd = 2
  · rw [if_pos z1] at h
    by_cases z2 : a ≤ vl ∧ (vl : Int) ≤ hi
    · exact ⟨z1, z2⟩
    · rw [if_neg z2] at h; exact nomatch h
  · rw [if_neg z1] at h
    exact absurd h (k_fk_b (by decide)).1
theorem w_Law (h900 : n ≤ 900) (hF : k_FR G N K) (hs : s ≤ n) (q : k_kd B n s = 266) : w_N B n L xs G s K := by
  obtain ⟨b1, b2, b3, b4, b5, b6, b7, b8⟩ := k_nt_b (B := B) hs
  have s1 := b3 (by omega)
  have hb := (k_FR_d hF).2.2.2.2.2
  have e7 : k_put1 K 7 (nI 0) 7 = nI 0 := if_pos rfl
  have ee : ∀ k, k ≠ 7 → k_put1 K 7 (nI 0) k = K k := fun k hk => if_neg hk
  have hb0 : k_bsz (k_put1 K 7 (nI 0)) := k_bsz_w hb (fun k _ h2 => ee k h2)
  have LI : k_LI (k_put1 K 7 (nI 0)) 0 [] := ⟨e7, fun i hi => absurd hi (Nat.not_lt_zero _), fun i hi => ⟨[], by rw [Nat.le_zero.mp hi]; rfl, by decide⟩, rfl⟩
  obtain ⟨f, p, K', c', y1, y2, y3, y4, y5, y6⟩ := w_law (B := B) (L := L) (xs := xs) h900 (k_nt B n s) (k_put1 K 7 (nI 0)) 0 [] b2 LI (Nat.zero_le _) (Nat.zero_le _) hb0
  refine ⟨f, p, K', N, y1, by omega, y3, fun z => ?_, fun M0 M d hd hP => ?_, fun M0 M d hd hP => ?_⟩
  · obtain ⟨w1, w2, w3, w4⟩ := y4 z
    have e : ∀ k, k ≠ 7 ∧ (k < 717 ∨ 1617 ≤ k) → K' k = K k := fun k hk => (w3 k hk.1 hk.2).trans (ee k hk.1)
    obtain ⟨⟨a1, a2, a3, a4, a5, a6⟩, g2, g3, g4, g5, g6, ⟨A, A8, g7, g8⟩, g9, ⟨g10, g11, g12⟩, g13, g14⟩ := hF
    refine ⟨by omega, ⟨a1, a2, a3, by rw [e 1 (by omega)]; exact a4, by rw [e 2 (by omega)]; exact a5, by rw [e 9 (by omega)]; exact a6⟩, fun i hi => by rw [e _ (by omega)]; exact g2 i hi, fun p hp => ?_, by rw [e 3 (by omega)]; exact g4, by rw [e 4 (by omega)]; exact g5, by rw [e 5 (by omega)]; exact g6, ⟨A, A8, by rw [e 6 (by omega)]; exact g7, fun k hk => ?_⟩, ⟨c', by omega, w4.1, w4.2.1, w4.2.2.1, Or.inr w4.2.2.2⟩, ⟨by rw [e 8 (by omega)]; exact g10, fun k h1 h2 => by rw [e k (by omega)]; exact g11 k h1 h2, by rw [e 44 (by omega)]; exact g12⟩, by rw [e 43 (by omega)]; exact g13, fun k h1 h2 => by rw [e k (by omega)]; exact g14 k h1 h2⟩
    · obtain ⟨a, b1, b2⟩ := g3 p hp
      exact ⟨a, b1, by rw [e _ (by omega)]; exact b2⟩
    · obtain ⟨p, q, b1, b2, b3, b4⟩ := g8 k hk
      exact ⟨p, q, b1, b2, by rw [e _ (by omega)]; exact b3, by rw [e _ (by omega)]; exact b4⟩
  · obtain ⟨h6, h8, -, h300⟩ := c_hdr hP.1
    obtain ⟨M1, e1, P1⟩ := c_P_n (d := d) hP (by omega)
    have q1 : q_eq [104] M1 (ir_sI M1 104 0 (nI 0)) := q_eq.sI (by decide)
    have cl : m_X1_clear d 104 M1 = ir_oV (ir_sI M1 104 0 (nI 0)) := by
      obtain ⟨e, rfl⟩ : ∃ e, d = e + 1 := ⟨d - 1, by omega⟩
      rw [E_X1_clear]
      simp (disch := omega) only [q_ckt, q_lt, q_cI, q_cJ, q_cV, q_cP, q_xI, q_xV, q_xP, q_xJ, g_gk, g_ga, g_gw, g_gp, g_gq, g_P, g_J, q_I_s, q_I_n, q_I_k, nI_add, pk_sub, pk_mul, nI_clamp, n_lt0, n_0lt, n_eq0, n_lt, n_le, n_eq, n_m1, n_m2, n_m9, n_12, n_19, n_10, n_01, n_1n1, n_0n1, n_1n0, n_0n0, n_dI, n_m1lt, q_inb, n_nar, n_nar0, n_nar1, n_bool, Bool.false_eq_true, Bool.true_eq_false, if_true, if_false, ↓reduceIte, Nat.reduceAdd, Nat.reduceMul, Nat.reduceSub, Nat.reduceLT, Nat.reduceLeDiff, Nat.reduceEqDiff, Nat.reduceMod, Nat.reduceDiv, q_N P1.1.1.1]
    have P2 : c_P B n L xs M0 (k_nt B n s) (k_put1 K 7 (nI 0)) (ir_sI M1 104 0 (nI 0)) := ⟨c_T_eq P1.1 q1 (by decide) ⟨0, by decide, q_I_s⟩, c_K_g hb (fun a _ h1 _ _ => q1.1 a (fun w => h1 (List.mem_singleton.mp w))) (fun k _ h2 => ee k h2) (by rw [q_I_s, e7]) (fun i hi => by
      rw [e7] at hi
      exact absurd hi (Nat.not_lt_zero _)) P1.2⟩
    obtain ⟨M3, e3, Q3⟩ := y5 M0 _ d (by omega) P2
    have e3' : m_X4_readTruth d 100 (nI 0) (ir_sI M1 104 0 (nI 0)) = ir_oI (k_1 f) M3 := e3
    have nar : ir_nar 1 (k_1 f) = true := by unfold k_1; split <;> decide +kernel
    refine ⟨M3, ?_, Q3⟩
    rw [E_X4_readLine]
    simp (disch := omega) only [q_ckt, q_lt, q_cI, q_cJ, q_cV, q_cP, q_xI, q_xV, q_xP, q_xJ, g_gk, g_ga, g_gw, g_gp, g_gq, g_P, g_J, q_I_s, q_I_n, q_I_k, nI_add, pk_sub, pk_mul, nI_clamp, n_lt0, n_0lt, n_eq0, n_lt, n_le, n_eq, n_m1, n_m2, n_m9, n_12, n_19, n_10, n_01, n_1n1, n_0n1, n_1n0, n_0n0, n_dI, n_m1lt, q_inb, n_nar, n_nar0, n_nar1, n_bool, Bool.false_eq_true, Bool.true_eq_false, if_true, if_false, ↓reduceIte, Nat.reduceAdd, Nat.reduceMul, Nat.reduceSub, Nat.reduceLT, Nat.reduceLeDiff, Nat.reduceEqDiff, Nat.reduceMod, Nat.reduceDiv, q_D hP.1.1.1, h8, q, e1, q_D P1.1.1.1, q_N P1.1.1.1, cl, e3', nar]
  · have u1 := r_wordN (d := d) hP.1 (j := 1) (a := 1000034) (by decide) rfl (by omega) (by omega)
    have u3 := r_wordN (d := d) hP.1 (j := 3) (a := 1000039) (by decide) rfl (by omega) (by omega)
    have u4 := r_tookN (d := d) hP.1 (j := 4) (a := 1000040) (by decide) rfl (by omega) (by omega)
    have u5 := r_tookN (d := d) hP.1 (j := 5) (a := 1000041) (by decide) rfl (by omega) (by omega)
    have u6 := r_tookN (d := d) hP.1 (j := 6) (a := 1000042) (by decide) rfl (by omega) (by omega)
    have u7 := r_tookN (d := d) hP.1 (j := 7) (a := 1000043) (by decide) rfl (by omega) (by omega)
    have u8 := r_tookN (d := d) hP.1 (j := 8) (a := 1000044) (by decide) rfl (by omega) (by omega)
    have u9 := r_tookN (d := d) hP.1 (j := 9) (a := 1000045) (by decide) rfl (by omega) (by omega)
    obtain ⟨M1, e1, t1⟩ := r_tookY (d := d) hP.1 (j := 10) (a := 1000046) (by decide) rfl q (by omega)
    have P1 := r_P_4 (k := 7) (v := nI 0) (r_P_e hP t1)
    obtain ⟨M3, e3, Q3⟩ := y6 M0 _ d (by omega) P1
    have e3' : m_X12_readTruth d 412 (ir_sI M1 414 7 (nI 0)) = ir_oV M3 := e3
    have pi : q_PI M3 := by
      by_cases z : f = 0
      · exact (Q3.1 z).1.1.1
      · exact (Q3.2 z).1.1
    refine ⟨M3, Q3, fun X hX => ?_⟩
    rw [E_X12_readLine]
    refine (r_no (q_R hP.1.1.1).1 u1).trans ?_
    refine (r_no (q_R hP.1.1.1).1 u3).trans ?_
    refine (r_no (q_R hP.1.1.1).1 u4).trans ?_
    refine (r_no (q_R hP.1.1.1).1 u5).trans ?_
    refine (r_no (q_R hP.1.1.1).1 u6).trans ?_
    refine (r_no (q_R hP.1.1.1).1 u7).trans ?_
    refine (r_no (q_R hP.1.1.1).1 u8).trans ?_
    refine (r_no (q_R hP.1.1.1).1 u9).trans ?_
    refine (r_yes (q_R hP.1.1.1).1 e1).trans ?_
    simp (disch := omega) only [q_ckt, q_lt, q_cI, q_cJ, q_cV, q_cP, q_xI, q_xV, q_xP, q_xJ, g_gk, g_ga, g_gw, g_gp, g_gq, g_P, g_J, q_I_s, q_I_n, q_I_k, nI_add, pk_sub, pk_mul, nI_clamp, n_lt0, n_0lt, n_eq0, n_lt, n_le, n_eq, n_m1, n_m2, n_m9, n_12, n_19, n_10, n_01, n_1n1, n_0n1, n_1n0, n_0n0, n_dI, n_m1lt, q_inb, n_nar, n_nar0, n_nar1, n_bool, Bool.false_eq_true, Bool.true_eq_false, if_true, if_false, ↓reduceIte, Nat.reduceAdd, Nat.reduceMul, Nat.reduceSub, Nat.reduceLT, Nat.reduceLeDiff, Nat.reduceEqDiff, Nat.reduceMod, Nat.reduceDiv, q_R t1.1.1.1, e3', q_R pi, hX]
/-- another body: the fault -/
def k_of (kd vl N one : Nat) : Nat := if k_nf kd vl 0 ((N : Int) - 1) = 0 then (if vl = one then 3 else 0) else k_nf kd vl 0 ((N : Int) - 1)
theorem k_lim32 {v : Int32} (h : v = nI N) (hN : N ≤ 8) : (v - nI 1).toInt = (N : Int) - 1 := by
  rw [h, pk_sub_toInt (by omega) (by omega)]
  rfl
theorem c_ot (h : c_T B n L xs M0 s M) {one : Nat} (h1 : one < N) (hN : N ≤ 8) (h2 : ir_I M 101 2 = nI N) (hd : 3 ≤ d) : ∃ M', m_X4_takeOther d 100 (nI one) M = ir_oI (k_1 (k_of (k_kd B n s) (k_vl B n s) N one)) M' ∧ (k_of (k_kd B n s) (k_vl B n s) N one = 0 → M' = M) ∧ (k_of (k_kd B n s) (k_vl B n s) N one ≠ 0 → c_F B n L xs M0 (k_of (k_kd B n s) (k_vl B n s) N one) s M') := by
  obtain ⟨e, rfl⟩ : ∃ e, d = e + 1 := ⟨d - 1, by omega⟩
  obtain ⟨M1, e1, e2, e3⟩ := c_num (d := e) h (a := 0) (hi := ir_I M 101 2 - nI 1) (by decide) (by omega)
  rw [k_lim32 h2 hN] at e1 e2 e3
  unfold k_of
  by_cases c : k_nf (k_kd B n s) (k_vl B n s) 0 ((N : Int) - 1) = 0
  · obtain ⟨c1, -, c3⟩ := k_nf_0 c
    have h10 := h.2.2.2.2.2.2.2.2.2 c1
    rw [e2 c] at e1
    rw [if_pos c] at e1
    rw [if_pos c]
    by_cases c2 : k_vl B n s = one
    · rw [if_pos c2]
      obtain ⟨M2, r1, r2⟩ := c_ref (d := e) h (w := 3) (by decide) (by omega)
      rw [show k_fk (k_kd B n s) 3 = 3 from if_neg (by omega)] at r2
      refine ⟨M2, ?_, (fun z => nomatch z), fun _ => r2⟩
      rw [E_X4_takeOther, k_1_n (by decide)]
      simp (disch := omega) only [q_ckt, q_lt, q_cI, q_cJ, q_cV, q_cP, q_xI, q_xV, q_xP, q_xJ, g_gk, g_ga, g_gw, g_gp, g_gq, g_P, g_J, q_I_s, q_I_n, q_I_k, nI_add, pk_sub, pk_mul, nI_clamp, n_lt0, n_0lt, n_eq0, n_lt, n_le, n_eq, n_m1, n_m2, n_m9, n_12, n_19, n_10, n_01, n_1n1, n_0n1, n_1n0, n_0n0, n_dI, n_m1lt, q_inb, n_nar, n_nar0, n_nar1, n_bool, Bool.false_eq_true, Bool.true_eq_false, if_true, if_false, ↓reduceIte, Nat.reduceAdd, Nat.reduceMul, Nat.reduceSub, Nat.reduceLT, Nat.reduceLeDiff, Nat.reduceEqDiff, Nat.reduceMod, Nat.reduceDiv, q_D h.1.1, q_N h.1.1, e1, h10, c2, r1, n_nr]
    · rw [if_neg c2]
      refine ⟨M, ?_, fun _ => rfl, fun z => absurd rfl z⟩
      rw [E_X4_takeOther, k_1_0]
      simp (disch := omega) only [q_ckt, q_lt, q_cI, q_cJ, q_cV, q_cP, q_xI, q_xV, q_xP, q_xJ, g_gk, g_ga, g_gw, g_gp, g_gq, g_P, g_J, q_I_s, q_I_n, q_I_k, nI_add, pk_sub, pk_mul, nI_clamp, n_lt0, n_0lt, n_eq0, n_lt, n_le, n_eq, n_m1, n_m2, n_m9, n_12, n_19, n_10, n_01, n_1n1, n_0n1, n_1n0, n_0n0, n_dI, n_m1lt, q_inb, n_nar, n_nar0, n_nar1, n_bool, Bool.false_eq_true, Bool.true_eq_false, if_true, if_false, ↓reduceIte, Nat.reduceAdd, Nat.reduceMul, Nat.reduceSub, Nat.reduceLT, Nat.reduceLeDiff, Nat.reduceEqDiff, Nat.reduceMod, Nat.reduceDiv, q_D h.1.1, q_N h.1.1, e1, h10, c2, n_nr]
  · rw [if_neg c] at e1
    rw [if_neg c]
    refine ⟨M1, ?_, fun z => absurd z c, fun _ => e3 c⟩
    rw [E_X4_takeOther, k_1_n c]
    simp (disch := omega) only [q_ckt, q_lt, q_cI, q_cJ, q_cV, q_cP, q_xI, q_xV, q_xP, q_xJ, g_gk, g_ga, g_gw, g_gp, g_gq, g_P, g_J, q_I_s, q_I_n, q_I_k, nI_add, pk_sub, pk_mul, nI_clamp, n_lt0, n_0lt, n_eq0, n_lt, n_le, n_eq, n_m1, n_m2, n_m9, n_12, n_19, n_10, n_01, n_1n1, n_0n1, n_1n0, n_0n0, n_dI, n_m1lt, q_inb, n_nar, n_nar0, n_nar1, n_bool, Bool.false_eq_true, Bool.true_eq_false, if_true, if_false, ↓reduceIte, Nat.reduceAdd, Nat.reduceMul, Nat.reduceSub, Nat.reduceLT, Nat.reduceLeDiff, Nat.reduceEqDiff, Nat.reduceMod, Nat.reduceDiv, q_D h.1.1, q_N h.1.1, e1, n_nr]
theorem r_ot (h : r_T B n L xs M0 dp s M) {one g : Nat} (h1 : one < N) (hN : N ≤ 8) (h2 : ir_I M 414 2 = nI N) (hg : g ≤ 6) (h1g : ir_I M 414 1 = nI g) (hd : 5 ≤ d) : ∃ M' v, m_X12_readOther d 412 (nI one) M = ir_oI v M' ∧ (k_of (k_kd B n s) (k_vl B n s) N one = 0 → v = nI (k_vl B n s) ∧ r_T B n L xs M0 dp (k_nt B n s) M' ∧ q_eq [412] M M') ∧ (k_of (k_kd B n s) (k_vl B n s) N one ≠ 0 → v = nI 0 ∧ r_F B n L xs M0 (k_of (k_kd B n s) (k_vl B n s) N one) s M') := by
  obtain ⟨e, rfl⟩ : ∃ e, d = e + 1 := ⟨d - 1, by omega⟩
  obtain ⟨r10, r300, r12⟩ := r_hdr h
  obtain ⟨b1, b2, b3, b4, b5, b6, b7, b8⟩ := k_nt_b (B := B) h.2.2.2.1
  have i3 := (k_rt_i (k_kd B n s)).2.2.1
  obtain ⟨M1, e1, e2, e3⟩ := r_num (d := e) h (a := 0) (hi := ir_I M 414 2 - nI 1) (by decide) hg h1g (by omega)
  rw [k_lim32 h2 hN] at e1 e2 e3
  unfold k_of
  by_cases c : k_nf (k_kd B n s) (k_vl B n s) 0 ((N : Int) - 1) = 0
  · obtain ⟨c1, -, c3⟩ := k_nf_0 c
    have h11 := h.2.2.2.2.2.2.2.2.1 c1
    have v1000 := b6 c1
    rw [if_pos c] at e1
    rw [if_pos c]
    by_cases c2 : k_vl B n s = one
    · rw [if_pos c2]
      obtain ⟨M2, r1, r2⟩ := r_blame (d := e) h (w := 3) (by decide) hg h1g (by omega)
      rw [show k_fk (k_kd B n s) 3 = 3 from if_neg (by omega)] at r2
      refine ⟨M2, nI 0, ?_, (fun z => nomatch z), fun _ => ⟨rfl, r2⟩⟩
      rw [E_X12_readOther]
      simp (disch := omega) only [q_ckt, q_lt, q_cI, q_cJ, q_cV, q_cP, q_xI, q_xV, q_xP, q_xJ, g_gk, g_ga, g_gw, g_gp, g_gq, g_P, g_J, q_I_s, q_I_n, q_I_k, nI_add, pk_sub, pk_mul, nI_clamp, n_lt0, n_0lt, n_eq0, n_lt, n_le, n_eq, n_m1, n_m2, n_m9, n_12, n_19, n_10, n_01, n_1n1, n_0n1, n_1n0, n_0n0, n_dI, n_m1lt, q_inb, n_nar, n_nar0, n_nar1, n_bool, Bool.false_eq_true, Bool.true_eq_false, if_true, if_false, ↓reduceIte, Nat.reduceAdd, Nat.reduceMul, Nat.reduceSub, Nat.reduceLT, Nat.reduceLeDiff, Nat.reduceEqDiff, Nat.reduceMod, Nat.reduceDiv, q_R h.1.1, r12, r10, i3.mpr c1, h11, c2, r1]
      rw [L_X12_readOther_28]
      simp (disch := omega) only [q_ckt, q_lt, q_cI, q_cJ, q_cV, q_cP, q_xI, q_xV, q_xP, q_xJ, g_gk, g_ga, g_gw, g_gp, g_gq, g_P, g_J, q_I_s, q_I_n, q_I_k, nI_add, pk_sub, pk_mul, nI_clamp, n_lt0, n_0lt, n_eq0, n_lt, n_le, n_eq, n_m1, n_m2, n_m9, n_12, n_19, n_10, n_01, n_1n1, n_0n1, n_1n0, n_0n0, n_dI, n_m1lt, q_inb, n_nar, n_nar0, n_nar1, n_bool, Bool.false_eq_true, Bool.true_eq_false, if_true, if_false, ↓reduceIte, Nat.reduceAdd, Nat.reduceMul, Nat.reduceSub, Nat.reduceLT, Nat.reduceLeDiff, Nat.reduceEqDiff, Nat.reduceMod, Nat.reduceDiv, q_R r2.1.1, r_numF r2 (lo := nI 0) (hi := ir_I M2 414 2 - nI 1) (show 2 ≤ e by omega)]
    · rw [if_neg c2]
      refine ⟨M1, _, ?_, fun _ => ⟨rfl, e2 c⟩, fun z => absurd rfl z⟩
      rw [E_X12_readOther]
      simp (disch := omega) only [q_ckt, q_lt, q_cI, q_cJ, q_cV, q_cP, q_xI, q_xV, q_xP, q_xJ, g_gk, g_ga, g_gw, g_gp, g_gq, g_P, g_J, q_I_s, q_I_n, q_I_k, nI_add, pk_sub, pk_mul, nI_clamp, n_lt0, n_0lt, n_eq0, n_lt, n_le, n_eq, n_m1, n_m2, n_m9, n_12, n_19, n_10, n_01, n_1n1, n_0n1, n_1n0, n_0n0, n_dI, n_m1lt, q_inb, n_nar, n_nar0, n_nar1, n_bool, Bool.false_eq_true, Bool.true_eq_false, if_true, if_false, ↓reduceIte, Nat.reduceAdd, Nat.reduceMul, Nat.reduceSub, Nat.reduceLT, Nat.reduceLeDiff, Nat.reduceEqDiff, Nat.reduceMod, Nat.reduceDiv, q_R h.1.1, r12, r10, i3.mpr c1, h11, c2]
      rw [L_X12_readOther_28]
      simp (disch := omega) only [q_ckt, q_lt, q_cI, q_cJ, q_cV, q_cP, q_xI, q_xV, q_xP, q_xJ, g_gk, g_ga, g_gw, g_gp, g_gq, g_P, g_J, q_I_s, q_I_n, q_I_k, nI_add, pk_sub, pk_mul, nI_clamp, n_lt0, n_0lt, n_eq0, n_lt, n_le, n_eq, n_m1, n_m2, n_m9, n_12, n_19, n_10, n_01, n_1n1, n_0n1, n_1n0, n_0n0, n_dI, n_m1lt, q_inb, n_nar, n_nar0, n_nar1, n_bool, Bool.false_eq_true, Bool.true_eq_false, if_true, if_false, ↓reduceIte, Nat.reduceAdd, Nat.reduceMul, Nat.reduceSub, Nat.reduceLT, Nat.reduceLeDiff, Nat.reduceEqDiff, Nat.reduceMod, Nat.reduceDiv, q_R h.1.1, e1]
  · rw [if_neg c] at e1
    rw [if_neg c]
    refine ⟨M1, nI 0, ?_, fun z => absurd z c, fun _ => ⟨rfl, e3 c⟩⟩
    rw [E_X12_readOther]
    by_cases c1 : k_kd B n s = 2
    · have h11 := h.2.2.2.2.2.2.2.2.1 c1
      have v1000 := b6 c1
      have c2 : ¬ k_vl B n s = one := fun z => c (by unfold k_nf; rw [if_pos c1, if_pos (by omega)])
      simp (disch := omega) only [q_ckt, q_lt, q_cI, q_cJ, q_cV, q_cP, q_xI, q_xV, q_xP, q_xJ, g_gk, g_ga, g_gw, g_gp, g_gq, g_P, g_J, q_I_s, q_I_n, q_I_k, nI_add, pk_sub, pk_mul, nI_clamp, n_lt0, n_0lt, n_eq0, n_lt, n_le, n_eq, n_m1, n_m2, n_m9, n_12, n_19, n_10, n_01, n_1n1, n_0n1, n_1n0, n_0n0, n_dI, n_m1lt, q_inb, n_nar, n_nar0, n_nar1, n_bool, Bool.false_eq_true, Bool.true_eq_false, if_true, if_false, ↓reduceIte, Nat.reduceAdd, Nat.reduceMul, Nat.reduceSub, Nat.reduceLT, Nat.reduceLeDiff, Nat.reduceEqDiff, Nat.reduceMod, Nat.reduceDiv, q_R h.1.1, r12, r10, i3.mpr c1, h11, c2]
      rw [L_X12_readOther_28]
      simp (disch := omega) only [q_ckt, q_lt, q_cI, q_cJ, q_cV, q_cP, q_xI, q_xV, q_xP, q_xJ, g_gk, g_ga, g_gw, g_gp, g_gq, g_P, g_J, q_I_s, q_I_n, q_I_k, nI_add, pk_sub, pk_mul, nI_clamp, n_lt0, n_0lt, n_eq0, n_lt, n_le, n_eq, n_m1, n_m2, n_m9, n_12, n_19, n_10, n_01, n_1n1, n_0n1, n_1n0, n_0n0, n_dI, n_m1lt, q_inb, n_nar, n_nar0, n_nar1, n_bool, Bool.false_eq_true, Bool.true_eq_false, if_true, if_false, ↓reduceIte, Nat.reduceAdd, Nat.reduceMul, Nat.reduceSub, Nat.reduceLT, Nat.reduceLeDiff, Nat.reduceEqDiff, Nat.reduceMod, Nat.reduceDiv, q_R h.1.1, e1]
    · have c2 : ¬ k_rt (k_kd B n s) = 2 := fun z => c1 (i3.mp z)
      simp (disch := omega) only [q_ckt, q_lt, q_cI, q_cJ, q_cV, q_cP, q_xI, q_xV, q_xP, q_xJ, g_gk, g_ga, g_gw, g_gp, g_gq, g_P, g_J, q_I_s, q_I_n, q_I_k, nI_add, pk_sub, pk_mul, nI_clamp, n_lt0, n_0lt, n_eq0, n_lt, n_le, n_eq, n_m1, n_m2, n_m9, n_12, n_19, n_10, n_01, n_1n1, n_0n1, n_1n0, n_0n0, n_dI, n_m1lt, q_inb, n_nar, n_nar0, n_nar1, n_bool, Bool.false_eq_true, Bool.true_eq_false, if_true, if_false, ↓reduceIte, Nat.reduceAdd, Nat.reduceMul, Nat.reduceSub, Nat.reduceLT, Nat.reduceLeDiff, Nat.reduceEqDiff, Nat.reduceMod, Nat.reduceDiv, q_R h.1.1, r12, r10, c2]
      rw [L_X12_readOther_28]
      simp (disch := omega) only [q_ckt, q_lt, q_cI, q_cJ, q_cV, q_cP, q_xI, q_xV, q_xP, q_xJ, g_gk, g_ga, g_gw, g_gp, g_gq, g_P, g_J, q_I_s, q_I_n, q_I_k, nI_add, pk_sub, pk_mul, nI_clamp, n_lt0, n_0lt, n_eq0, n_lt, n_le, n_eq, n_m1, n_m2, n_m9, n_12, n_19, n_10, n_01, n_1n1, n_0n1, n_1n0, n_0n0, n_dI, n_m1lt, q_inb, n_nar, n_nar0, n_nar1, n_bool, Bool.false_eq_true, Bool.true_eq_false, if_true, if_false, ↓reduceIte, Nat.reduceAdd, Nat.reduceMul, Nat.reduceSub, Nat.reduceLT, Nat.reduceLeDiff, Nat.reduceEqDiff, Nat.reduceMod, Nat.reduceDiv, q_R h.1.1, e1]
theorem r_otF (h : r_F B n L xs M0 f p M) {v : Int32} (hd : 3 ≤ d) : m_X12_readOther d 412 v M = ir_oI (nI 0) M := by
  obtain ⟨e, rfl⟩ : ∃ e, d = e + 1 := ⟨d - 1, by omega⟩
  rw [E_X12_readOther]
  simp (disch := omega) only [q_ckt, q_lt, q_cI, q_cJ, q_cV, q_cP, q_xI, q_xV, q_xP, q_xJ, g_gk, g_ga, g_gw, g_gp, g_gq, g_P, g_J, q_I_s, q_I_n, q_I_k, nI_add, pk_sub, pk_mul, nI_clamp, n_lt0, n_0lt, n_eq0, n_lt, n_le, n_eq, n_m1, n_m2, n_m9, n_12, n_19, n_10, n_01, n_1n1, n_0n1, n_1n0, n_0n0, n_dI, n_m1lt, q_inb, n_nar, n_nar0, n_nar1, n_bool, Bool.false_eq_true, Bool.true_eq_false, if_true, if_false, ↓reduceIte, Nat.reduceAdd, Nat.reduceMul, Nat.reduceSub, Nat.reduceLT, Nat.reduceLeDiff, Nat.reduceEqDiff, Nat.reduceMod, Nat.reduceDiv, q_R h.1.1, r_F_z h]
  rw [L_X12_readOther_28]
  simp (disch := omega) only [q_ckt, q_lt, q_cI, q_cJ, q_cV, q_cP, q_xI, q_xV, q_xP, q_xJ, g_gk, g_ga, g_gw, g_gp, g_gq, g_P, g_J, q_I_s, q_I_n, q_I_k, nI_add, pk_sub, pk_mul, nI_clamp, n_lt0, n_0lt, n_eq0, n_lt, n_le, n_eq, n_m1, n_m2, n_m9, n_12, n_19, n_10, n_01, n_1n1, n_0n1, n_1n0, n_0n0, n_dI, n_m1lt, q_inb, n_nar, n_nar0, n_nar1, n_bool, Bool.false_eq_true, Bool.true_eq_false, if_true, if_false, ↓reduceIte, Nat.reduceAdd, Nat.reduceMul, Nat.reduceSub, Nat.reduceLT, Nat.reduceLeDiff, Nat.reduceEqDiff, Nat.reduceMod, Nat.reduceDiv, q_R h.1.1, r_numF h (lo := nI 0) (hi := ir_I M 414 2 - nI 1) (show 2 ≤ e by omega)]
end LL
