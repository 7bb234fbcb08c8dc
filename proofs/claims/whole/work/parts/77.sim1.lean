/-! questions that only look -/
section S1
variable {M : ir_M} {K A Fl : Nat → Int32} {d s : Nat}
theorem n_mul1 {x : Int32} : x * nI 1 = x := Int32.mul_one x
theorem r_sumToday (h : r_rl M K) : ∃ M', m_X12_sumToday (d + 7) 412 M = ir_oI (k_tot K) M' ∧ q_eq [418, 419, 420] M M' := by
  obtain ⟨M1, e1, h1, a1, f1⟩ := r_laysToday (d := d) h
  have hr := r_rl_eq h h1 (by decide)
  refine ⟨M1, ?_, h1⟩
  rw [E_X12_sumToday]
  simp (disch := omega) only [q_ckt, q_lt, q_cI, q_cJ, q_cV, q_cP, q_xI, q_xV, q_xP, q_xJ, g_gk, g_ga, g_gw, g_gp, g_gq, g_P, g_J, q_I_s, q_I_n, q_I_k, nI_add, pk_sub, pk_mul, nI_clamp, n_lt0, n_0lt, n_eq0, n_lt, n_le, n_eq, n_m1, n_m2, n_m9, n_12, n_19, n_10, n_01, n_1n1, n_0n1, n_1n0, n_0n0, n_dI, n_m1lt, q_inb, n_nar, n_nar0, n_nar1, n_bool, Bool.false_eq_true, Bool.true_eq_false, if_true, if_false, ↓reduceIte, Nat.reduceAdd, Nat.reduceMul, Nat.reduceSub, Nat.reduceLT, Nat.reduceLeDiff, Nat.reduceEqDiff, Nat.reduceMod, Nat.reduceDiv, q_R h.1, e1, q_R hr.1, r_fellToAll hr f1 (fun i hi => k_td_gd h.2.1 hi)]
  rfl
theorem r_todayTo (h : r_rl M K) {p i : Nat} (hp : p < k_n K) (hi : k_pl K p = some i) : ∃ M', m_X12_todayTo (d + 7) 412 (nI p) M = ir_oI (k_fw K (k_td K) i) M' ∧ q_eq [418, 419, 420] M M' := by
  have hb := k_bds h.2.1
  obtain ⟨M1, e1, h1, a1, f1⟩ := r_laysToday (d := d) h
  have hr := r_rl_eq h h1 (by decide)
  have hm := (k_pl_some hi).1
  refine ⟨M1, ?_, h1⟩
  rw [E_X12_todayTo]
  simp (disch := omega) only [q_ckt, q_lt, q_cI, q_cJ, q_cV, q_cP, q_xI, q_xV, q_xP, q_xJ, g_gk, g_ga, g_gw, g_gp, g_gq, g_P, g_J, q_I_s, q_I_n, q_I_k, nI_add, pk_sub, pk_mul, nI_clamp, n_lt0, n_0lt, n_eq0, n_lt, n_le, n_eq, n_m1, n_m2, n_m9, n_12, n_19, n_10, n_01, n_1n1, n_0n1, n_1n0, n_0n0, n_dI, n_m1lt, q_inb, n_nar, n_nar0, n_nar1, n_bool, Bool.false_eq_true, Bool.true_eq_false, if_true, if_false, ↓reduceIte, Nat.reduceAdd, Nat.reduceMul, Nat.reduceSub, Nat.reduceLT, Nat.reduceLeDiff, Nat.reduceEqDiff, Nat.reduceMod, Nat.reduceDiv, q_R h.1, e1, q_R hr.1, r_placeOf hr (show p < 2 ^ 31 by omega), hi, k_on, r_fellTo hr hm (f1 i hm) (k_td_gd h.2.1 hm)]
/-- a liking -/
def k_lk (K Fl : Nat → Int32) (i o : Nat) : Int32 := if o = i then k_fw K Fl o else k_fw K Fl o * K (109 + 8 * k_q K i + k_q K o)
def k_li (K Fl : Nat → Int32) (i : Nat) : Int32 := k_sm (k_lk K Fl i) (k_m K)
theorem r_likingOf (h : r_rl M K) {i : Nat} (hi : i < k_m K) : ∃ M', m_X12_likingOf (d + 7) 412 (nI (k_q K i)) M = ir_oI (k_li K (k_td K) i) M' ∧ q_eq [418, 419, 420] M M' := by
  have hb := k_bds h.2.1
  have hqi := k_qn h.2.1 hi
  obtain ⟨M1, e1, h1, a1, f1⟩ := r_laysToday (d := d) h
  have hr := r_rl_eq h h1 (by decide)
  refine ⟨M1, ?_, h1⟩
  rw [E_X12_likingOf]
  simp (disch := omega) only [q_ckt, q_lt, q_cI, q_cJ, q_cV, q_cP, q_xI, q_xV, q_xP, q_xJ, g_gk, g_ga, g_gw, g_gp, g_gq, g_P, g_J, q_I_s, q_I_n, q_I_k, nI_add, pk_sub, pk_mul, nI_clamp, n_lt0, n_0lt, n_eq0, n_lt, n_le, n_eq, n_m1, n_m2, n_m9, n_12, n_19, n_10, n_01, n_1n1, n_0n1, n_1n0, n_0n0, n_dI, n_m1lt, q_inb, n_nar, n_nar0, n_nar1, n_bool, Bool.false_eq_true, Bool.true_eq_false, if_true, if_false, ↓reduceIte, Nat.reduceAdd, Nat.reduceMul, Nat.reduceSub, Nat.reduceLT, Nat.reduceLeDiff, Nat.reduceEqDiff, Nat.reduceMod, Nat.reduceDiv, q_R h.1, e1]
  have L := q_up (σ := Int32) (V := fun k x => v_X12_likingOf_8 (d + 6) 412 (nI (k_q K i)) x (nI k) M1) (N := k_m K) (I := fun k x => x = k_sm (k_lk K (k_td K) i) k) (K := fun x => ir_oI x M1) (by
    rintro k x hk rfl
    have hqk := k_qn h.2.1 hk
    refine ⟨_, rfl, ?_⟩
    rw [L_X12_likingOf_8]
    by_cases q : k = i
    · subst q
      simp (disch := omega) only [q_ckt, q_lt, q_cI, q_cJ, q_cV, q_cP, q_xI, q_xV, q_xP, q_xJ, g_gk, g_ga, g_gw, g_gp, g_gq, g_P, g_J, q_I_s, q_I_n, q_I_k, nI_add, pk_sub, pk_mul, nI_clamp, n_lt0, n_0lt, n_eq0, n_lt, n_le, n_eq, n_m1, n_m2, n_m9, n_12, n_19, n_10, n_01, n_1n1, n_0n1, n_1n0, n_0n0, n_dI, n_m1lt, q_inb, n_nar, n_nar0, n_nar1, n_bool, Bool.false_eq_true, Bool.true_eq_false, if_true, if_false, ↓reduceIte, Nat.reduceAdd, Nat.reduceMul, Nat.reduceSub, Nat.reduceLT, Nat.reduceLeDiff, Nat.reduceEqDiff, Nat.reduceMod, Nat.reduceDiv, q_R hr.1, r_qd hr, hk, r_fellTo hr hk (f1 k hk) (k_td_gd h.2.1 hk), r_wh hr hk, k_sm, k_lk, n_mul1]
    · have q2 : ¬ k_q K k = k_q K i := fun e => q (h.2.1.2.2.2.2.2.1 k i hk hi e)
      simp (disch := omega) only [q_ckt, q_lt, q_cI, q_cJ, q_cV, q_cP, q_xI, q_xV, q_xP, q_xJ, g_gk, g_ga, g_gw, g_gp, g_gq, g_P, g_J, q_I_s, q_I_n, q_I_k, nI_add, pk_sub, pk_mul, nI_clamp, n_lt0, n_0lt, n_eq0, n_lt, n_le, n_eq, n_m1, n_m2, n_m9, n_12, n_19, n_10, n_01, n_1n1, n_0n1, n_1n0, n_0n0, n_dI, n_m1lt, q_inb, n_nar, n_nar0, n_nar1, n_bool, Bool.false_eq_true, Bool.true_eq_false, if_true, if_false, ↓reduceIte, Nat.reduceAdd, Nat.reduceMul, Nat.reduceSub, Nat.reduceLT, Nat.reduceLeDiff, Nat.reduceEqDiff, Nat.reduceMod, Nat.reduceDiv, q_R hr.1, r_qd hr, hk, r_fellTo hr hk (f1 k hk) (k_td_gd h.2.1 hk), r_wh hr hk, q2, hr.2.2, k_sm, k_lk, q]) (by
    rintro x rfl
    rw [L_X12_likingOf_8]
    simp (disch := omega) only [q_ckt, q_lt, q_cI, q_cJ, q_cV, q_cP, q_xI, q_xV, q_xP, q_xJ, g_gk, g_ga, g_gw, g_gp, g_gq, g_P, g_J, q_I_s, q_I_n, q_I_k, nI_add, pk_sub, pk_mul, nI_clamp, n_lt0, n_0lt, n_eq0, n_lt, n_le, n_eq, n_m1, n_m2, n_m9, n_12, n_19, n_10, n_01, n_1n1, n_0n1, n_1n0, n_0n0, n_dI, n_m1lt, q_inb, n_nar, n_nar0, n_nar1, n_bool, Bool.false_eq_true, Bool.true_eq_false, if_true, if_false, ↓reduceIte, Nat.reduceAdd, Nat.reduceMul, Nat.reduceSub, Nat.reduceLT, Nat.reduceLeDiff, Nat.reduceEqDiff, Nat.reduceMod, Nat.reduceDiv, q_R hr.1, r_qd hr, Nat.lt_irrefl]) (i := 0) (t := 0) (by omega) rfl
  obtain ⟨x, rfl, e⟩ := L
  exact e
theorem c_li (h : c_rl M s K) {i : Nat} (hi : i < k_m K) (hF : ∀ i, i < k_m K → ir_I M 118 i = Fl i) (hg : ∀ i, i < k_m K → k_gd K (Fl i)) : m_X0_likingAt (d + 3) 116 4 s (nI i) M = ir_oI (k_li K Fl i) M := by
  have hb := k_bds h.2.2.1
  have hqi := k_qn h.2.2.1 hi
  rw [E_X0_likingAt]
  simp (disch := omega) only [q_ckt, q_lt, q_cI, q_cJ, q_cV, q_cP, q_xI, q_xV, q_xP, q_xJ, g_gk, g_ga, g_gw, g_gp, g_gq, g_P, g_J, q_I_s, q_I_n, q_I_k, nI_add, pk_sub, pk_mul, nI_clamp, n_lt0, n_0lt, n_eq0, n_lt, n_le, n_eq, n_m1, n_m2, n_m9, n_12, n_19, n_10, n_01, n_1n1, n_0n1, n_1n0, n_0n0, n_dI, n_m1lt, q_inb, n_nar, n_nar0, n_nar1, n_bool, Bool.false_eq_true, Bool.true_eq_false, if_true, if_false, ↓reduceIte, Nat.reduceAdd, Nat.reduceMul, Nat.reduceSub, Nat.reduceLT, Nat.reduceLeDiff, Nat.reduceEqDiff, Nat.reduceMod, Nat.reduceDiv, q_F h.1, q_S h.1 h.2.1, c_use h, c_wa h hi (hF i hi) (hg i hi)]
  have L := q_up (σ := Int32) (V := fun k x => v_X0_likingAt_20 (d + 2) 116 4 s (nI i) (nI (k_q K i)) x (nI k) M) (N := k_m K) (I := fun k x => x = if i < k then k_sm (k_lk K Fl i) k else k_fw K Fl i + k_sm (k_lk K Fl i) k) (K := fun x => ir_oI x M) (by
    rintro k x hk rfl
    have hqk := k_qn h.2.2.1 hk
    refine ⟨_, rfl, ?_⟩
    rw [L_X0_likingAt_20]
    by_cases q : k = i
    · subst q
      simp (disch := omega) only [q_ckt, q_lt, q_cI, q_cJ, q_cV, q_cP, q_xI, q_xV, q_xP, q_xJ, g_gk, g_ga, g_gw, g_gp, g_gq, g_P, g_J, q_I_s, q_I_n, q_I_k, nI_add, pk_sub, pk_mul, nI_clamp, n_lt0, n_0lt, n_eq0, n_lt, n_le, n_eq, n_m1, n_m2, n_m9, n_12, n_19, n_10, n_01, n_1n1, n_0n1, n_1n0, n_0n0, n_dI, n_m1lt, q_inb, n_nar, n_nar0, n_nar1, n_bool, Bool.false_eq_true, Bool.true_eq_false, if_true, if_false, ↓reduceIte, Nat.reduceAdd, Nat.reduceMul, Nat.reduceSub, Nat.reduceLT, Nat.reduceLeDiff, Nat.reduceEqDiff, Nat.reduceMod, Nat.reduceDiv, q_S h.1 h.2.1, c_use h, hk, Nat.lt_irrefl, Nat.lt_succ_self, k_sm, k_lk]
      rw [Int32.add_comm]
    · have q2 : (i < k + 1) = (i < k) := propext ⟨fun _ => by omega, fun _ => by omega⟩
      simp (disch := omega) only [q_ckt, q_lt, q_cI, q_cJ, q_cV, q_cP, q_xI, q_xV, q_xP, q_xJ, g_gk, g_ga, g_gw, g_gp, g_gq, g_P, g_J, q_I_s, q_I_n, q_I_k, nI_add, pk_sub, pk_mul, nI_clamp, n_lt0, n_0lt, n_eq0, n_lt, n_le, n_eq, n_m1, n_m2, n_m9, n_12, n_19, n_10, n_01, n_1n1, n_0n1, n_1n0, n_0n0, n_dI, n_m1lt, q_inb, n_nar, n_nar0, n_nar1, n_bool, Bool.false_eq_true, Bool.true_eq_false, if_true, if_false, ↓reduceIte, Nat.reduceAdd, Nat.reduceMul, Nat.reduceSub, Nat.reduceLT, Nat.reduceLeDiff, Nat.reduceEqDiff, Nat.reduceMod, Nat.reduceDiv, q_F h.1, q_T h.1, q_S h.1 h.2.1, c_use h, hk, q, c_wa h hk (hF k hk) (hg k hk), c_lk h hqi hqk, k_sm, q2, k_lk]
      by_cases q3 : i < k
      · simp (disch := omega) only [q_ckt, q_lt, q_cI, q_cJ, q_cV, q_cP, q_xI, q_xV, q_xP, q_xJ, g_gk, g_ga, g_gw, g_gp, g_gq, g_P, g_J, q_I_s, q_I_n, q_I_k, nI_add, pk_sub, pk_mul, nI_clamp, n_lt0, n_0lt, n_eq0, n_lt, n_le, n_eq, n_m1, n_m2, n_m9, n_12, n_19, n_10, n_01, n_1n1, n_0n1, n_1n0, n_0n0, n_dI, n_m1lt, q_inb, n_nar, n_nar0, n_nar1, n_bool, Bool.false_eq_true, Bool.true_eq_false, if_true, if_false, ↓reduceIte, Nat.reduceAdd, Nat.reduceMul, Nat.reduceSub, Nat.reduceLT, Nat.reduceLeDiff, Nat.reduceEqDiff, Nat.reduceMod, Nat.reduceDiv, q3]
      · simp (disch := omega) only [q_ckt, q_lt, q_cI, q_cJ, q_cV, q_cP, q_xI, q_xV, q_xP, q_xJ, g_gk, g_ga, g_gw, g_gp, g_gq, g_P, g_J, q_I_s, q_I_n, q_I_k, nI_add, pk_sub, pk_mul, nI_clamp, n_lt0, n_0lt, n_eq0, n_lt, n_le, n_eq, n_m1, n_m2, n_m9, n_12, n_19, n_10, n_01, n_1n1, n_0n1, n_1n0, n_0n0, n_dI, n_m1lt, q_inb, n_nar, n_nar0, n_nar1, n_bool, Bool.false_eq_true, Bool.true_eq_false, if_true, if_false, ↓reduceIte, Nat.reduceAdd, Nat.reduceMul, Nat.reduceSub, Nat.reduceLT, Nat.reduceLeDiff, Nat.reduceEqDiff, Nat.reduceMod, Nat.reduceDiv, q3]
        rw [Int32.add_assoc]) (by
    rintro x rfl
    rw [L_X0_likingAt_20]
    simp (disch := omega) only [q_ckt, q_lt, q_cI, q_cJ, q_cV, q_cP, q_xI, q_xV, q_xP, q_xJ, g_gk, g_ga, g_gw, g_gp, g_gq, g_P, g_J, q_I_s, q_I_n, q_I_k, nI_add, pk_sub, pk_mul, nI_clamp, n_lt0, n_0lt, n_eq0, n_lt, n_le, n_eq, n_m1, n_m2, n_m9, n_12, n_19, n_10, n_01, n_1n1, n_0n1, n_1n0, n_0n0, n_dI, n_m1lt, q_inb, n_nar, n_nar0, n_nar1, n_bool, Bool.false_eq_true, Bool.true_eq_false, if_true, if_false, ↓reduceIte, Nat.reduceAdd, Nat.reduceMul, Nat.reduceSub, Nat.reduceLT, Nat.reduceLeDiff, Nat.reduceEqDiff, Nat.reduceMod, Nat.reduceDiv, q_S h.1 h.2.1, c_use h, Nat.lt_irrefl, hi]) (i := 0) (t := k_fw K Fl i) (by omega) (by
      rw [if_neg (by omega)]
      exact (Int32.add_zero _).symm)
  obtain ⟨x, rfl, e⟩ := L
  rw [if_pos hi] at e
  exact e
theorem c_lw (h : c_rl M s K) {i : Nat} {g : Int32} (hi : i < k_m K) (hg : k_gd K g) : ∃ M', m_X0_lawful (d + 4) 116 4 s (nI i) g M = ir_oI (if k_al K (k_q K i) g (nI i) = true then 1 else 0) M' ∧ q_eq [9, 120] M M' := by
  have hb := k_bds h.2.2.1
  obtain ⟨M1, e1, h1⟩ := c_lf (d := d) (pl := nI i) h (k_qn h.2.2.1 hi) hg
  refine ⟨M1, ?_, h1⟩
  rw [E_X0_lawful]
  simp (disch := omega) only [q_ckt, q_lt, q_cI, q_cJ, q_cV, q_cP, q_xI, q_xV, q_xP, q_xJ, g_gk, g_ga, g_gw, g_gp, g_gq, g_P, g_J, q_I_s, q_I_n, q_I_k, nI_add, pk_sub, pk_mul, nI_clamp, n_lt0, n_0lt, n_eq0, n_lt, n_le, n_eq, n_m1, n_m2, n_m9, n_12, n_19, n_10, n_01, n_1n1, n_0n1, n_1n0, n_0n0, n_dI, n_m1lt, q_inb, n_nar, n_nar0, n_nar1, n_bool, Bool.false_eq_true, Bool.true_eq_false, if_true, if_false, ↓reduceIte, Nat.reduceAdd, Nat.reduceMul, Nat.reduceSub, Nat.reduceLT, Nat.reduceLeDiff, Nat.reduceEqDiff, Nat.reduceMod, Nat.reduceDiv, q_F h.1, q_S h.1 h.2.1, c_use h, e1]
end S1
section S2
variable {L : Nat} {xs : Nat → Int32}
theorem k_rng_6 {x : Int32} : (((0 : Int64).toInt ≤ x.toInt64.toInt ∧ x.toInt64.toInt ≤ (6 : Int64).toInt)) = (k_rng x 7 = true) := by
  rw [k_rng_i, Int32.toInt_toInt64, k_lim0, show (6 : Int64).toInt = 6 by decide +kernel]
  exact propext ⟨fun h => ⟨h.1, by omega⟩, fun h => ⟨h.1, by omega⟩⟩
theorem S_fault (a : Int32) : q_Sp L xs (q_Iv L xs) (m_X11_fault 200 1 a) (m_X12_fault 200 412 a) := by
  refine q_Sp_mk fun M hp hI => ?_
  obtain ⟨-, -, -, hf1, hf2, -⟩ := hI.2.1
  have e1 := E_X11_fault 199 1 a M
  have e2 := E_X12_fault 199 412 a M
  have s := q_st_4 hp (k := 4) (v := nI 0) rfl
  simp only [n_00] at e1 e2
  simp (disch := omega) only [q_ckt, q_lt, q_cI, q_cJ, q_cV, q_cP, q_xI, q_xV, q_xP, q_xJ, g_gk, g_ga, g_gw, g_gp, g_gq, g_P, g_J, q_I_s, q_I_n, q_I_k, nI_add, pk_sub, pk_mul, nI_clamp, n_lt0, n_0lt, n_eq0, n_lt, n_le, n_eq, n_m1, n_m2, n_m9, n_12, n_19, n_10, n_01, n_1n1, n_0n1, n_1n0, n_0n0, n_dI, n_m1lt, q_inb, n_nar, n_nar0, n_nar1, n_bool, Bool.false_eq_true, Bool.true_eq_false, if_true, if_false, ↓reduceIte, Nat.reduceAdd, Nat.reduceMul, Nat.reduceSub, Nat.reduceLT, Nat.reduceLeDiff, Nat.reduceEqDiff, Nat.reduceMod, Nat.reduceDiv, q_W hp, hf1, hf2] at e1
  simp (disch := omega) only [q_ckt, q_lt, q_cI, q_cJ, q_cV, q_cP, q_xI, q_xV, q_xP, q_xJ, g_gk, g_ga, g_gw, g_gp, g_gq, g_P, g_J, q_I_s, q_I_n, q_I_k, nI_add, pk_sub, pk_mul, nI_clamp, n_lt0, n_0lt, n_eq0, n_lt, n_le, n_eq, n_m1, n_m2, n_m9, n_12, n_19, n_10, n_01, n_1n1, n_0n1, n_1n0, n_0n0, n_dI, n_m1lt, q_inb, n_nar, n_nar0, n_nar1, n_bool, Bool.false_eq_true, Bool.true_eq_false, if_true, if_false, ↓reduceIte, Nat.reduceAdd, Nat.reduceMul, Nat.reduceSub, Nat.reduceLT, Nat.reduceLeDiff, Nat.reduceEqDiff, Nat.reduceMod, Nat.reduceDiv, q_R hp] at e2
  by_cases h0 : a = 0
  · exact ⟨_, M, e1.trans (if_pos h0), q_st.rf hp, _, e2.trans (if_pos h0), s⟩
  · by_cases h1 : a = nI 1
    · exact ⟨_, M, e1.trans ((if_neg h0).trans (if_pos h1)), q_st.rf hp, _, e2.trans ((if_neg h0).trans (if_pos h1)), s⟩
    · exact ⟨_, M, e1.trans ((if_neg h0).trans (if_neg h1)), q_st.rf hp, _, e2.trans ((if_neg h0).trans (if_neg h1)), s⟩
theorem S_at (a : Int32) : q_St L xs (q_Iv L xs) (m_L_at 200 1 a 436) (m_X12_at 200 412 a) := by
  refine q_St_mk (x := m_X11_at 199 1 a) (fun M => E_L_at 199 1 a 436 M) fun M hp hI => ?_
  have hc := c_I_c hp hI.1
  have hr := c_I_r hp hI.1
  generalize M.1 413 = K at hc hr
  have hb := k_bds hc.2.2.1
  by_cases ha : k_rng a (k_m K)
  · obtain ⟨i, hi, rfl⟩ := k_rng_of ha (by omega)
    refine Or.inl ⟨nI (k_q K i), ⟨M, ?_, q_st.rf hp⟩, fun M' s => ?_⟩
    · rw [E_X11_at 198]
      simp (disch := omega) only [q_ckt, q_lt, q_cI, q_cJ, q_cV, q_cP, q_xI, q_xV, q_xP, q_xJ, g_gk, g_ga, g_gw, g_gp, g_gq, g_P, g_J, q_I_s, q_I_n, q_I_k, nI_add, pk_sub, pk_mul, nI_clamp, n_lt0, n_0lt, n_eq0, n_lt, n_le, n_eq, n_m1, n_m2, n_m9, n_12, n_19, n_10, n_01, n_1n1, n_0n1, n_1n0, n_0n0, n_dI, n_m1lt, q_inb, n_nar, n_nar0, n_nar1, n_bool, Bool.false_eq_true, Bool.true_eq_false, if_true, if_false, ↓reduceIte, Nat.reduceAdd, Nat.reduceMul, Nat.reduceSub, Nat.reduceLT, Nat.reduceLeDiff, Nat.reduceEqDiff, Nat.reduceMod, Nat.reduceDiv, q_W hp, c_ip hc, k_rng_nI hi, q_S hp (a := 12) (by decide), c_use hc, hi]
    · have hr' := r_4 (v := nI 0) (q_st_r s hr)
      refine ⟨_, ?_, q_st_4 s.1.1 rfl, rfl, q_I_s⟩
      rw [E_X12_at 199]
      simp (disch := omega) only [q_ckt, q_lt, q_cI, q_cJ, q_cV, q_cP, q_xI, q_xV, q_xP, q_xJ, g_gk, g_ga, g_gw, g_gp, g_gq, g_P, g_J, q_I_s, q_I_n, q_I_k, nI_add, pk_sub, pk_mul, nI_clamp, n_lt0, n_0lt, n_eq0, n_lt, n_le, n_eq, n_m1, n_m2, n_m9, n_12, n_19, n_10, n_01, n_1n1, n_0n1, n_1n0, n_0n0, n_dI, n_m1lt, q_inb, n_nar, n_nar0, n_nar1, n_bool, Bool.false_eq_true, Bool.true_eq_false, if_true, if_false, ↓reduceIte, Nat.reduceAdd, Nat.reduceMul, Nat.reduceSub, Nat.reduceLT, Nat.reduceLeDiff, Nat.reduceEqDiff, Nat.reduceMod, Nat.reduceDiv, q_R s.1.1, r_is hr', k_rng_nI hi, r_wh hr' hi]
  · refine Or.inr ⟨1, 1, by omega, by omega, ?_, fun _ => rfl, fun M' s => ⟨nI 0, ?_⟩⟩
    · rw [E_X11_at 198]
      simp (disch := omega) only [q_ckt, q_lt, q_cI, q_cJ, q_cV, q_cP, q_xI, q_xV, q_xP, q_xJ, g_gk, g_ga, g_gw, g_gp, g_gq, g_P, g_J, q_I_s, q_I_n, q_I_k, nI_add, pk_sub, pk_mul, nI_clamp, n_lt0, n_0lt, n_eq0, n_lt, n_le, n_eq, n_m1, n_m2, n_m9, n_12, n_19, n_10, n_01, n_1n1, n_0n1, n_1n0, n_0n0, n_dI, n_m1lt, q_inb, n_nar, n_nar0, n_nar1, n_bool, Bool.false_eq_true, Bool.true_eq_false, if_true, if_false, ↓reduceIte, Nat.reduceAdd, Nat.reduceMul, Nat.reduceSub, Nat.reduceLT, Nat.reduceLeDiff, Nat.reduceEqDiff, Nat.reduceMod, Nat.reduceDiv, q_W hp, c_ip hc, ha]
    · have hr' := r_4 (v := nI 0) (q_st_r s hr)
      refine ⟨_, ?_, (q_st_4 s.1.1 (k := 4) (v := nI 0) rfl).tr (q_st_4 hr'.1 (v := nI 1) rfl), rfl, q_I_s⟩
      rw [E_X12_at 199]
      simp (disch := omega) only [q_ckt, q_lt, q_cI, q_cJ, q_cV, q_cP, q_xI, q_xV, q_xP, q_xJ, g_gk, g_ga, g_gw, g_gp, g_gq, g_P, g_J, q_I_s, q_I_n, q_I_k, nI_add, pk_sub, pk_mul, nI_clamp, n_lt0, n_0lt, n_eq0, n_lt, n_le, n_eq, n_m1, n_m2, n_m9, n_12, n_19, n_10, n_01, n_1n1, n_0n1, n_1n0, n_0n0, n_dI, n_m1lt, q_inb, n_nar, n_nar0, n_nar1, n_bool, Bool.false_eq_true, Bool.true_eq_false, if_true, if_false, ↓reduceIte, Nat.reduceAdd, Nat.reduceMul, Nat.reduceSub, Nat.reduceLT, Nat.reduceLeDiff, Nat.reduceEqDiff, Nat.reduceMod, Nat.reduceDiv, q_R s.1.1, r_is hr', ha, r_fails hr'.1]
theorem S_worth (a b : Int32) : q_St L xs (q_Iv L xs) (m_L_worth 200 1 a b 436) (m_X12_worth 200 412 a b) := by
  refine q_St_mk (x := m_X11_worth 199 1 a b) (fun M => E_L_worth 199 1 a b 436 M) fun M hp hI => ?_
  have hc := c_I_c hp hI.1
  have hr := c_I_r hp hI.1
  generalize M.1 413 = K at hc hr
  have hb := k_bds hc.2.2.1
  have fail : ∀ M', q_st 1 M M' → ¬ (k_rng a (k_n K) ∧ k_rng b (k_g K)) → ∃ v, r_ans (m_X12_worth 200 412 a b) M' v 1 := fun M' s hn => by
    have hr' := r_4 (v := nI 0) (q_st_r s hr)
    refine ⟨nI 0, _, ?_, (q_st_4 s.1.1 (k := 4) (v := nI 0) rfl).tr (q_st_4 hr'.1 (v := nI 1) rfl), rfl, q_I_s⟩
    rw [E_X12_worth 199]
    by_cases ha : k_rng a (k_n K)
    · have hb' : ¬ k_rng b (k_g K) := fun q => hn ⟨ha, q⟩
      simp (disch := omega) only [q_ckt, q_lt, q_cI, q_cJ, q_cV, q_cP, q_xI, q_xV, q_xP, q_xJ, g_gk, g_ga, g_gw, g_gp, g_gq, g_P, g_J, q_I_s, q_I_n, q_I_k, nI_add, pk_sub, pk_mul, nI_clamp, n_lt0, n_0lt, n_eq0, n_lt, n_le, n_eq, n_m1, n_m2, n_m9, n_12, n_19, n_10, n_01, n_1n1, n_0n1, n_1n0, n_0n0, n_dI, n_m1lt, q_inb, n_nar, n_nar0, n_nar1, n_bool, Bool.false_eq_true, Bool.true_eq_false, if_true, if_false, ↓reduceIte, Nat.reduceAdd, Nat.reduceMul, Nat.reduceSub, Nat.reduceLT, Nat.reduceLeDiff, Nat.reduceEqDiff, Nat.reduceMod, Nat.reduceDiv, q_R s.1.1, r_ib hr', r_ig hr', ha, hb', r_fails hr'.1]
    · simp (disch := omega) only [q_ckt, q_lt, q_cI, q_cJ, q_cV, q_cP, q_xI, q_xV, q_xP, q_xJ, g_gk, g_ga, g_gw, g_gp, g_gq, g_P, g_J, q_I_s, q_I_n, q_I_k, nI_add, pk_sub, pk_mul, nI_clamp, n_lt0, n_0lt, n_eq0, n_lt, n_le, n_eq, n_m1, n_m2, n_m9, n_12, n_19, n_10, n_01, n_1n1, n_0n1, n_1n0, n_0n0, n_dI, n_m1lt, q_inb, n_nar, n_nar0, n_nar1, n_bool, Bool.false_eq_true, Bool.true_eq_false, if_true, if_false, ↓reduceIte, Nat.reduceAdd, Nat.reduceMul, Nat.reduceSub, Nat.reduceLT, Nat.reduceLeDiff, Nat.reduceEqDiff, Nat.reduceMod, Nat.reduceDiv, q_R s.1.1, r_ib hr', ha, r_fails hr'.1]
  by_cases ha : k_rng a (k_n K)
  · by_cases hg : k_rng b (k_g K)
    · obtain ⟨p, hpn, rfl⟩ := k_rng_of ha (by omega)
      obtain ⟨g, hgn, rfl⟩ := k_rng_of hg (by omega)
      refine Or.inl ⟨k_wt K p (nI g), ⟨M, ?_, q_st.rf hp⟩, fun M' s => ?_⟩
      · rw [E_X11_worth 198]
        simp (disch := omega) only [q_ckt, q_lt, q_cI, q_cJ, q_cV, q_cP, q_xI, q_xV, q_xP, q_xJ, g_gk, g_ga, g_gw, g_gp, g_gq, g_P, g_J, q_I_s, q_I_n, q_I_k, nI_add, pk_sub, pk_mul, nI_clamp, n_lt0, n_0lt, n_eq0, n_lt, n_le, n_eq, n_m1, n_m2, n_m9, n_12, n_19, n_10, n_01, n_1n1, n_0n1, n_1n0, n_0n0, n_dI, n_m1lt, q_inb, n_nar, n_nar0, n_nar1, n_bool, Bool.false_eq_true, Bool.true_eq_false, if_true, if_false, ↓reduceIte, Nat.reduceAdd, Nat.reduceMul, Nat.reduceSub, Nat.reduceLT, Nat.reduceLeDiff, Nat.reduceEqDiff, Nat.reduceMod, Nat.reduceDiv, q_W hp, c_np hc, c_ng hc, k_rng_nI hpn, k_rng_nI hgn, q_T hp, c_wt hc hpn (k_gd_na hgn)]
      · have hr' := r_4 (v := nI 0) (q_st_r s hr)
        refine ⟨_, ?_, q_st_4 s.1.1 rfl, rfl, q_I_s⟩
        rw [E_X12_worth 199]
        simp (disch := omega) only [q_ckt, q_lt, q_cI, q_cJ, q_cV, q_cP, q_xI, q_xV, q_xP, q_xJ, g_gk, g_ga, g_gw, g_gp, g_gq, g_P, g_J, q_I_s, q_I_n, q_I_k, nI_add, pk_sub, pk_mul, nI_clamp, n_lt0, n_0lt, n_eq0, n_lt, n_le, n_eq, n_m1, n_m2, n_m9, n_12, n_19, n_10, n_01, n_1n1, n_0n1, n_1n0, n_0n0, n_dI, n_m1lt, q_inb, n_nar, n_nar0, n_nar1, n_bool, Bool.false_eq_true, Bool.true_eq_false, if_true, if_false, ↓reduceIte, Nat.reduceAdd, Nat.reduceMul, Nat.reduceSub, Nat.reduceLT, Nat.reduceLeDiff, Nat.reduceEqDiff, Nat.reduceMod, Nat.reduceDiv, q_R s.1.1, r_ib hr', r_ig hr', k_rng_nI hpn, k_rng_nI hgn, r_wt hr' hpn (k_gd_na hgn)]
    · refine Or.inr ⟨1, 1, by omega, by omega, ?_, fun _ => rfl, fun M' s => fail M' s (fun q => hg q.2)⟩
      rw [E_X11_worth 198]
      simp (disch := omega) only [q_ckt, q_lt, q_cI, q_cJ, q_cV, q_cP, q_xI, q_xV, q_xP, q_xJ, g_gk, g_ga, g_gw, g_gp, g_gq, g_P, g_J, q_I_s, q_I_n, q_I_k, nI_add, pk_sub, pk_mul, nI_clamp, n_lt0, n_0lt, n_eq0, n_lt, n_le, n_eq, n_m1, n_m2, n_m9, n_12, n_19, n_10, n_01, n_1n1, n_0n1, n_1n0, n_0n0, n_dI, n_m1lt, q_inb, n_nar, n_nar0, n_nar1, n_bool, Bool.false_eq_true, Bool.true_eq_false, if_true, if_false, ↓reduceIte, Nat.reduceAdd, Nat.reduceMul, Nat.reduceSub, Nat.reduceLT, Nat.reduceLeDiff, Nat.reduceEqDiff, Nat.reduceMod, Nat.reduceDiv, q_W hp, c_np hc, c_ng hc, ha, hg]
  · refine Or.inr ⟨1, 1, by omega, by omega, ?_, fun _ => rfl, fun M' s => fail M' s (fun q => ha q.1)⟩
    rw [E_X11_worth 198]
    simp (disch := omega) only [q_ckt, q_lt, q_cI, q_cJ, q_cV, q_cP, q_xI, q_xV, q_xP, q_xJ, g_gk, g_ga, g_gw, g_gp, g_gq, g_P, g_J, q_I_s, q_I_n, q_I_k, nI_add, pk_sub, pk_mul, nI_clamp, n_lt0, n_0lt, n_eq0, n_lt, n_le, n_eq, n_m1, n_m2, n_m9, n_12, n_19, n_10, n_01, n_1n1, n_0n1, n_1n0, n_0n0, n_dI, n_m1lt, q_inb, n_nar, n_nar0, n_nar1, n_bool, Bool.false_eq_true, Bool.true_eq_false, if_true, if_false, ↓reduceIte, Nat.reduceAdd, Nat.reduceMul, Nat.reduceSub, Nat.reduceLT, Nat.reduceLeDiff, Nat.reduceEqDiff, Nat.reduceMod, Nat.reduceDiv, q_W hp, c_np hc, ha]
theorem S_likes (a b : Int32) : q_St L xs (q_Iv L xs) (m_L_likes 200 1 a b 436) (m_X12_likes 200 412 a b) := by
  refine q_St_mk (x := m_X11_likes 199 1 a b) (fun M => E_L_likes 199 1 a b 436 M) fun M hp hI => ?_
  have hc := c_I_c hp hI.1
  have hr := c_I_r hp hI.1
  generalize M.1 413 = K at hc hr
  have hb := k_bds hc.2.2.1
  have fail : ∀ M' (v : Nat), r_rl M' K → 0 < v → v < 9 → m_X12_likes 200 412 a b M' = v_X12_likes_33 199 412 a b 412 (nI v) M' → ∃ w, r_ans (m_X12_likes 200 412 a b) M' w v := fun M' v h' v0 v9 e => by
    refine ⟨nI 0, _, ?_, q_st_4 h'.1 (k := 4) (v := nI v) rfl, rfl, q_I_s⟩
    rw [e, L_X12_likes_33]
    simp (disch := omega) only [q_ckt, q_lt, q_cI, q_cJ, q_cV, q_cP, q_xI, q_xV, q_xP, q_xJ, g_gk, g_ga, g_gw, g_gp, g_gq, g_P, g_J, q_I_s, q_I_n, q_I_k, nI_add, pk_sub, pk_mul, nI_clamp, n_lt0, n_0lt, n_eq0, n_lt, n_le, n_eq, n_m1, n_m2, n_m9, n_12, n_19, n_10, n_01, n_1n1, n_0n1, n_1n0, n_0n0, n_dI, n_m1lt, q_inb, n_nar, n_nar0, n_nar1, n_bool, Bool.false_eq_true, Bool.true_eq_false, if_true, if_false, ↓reduceIte, Nat.reduceAdd, Nat.reduceMul, Nat.reduceSub, Nat.reduceLT, Nat.reduceLeDiff, Nat.reduceEqDiff, Nat.reduceMod, Nat.reduceDiv, q_R h'.1, v0]
  by_cases ha : k_rng a (k_n K)
  · by_cases hg : k_rng b (k_n K)
    · by_cases hab : a = b
      · refine Or.inr ⟨3, 2, by omega, by omega, ?_, fun _ => rfl, fun M' s => fail M' 2 (q_st_r s hr) (by omega) (by omega) ?_⟩
        · rw [E_X11_likes 198]
          simp (disch := omega) only [q_ckt, q_lt, q_cI, q_cJ, q_cV, q_cP, q_xI, q_xV, q_xP, q_xJ, g_gk, g_ga, g_gw, g_gp, g_gq, g_P, g_J, q_I_s, q_I_n, q_I_k, nI_add, pk_sub, pk_mul, nI_clamp, n_lt0, n_0lt, n_eq0, n_lt, n_le, n_eq, n_m1, n_m2, n_m9, n_12, n_19, n_10, n_01, n_1n1, n_0n1, n_1n0, n_0n0, n_dI, n_m1lt, q_inb, n_nar, n_nar0, n_nar1, n_bool, Bool.false_eq_true, Bool.true_eq_false, if_true, if_false, ↓reduceIte, Nat.reduceAdd, Nat.reduceMul, Nat.reduceSub, Nat.reduceLT, Nat.reduceLeDiff, Nat.reduceEqDiff, Nat.reduceMod, Nat.reduceDiv, q_W hp, c_np hc, ha, hg, hab]
        · have hr' := q_st_r s hr
          rw [E_X12_likes 199]
          simp (disch := omega) only [q_ckt, q_lt, q_cI, q_cJ, q_cV, q_cP, q_xI, q_xV, q_xP, q_xJ, g_gk, g_ga, g_gw, g_gp, g_gq, g_P, g_J, q_I_s, q_I_n, q_I_k, nI_add, pk_sub, pk_mul, nI_clamp, n_lt0, n_0lt, n_eq0, n_lt, n_le, n_eq, n_m1, n_m2, n_m9, n_12, n_19, n_10, n_01, n_1n1, n_0n1, n_1n0, n_0n0, n_dI, n_m1lt, q_inb, n_nar, n_nar0, n_nar1, n_bool, Bool.false_eq_true, Bool.true_eq_false, if_true, if_false, ↓reduceIte, Nat.reduceAdd, Nat.reduceMul, Nat.reduceSub, Nat.reduceLT, Nat.reduceLeDiff, Nat.reduceEqDiff, Nat.reduceMod, Nat.reduceDiv, q_R hr'.1, r_ib hr', ha, hg, hab]
      · obtain ⟨p, hpn, rfl⟩ := k_rng_of ha (by omega)
        obtain ⟨q, hqn, rfl⟩ := k_rng_of hg (by omega)
        refine Or.inl ⟨K (109 + 8 * p + q), ⟨M, ?_, q_st.rf hp⟩, fun M' s => ?_⟩
        · rw [E_X11_likes 198]
          simp (disch := omega) only [q_ckt, q_lt, q_cI, q_cJ, q_cV, q_cP, q_xI, q_xV, q_xP, q_xJ, g_gk, g_ga, g_gw, g_gp, g_gq, g_P, g_J, q_I_s, q_I_n, q_I_k, nI_add, pk_sub, pk_mul, nI_clamp, n_lt0, n_0lt, n_eq0, n_lt, n_le, n_eq, n_m1, n_m2, n_m9, n_12, n_19, n_10, n_01, n_1n1, n_0n1, n_1n0, n_0n0, n_dI, n_m1lt, q_inb, n_nar, n_nar0, n_nar1, n_bool, Bool.false_eq_true, Bool.true_eq_false, if_true, if_false, ↓reduceIte, Nat.reduceAdd, Nat.reduceMul, Nat.reduceSub, Nat.reduceLT, Nat.reduceLeDiff, Nat.reduceEqDiff, Nat.reduceMod, Nat.reduceDiv, q_W hp, c_np hc, ha, hg, hab, q_T hp, c_lk hc hpn hqn]
        · have hr' := q_st_r s hr
          have h4 := r_4 (v := nI 0) hr'
          refine ⟨_, ?_, q_st_4 s.1.1 rfl, rfl, q_I_s⟩
          rw [E_X12_likes 199]
          simp (disch := omega) only [q_ckt, q_lt, q_cI, q_cJ, q_cV, q_cP, q_xI, q_xV, q_xP, q_xJ, g_gk, g_ga, g_gw, g_gp, g_gq, g_P, g_J, q_I_s, q_I_n, q_I_k, nI_add, pk_sub, pk_mul, nI_clamp, n_lt0, n_0lt, n_eq0, n_lt, n_le, n_eq, n_m1, n_m2, n_m9, n_12, n_19, n_10, n_01, n_1n1, n_0n1, n_1n0, n_0n0, n_dI, n_m1lt, q_inb, n_nar, n_nar0, n_nar1, n_bool, Bool.false_eq_true, Bool.true_eq_false, if_true, if_false, ↓reduceIte, Nat.reduceAdd, Nat.reduceMul, Nat.reduceSub, Nat.reduceLT, Nat.reduceLeDiff, Nat.reduceEqDiff, Nat.reduceMod, Nat.reduceDiv, q_R hr'.1, r_ib hr', ha, hg, hab]
          rw [L_X12_likes_33]
          simp (disch := omega) only [q_ckt, q_lt, q_cI, q_cJ, q_cV, q_cP, q_xI, q_xV, q_xP, q_xJ, g_gk, g_ga, g_gw, g_gp, g_gq, g_P, g_J, q_I_s, q_I_n, q_I_k, nI_add, pk_sub, pk_mul, nI_clamp, n_lt0, n_0lt, n_eq0, n_lt, n_le, n_eq, n_m1, n_m2, n_m9, n_12, n_19, n_10, n_01, n_1n1, n_0n1, n_1n0, n_0n0, n_dI, n_m1lt, q_inb, n_nar, n_nar0, n_nar1, n_bool, Bool.false_eq_true, Bool.true_eq_false, if_true, if_false, ↓reduceIte, Nat.reduceAdd, Nat.reduceMul, Nat.reduceSub, Nat.reduceLT, Nat.reduceLeDiff, Nat.reduceEqDiff, Nat.reduceMod, Nat.reduceDiv, q_R hr'.1, hr'.2.2]
    · refine Or.inr ⟨1, 1, by omega, by omega, ?_, fun _ => rfl, fun M' s => fail M' 1 (q_st_r s hr) (by omega) (by omega) ?_⟩
      · rw [E_X11_likes 198]
        simp (disch := omega) only [q_ckt, q_lt, q_cI, q_cJ, q_cV, q_cP, q_xI, q_xV, q_xP, q_xJ, g_gk, g_ga, g_gw, g_gp, g_gq, g_P, g_J, q_I_s, q_I_n, q_I_k, nI_add, pk_sub, pk_mul, nI_clamp, n_lt0, n_0lt, n_eq0, n_lt, n_le, n_eq, n_m1, n_m2, n_m9, n_12, n_19, n_10, n_01, n_1n1, n_0n1, n_1n0, n_0n0, n_dI, n_m1lt, q_inb, n_nar, n_nar0, n_nar1, n_bool, Bool.false_eq_true, Bool.true_eq_false, if_true, if_false, ↓reduceIte, Nat.reduceAdd, Nat.reduceMul, Nat.reduceSub, Nat.reduceLT, Nat.reduceLeDiff, Nat.reduceEqDiff, Nat.reduceMod, Nat.reduceDiv, q_W hp, c_np hc, ha, hg]
      · have hr' := q_st_r s hr
        rw [E_X12_likes 199]
        simp (disch := omega) only [q_ckt, q_lt, q_cI, q_cJ, q_cV, q_cP, q_xI, q_xV, q_xP, q_xJ, g_gk, g_ga, g_gw, g_gp, g_gq, g_P, g_J, q_I_s, q_I_n, q_I_k, nI_add, pk_sub, pk_mul, nI_clamp, n_lt0, n_0lt, n_eq0, n_lt, n_le, n_eq, n_m1, n_m2, n_m9, n_12, n_19, n_10, n_01, n_1n1, n_0n1, n_1n0, n_0n0, n_dI, n_m1lt, q_inb, n_nar, n_nar0, n_nar1, n_bool, Bool.false_eq_true, Bool.true_eq_false, if_true, if_false, ↓reduceIte, Nat.reduceAdd, Nat.reduceMul, Nat.reduceSub, Nat.reduceLT, Nat.reduceLeDiff, Nat.reduceEqDiff, Nat.reduceMod, Nat.reduceDiv, q_R hr'.1, r_ib hr', ha, hg]
  · refine Or.inr ⟨1, 1, by omega, by omega, ?_, fun _ => rfl, fun M' s => fail M' 1 (q_st_r s hr) (by omega) (by omega) ?_⟩
    · rw [E_X11_likes 198]
      simp (disch := omega) only [q_ckt, q_lt, q_cI, q_cJ, q_cV, q_cP, q_xI, q_xV, q_xP, q_xJ, g_gk, g_ga, g_gw, g_gp, g_gq, g_P, g_J, q_I_s, q_I_n, q_I_k, nI_add, pk_sub, pk_mul, nI_clamp, n_lt0, n_0lt, n_eq0, n_lt, n_le, n_eq, n_m1, n_m2, n_m9, n_12, n_19, n_10, n_01, n_1n1, n_0n1, n_1n0, n_0n0, n_dI, n_m1lt, q_inb, n_nar, n_nar0, n_nar1, n_bool, Bool.false_eq_true, Bool.true_eq_false, if_true, if_false, ↓reduceIte, Nat.reduceAdd, Nat.reduceMul, Nat.reduceSub, Nat.reduceLT, Nat.reduceLeDiff, Nat.reduceEqDiff, Nat.reduceMod, Nat.reduceDiv, q_W hp, c_np hc, ha]
    · have hr' := q_st_r s hr
      rw [E_X12_likes 199]
      simp (disch := omega) only [q_ckt, q_lt, q_cI, q_cJ, q_cV, q_cP, q_xI, q_xV, q_xP, q_xJ, g_gk, g_ga, g_gw, g_gp, g_gq, g_P, g_J, q_I_s, q_I_n, q_I_k, nI_add, pk_sub, pk_mul, nI_clamp, n_lt0, n_0lt, n_eq0, n_lt, n_le, n_eq, n_m1, n_m2, n_m9, n_12, n_19, n_10, n_01, n_1n1, n_0n1, n_1n0, n_0n0, n_dI, n_m1lt, q_inb, n_nar, n_nar0, n_nar1, n_bool, Bool.false_eq_true, Bool.true_eq_false, if_true, if_false, ↓reduceIte, Nat.reduceAdd, Nat.reduceMul, Nat.reduceSub, Nat.reduceLT, Nat.reduceLeDiff, Nat.reduceEqDiff, Nat.reduceMod, Nat.reduceDiv, q_R hr'.1, r_ib hr', ha]
theorem S_today : q_Sp L xs (q_Iv L xs) (m_X11_today 200 1) (m_X12_today 200 412) := by
  refine q_Sp_mk fun M hp hI => ?_
  have hc := c_I_c hp hI.1
  have hr := c_I_r hp hI.1
  generalize M.1 413 = K at hc hr
  obtain ⟨M1, e1, h1, a1, f1⟩ := c_run (d := 194) hc
  have s1 := q_st_eq hp h1 (by decide)
  have hc1 := q_st_c s1 hc
  have hr1 := r_4 (v := nI 0) (q_st_r s1 hr)
  obtain ⟨M2, e2, h2⟩ := r_sumToday (d := 192) hr1
  refine ⟨k_tot K, M1, ?_, s1, M2, ?_, (q_st_4 s1.1.1 rfl).tr (q_st_eq hr1.1 h2 (by decide))⟩
  · rw [E_X11_today 199]
    simp (disch := omega) only [q_ckt, q_lt, q_cI, q_cJ, q_cV, q_cP, q_xI, q_xV, q_xP, q_xJ, g_gk, g_ga, g_gw, g_gp, g_gq, g_P, g_J, q_I_s, q_I_n, q_I_k, nI_add, pk_sub, pk_mul, nI_clamp, n_lt0, n_0lt, n_eq0, n_lt, n_le, n_eq, n_m1, n_m2, n_m9, n_12, n_19, n_10, n_01, n_1n1, n_0n1, n_1n0, n_0n0, n_dI, n_m1lt, q_inb, n_nar, n_nar0, n_nar1, n_bool, Bool.false_eq_true, Bool.true_eq_false, if_true, if_false, ↓reduceIte, Nat.reduceAdd, Nat.reduceMul, Nat.reduceSub, Nat.reduceLT, Nat.reduceLeDiff, Nat.reduceEqDiff, Nat.reduceMod, Nat.reduceDiv, q_W hp, q_F hp, e1, q_W s1.1.1, q_F s1.1.1, c_woa hc1 f1 (fun i hi => k_td_gd hc.2.2.1 hi)]
    rfl
  · rw [E_X12_today 199]
    simp (disch := omega) only [q_ckt, q_lt, q_cI, q_cJ, q_cV, q_cP, q_xI, q_xV, q_xP, q_xJ, g_gk, g_ga, g_gw, g_gp, g_gq, g_P, g_J, q_I_s, q_I_n, q_I_k, nI_add, pk_sub, pk_mul, nI_clamp, n_lt0, n_0lt, n_eq0, n_lt, n_le, n_eq, n_m1, n_m2, n_m9, n_12, n_19, n_10, n_01, n_1n1, n_0n1, n_1n0, n_0n0, n_dI, n_m1lt, q_inb, n_nar, n_nar0, n_nar1, n_bool, Bool.false_eq_true, Bool.true_eq_false, if_true, if_false, ↓reduceIte, Nat.reduceAdd, Nat.reduceMul, Nat.reduceSub, Nat.reduceLT, Nat.reduceLeDiff, Nat.reduceEqDiff, Nat.reduceMod, Nat.reduceDiv, q_R s1.1.1, e2]
theorem S_liking (a : Int32) : q_St L xs (q_Iv L xs) (m_L_liking 200 1 a 436) (m_X12_liking 200 412 a) := by
  refine q_St_mk (x := m_X11_liking 199 1 a) (fun M => E_L_liking 199 1 a 436 M) fun M hp hI => ?_
  have hc := c_I_c hp hI.1
  have hr := c_I_r hp hI.1
  generalize M.1 413 = K at hc hr
  have hb := k_bds hc.2.2.1
  by_cases ha : k_rng a (k_n K)
  · obtain ⟨p, hpn, rfl⟩ := k_rng_of ha (by omega)
    cases e : k_pl K p with
    | none =>
      refine Or.inr ⟨2, 2, by omega, by omega, ?_, fun _ => rfl, fun M' s => ⟨nI 0, _, ?_, q_st_4 s.1.1 (k := 4) (v := nI 2) rfl, rfl, q_I_s⟩⟩
      · rw [E_X11_liking 198]
        simp (disch := omega) only [q_ckt, q_lt, q_cI, q_cJ, q_cV, q_cP, q_xI, q_xV, q_xP, q_xJ, g_gk, g_ga, g_gw, g_gp, g_gq, g_P, g_J, q_I_s, q_I_n, q_I_k, nI_add, pk_sub, pk_mul, nI_clamp, n_lt0, n_0lt, n_eq0, n_lt, n_le, n_eq, n_m1, n_m2, n_m9, n_12, n_19, n_10, n_01, n_1n1, n_0n1, n_1n0, n_0n0, n_dI, n_m1lt, q_inb, n_nar, n_nar0, n_nar1, n_bool, Bool.false_eq_true, Bool.true_eq_false, if_true, if_false, ↓reduceIte, Nat.reduceAdd, Nat.reduceMul, Nat.reduceSub, Nat.reduceLT, Nat.reduceLeDiff, Nat.reduceEqDiff, Nat.reduceMod, Nat.reduceDiv, q_W hp, c_np hc, ha, c_ns hc hpn, e]
      · have hr' := q_st_r s hr
        rw [E_X12_liking 199]
        simp (disch := omega) only [q_ckt, q_lt, q_cI, q_cJ, q_cV, q_cP, q_xI, q_xV, q_xP, q_xJ, g_gk, g_ga, g_gw, g_gp, g_gq, g_P, g_J, q_I_s, q_I_n, q_I_k, nI_add, pk_sub, pk_mul, nI_clamp, n_lt0, n_0lt, n_eq0, n_lt, n_le, n_eq, n_m1, n_m2, n_m9, n_12, n_19, n_10, n_01, n_1n1, n_0n1, n_1n0, n_0n0, n_dI, n_m1lt, q_inb, n_nar, n_nar0, n_nar1, n_bool, Bool.false_eq_true, Bool.true_eq_false, if_true, if_false, ↓reduceIte, Nat.reduceAdd, Nat.reduceMul, Nat.reduceSub, Nat.reduceLT, Nat.reduceLeDiff, Nat.reduceEqDiff, Nat.reduceMod, Nat.reduceDiv, q_R hr'.1, r_bf1 hr' hpn, e]
    | some i =>
      obtain ⟨him, hqi⟩ := k_pl_some e
      subst hqi
      obtain ⟨M1, e1, h1, a1, f1⟩ := c_run (d := 193) hc
      have s1 := q_st_eq hp h1 (by decide)
      have hc1 := q_st_c s1 hc
      refine Or.inl ⟨k_li K (k_td K) i, ⟨M1, ?_, s1⟩, fun M' s => ?_⟩
      · rw [E_X11_liking 198]
        simp (disch := omega) only [q_ckt, q_lt, q_cI, q_cJ, q_cV, q_cP, q_xI, q_xV, q_xP, q_xJ, g_gk, g_ga, g_gw, g_gp, g_gq, g_P, g_J, q_I_s, q_I_n, q_I_k, nI_add, pk_sub, pk_mul, nI_clamp, n_lt0, n_0lt, n_eq0, n_lt, n_le, n_eq, n_m1, n_m2, n_m9, n_12, n_19, n_10, n_01, n_1n1, n_0n1, n_1n0, n_0n0, n_dI, n_m1lt, q_inb, n_nar, n_nar0, n_nar1, n_bool, Bool.false_eq_true, Bool.true_eq_false, if_true, if_false, ↓reduceIte, Nat.reduceAdd, Nat.reduceMul, Nat.reduceSub, Nat.reduceLT, Nat.reduceLeDiff, Nat.reduceEqDiff, Nat.reduceMod, Nat.reduceDiv, q_W hp, c_np hc, ha, c_ns hc hpn, e, q_F hp, e1, q_W s1.1.1, q_F s1.1.1, c_li hc1 him f1 (fun i hi => k_td_gd hc.2.2.1 hi)]
      · have hr' := q_st_r s hr
        have h4 := r_4 (v := nI 0) hr'
        obtain ⟨M2, e2, h2⟩ := r_likingOf (d := 192) h4 him
        refine ⟨M2, ?_, (q_st_4 s.1.1 rfl).tr (q_st_eq h4.1 h2 (by decide)), by rw [h2.2]; rfl, (q_I_eq h2 (by decide) 4).trans q_I_s⟩
        rw [E_X12_liking 199]
        simp (disch := omega) only [q_ckt, q_lt, q_cI, q_cJ, q_cV, q_cP, q_xI, q_xV, q_xP, q_xJ, g_gk, g_ga, g_gw, g_gp, g_gq, g_P, g_J, q_I_s, q_I_n, q_I_k, nI_add, pk_sub, pk_mul, nI_clamp, n_lt0, n_0lt, n_eq0, n_lt, n_le, n_eq, n_m1, n_m2, n_m9, n_12, n_19, n_10, n_01, n_1n1, n_0n1, n_1n0, n_0n0, n_dI, n_m1lt, q_inb, n_nar, n_nar0, n_nar1, n_bool, Bool.false_eq_true, Bool.true_eq_false, if_true, if_false, ↓reduceIte, Nat.reduceAdd, Nat.reduceMul, Nat.reduceSub, Nat.reduceLT, Nat.reduceLeDiff, Nat.reduceEqDiff, Nat.reduceMod, Nat.reduceDiv, q_R hr'.1, r_bf1 hr' hpn, e, e2]
  · refine Or.inr ⟨1, 1, by omega, by omega, ?_, fun _ => rfl, fun M' s => ⟨nI 0, _, ?_, q_st_4 s.1.1 (k := 4) (v := nI 1) rfl, rfl, q_I_s⟩⟩
    · rw [E_X11_liking 198]
      simp (disch := omega) only [q_ckt, q_lt, q_cI, q_cJ, q_cV, q_cP, q_xI, q_xV, q_xP, q_xJ, g_gk, g_ga, g_gw, g_gp, g_gq, g_P, g_J, q_I_s, q_I_n, q_I_k, nI_add, pk_sub, pk_mul, nI_clamp, n_lt0, n_0lt, n_eq0, n_lt, n_le, n_eq, n_m1, n_m2, n_m9, n_12, n_19, n_10, n_01, n_1n1, n_0n1, n_1n0, n_0n0, n_dI, n_m1lt, q_inb, n_nar, n_nar0, n_nar1, n_bool, Bool.false_eq_true, Bool.true_eq_false, if_true, if_false, ↓reduceIte, Nat.reduceAdd, Nat.reduceMul, Nat.reduceSub, Nat.reduceLT, Nat.reduceLeDiff, Nat.reduceEqDiff, Nat.reduceMod, Nat.reduceDiv, q_W hp, c_np hc, ha]
    · have hr' := q_st_r s hr
      rw [E_X12_liking 199]
      simp (disch := omega) only [q_ckt, q_lt, q_cI, q_cJ, q_cV, q_cP, q_xI, q_xV, q_xP, q_xJ, g_gk, g_ga, g_gw, g_gp, g_gq, g_P, g_J, q_I_s, q_I_n, q_I_k, nI_add, pk_sub, pk_mul, nI_clamp, n_lt0, n_0lt, n_eq0, n_lt, n_le, n_eq, n_m1, n_m2, n_m9, n_12, n_19, n_10, n_01, n_1n1, n_0n1, n_1n0, n_0n0, n_dI, n_m1lt, q_inb, n_nar, n_nar0, n_nar1, n_bool, Bool.false_eq_true, Bool.true_eq_false, if_true, if_false, ↓reduceIte, Nat.reduceAdd, Nat.reduceMul, Nat.reduceSub, Nat.reduceLT, Nat.reduceLeDiff, Nat.reduceEqDiff, Nat.reduceMod, Nat.reduceDiv, q_R hr'.1, r_bf0 hr' ha]
end S2
