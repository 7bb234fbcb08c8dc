/-! THE WELL: the law's chains -/
section WC
variable {B : Nat → Nat} {n L : Nat} {xs : Nat → Int32} {M0 M : ir_M} {d dp s f p : Nat} {K : Nat → Int32}
theorem r_unitF (h : r_F B n L xs M0 f p M) (hd : 1 ≤ d) : m_X12_readUnit d 412 M = ir_oV M := by
  obtain ⟨e, rfl⟩ : ∃ e, d = e + 1 := ⟨d - 1, by omega⟩
  rw [E_X12_readUnit]
  simp (disch := omega) only [q_ckt, q_lt, q_cI, q_cJ, q_cV, q_cP, q_xI, q_xV, q_xP, q_xJ, g_gk, g_ga, g_gw, g_gp, g_gq, g_P, g_J, q_I_s, q_I_n, q_I_k, nI_add, pk_sub, pk_mul, nI_clamp, n_lt0, n_0lt, n_eq0, n_lt, n_le, n_eq, n_m1, n_m2, n_m9, n_12, n_19, n_10, n_01, n_1n1, n_0n1, n_1n0, n_0n0, n_dI, n_m1lt, q_inb, n_nar, n_nar0, n_nar1, n_bool, Bool.false_eq_true, Bool.true_eq_false, if_true, if_false, ↓reduceIte, Nat.reduceAdd, Nat.reduceMul, Nat.reduceSub, Nat.reduceLT, Nat.reduceLeDiff, Nat.reduceEqDiff, Nat.reduceMod, Nat.reduceDiv, q_R h.1.1, r_F_z h]
theorem r_atomF (h : r_F B n L xs M0 f p M) (hd : 1 ≤ d) : m_X12_readAtom d 412 M = ir_oV M := by
  obtain ⟨e, rfl⟩ : ∃ e, d = e + 1 := ⟨d - 1, by omega⟩
  rw [E_X12_readAtom]
  simp (disch := omega) only [q_ckt, q_lt, q_cI, q_cJ, q_cV, q_cP, q_xI, q_xV, q_xP, q_xJ, g_gk, g_ga, g_gw, g_gp, g_gq, g_P, g_J, q_I_s, q_I_n, q_I_k, nI_add, pk_sub, pk_mul, nI_clamp, n_lt0, n_0lt, n_eq0, n_lt, n_le, n_eq, n_m1, n_m2, n_m9, n_12, n_19, n_10, n_01, n_1n1, n_0n1, n_1n0, n_0n0, n_dI, n_m1lt, q_inb, n_nar, n_nar0, n_nar1, n_bool, Bool.false_eq_true, Bool.true_eq_false, if_true, if_false, ↓reduceIte, Nat.reduceAdd, Nat.reduceMul, Nat.reduceSub, Nat.reduceLT, Nat.reduceLeDiff, Nat.reduceEqDiff, Nat.reduceMod, Nat.reduceDiv, q_R h.1.1, r_F_z h]
theorem r_termL (h : r_F B n L xs M0 f p M) (hd : 1 ≤ d) : v_X12_readTerm_4 d 412 M = ir_oV M := by
  rw [L_X12_readTerm_4]
  simp (disch := omega) only [q_ckt, q_lt, q_cI, q_cJ, q_cV, q_cP, q_xI, q_xV, q_xP, q_xJ, g_gk, g_ga, g_gw, g_gp, g_gq, g_P, g_J, q_I_s, q_I_n, q_I_k, nI_add, pk_sub, pk_mul, nI_clamp, n_lt0, n_0lt, n_eq0, n_lt, n_le, n_eq, n_m1, n_m2, n_m9, n_12, n_19, n_10, n_01, n_1n1, n_0n1, n_1n0, n_0n0, n_dI, n_m1lt, q_inb, n_nar, n_nar0, n_nar1, n_bool, Bool.false_eq_true, Bool.true_eq_false, if_true, if_false, ↓reduceIte, Nat.reduceAdd, Nat.reduceMul, Nat.reduceSub, Nat.reduceLT, Nat.reduceLeDiff, Nat.reduceEqDiff, Nat.reduceMod, Nat.reduceDiv, q_R h.1.1, r_signF h (c := nI 42) hd]
theorem r_sumL (h : r_F B n L xs M0 f p M) (hd : 1 ≤ d) : v_X12_readSum_4 d 412 M = ir_oV M := by
  rw [L_X12_readSum_4]
  simp (disch := omega) only [q_ckt, q_lt, q_cI, q_cJ, q_cV, q_cP, q_xI, q_xV, q_xP, q_xJ, g_gk, g_ga, g_gw, g_gp, g_gq, g_P, g_J, q_I_s, q_I_n, q_I_k, nI_add, pk_sub, pk_mul, nI_clamp, n_lt0, n_0lt, n_eq0, n_lt, n_le, n_eq, n_m1, n_m2, n_m9, n_12, n_19, n_10, n_01, n_1n1, n_0n1, n_1n0, n_0n0, n_dI, n_m1lt, q_inb, n_nar, n_nar0, n_nar1, n_bool, Bool.false_eq_true, Bool.true_eq_false, if_true, if_false, ↓reduceIte, Nat.reduceAdd, Nat.reduceMul, Nat.reduceSub, Nat.reduceLT, Nat.reduceLeDiff, Nat.reduceEqDiff, Nat.reduceMod, Nat.reduceDiv, q_R h.1.1, r_signF h (c := nI 43) hd, r_signF h (c := nI 45) hd]
theorem r_bothL (h : r_F B n L xs M0 f p M) (hd : 2 ≤ d) : v_X12_readBoth_4 d 412 M = ir_oV M := by
  rw [L_X12_readBoth_4]
  simp (disch := omega) only [q_ckt, q_lt, q_cI, q_cJ, q_cV, q_cP, q_xI, q_xV, q_xP, q_xJ, g_gk, g_ga, g_gw, g_gp, g_gq, g_P, g_J, q_I_s, q_I_n, q_I_k, nI_add, pk_sub, pk_mul, nI_clamp, n_lt0, n_0lt, n_eq0, n_lt, n_le, n_eq, n_m1, n_m2, n_m9, n_12, n_19, n_10, n_01, n_1n1, n_0n1, n_1n0, n_0n0, n_dI, n_m1lt, q_inb, n_nar, n_nar0, n_nar1, n_bool, Bool.false_eq_true, Bool.true_eq_false, if_true, if_false, ↓reduceIte, Nat.reduceAdd, Nat.reduceMul, Nat.reduceSub, Nat.reduceLT, Nat.reduceLeDiff, Nat.reduceEqDiff, Nat.reduceMod, Nat.reduceDiv, q_R h.1.1, r_tookF h (a := 1000053) hd]
theorem r_truthL (h : r_F B n L xs M0 f p M) (hd : 2 ≤ d) : v_X12_readTruth_4 d 412 M = ir_oV M := by
  rw [L_X12_readTruth_4]
  simp (disch := omega) only [q_ckt, q_lt, q_cI, q_cJ, q_cV, q_cP, q_xI, q_xV, q_xP, q_xJ, g_gk, g_ga, g_gw, g_gp, g_gq, g_P, g_J, q_I_s, q_I_n, q_I_k, nI_add, pk_sub, pk_mul, nI_clamp, n_lt0, n_0lt, n_eq0, n_lt, n_le, n_eq, n_m1, n_m2, n_m9, n_12, n_19, n_10, n_01, n_1n1, n_0n1, n_1n0, n_0n0, n_dI, n_m1lt, q_inb, n_nar, n_nar0, n_nar1, n_bool, Bool.false_eq_true, Bool.true_eq_false, if_true, if_false, ↓reduceIte, Nat.reduceAdd, Nat.reduceMul, Nat.reduceSub, Nat.reduceLT, Nat.reduceLeDiff, Nat.reduceEqDiff, Nat.reduceMod, Nat.reduceDiv, q_R h.1.1, r_tookF h (a := 1000054) hd]
theorem r_termF (h : r_F B n L xs M0 f p M) (hd : 2 ≤ d) : m_X12_readTerm d 412 M = ir_oV M := by
  obtain ⟨e, rfl⟩ : ∃ e, d = e + 1 := ⟨d - 1, by omega⟩
  rw [E_X12_readTerm]
  simp (disch := omega) only [q_ckt, q_lt, q_cI, q_cJ, q_cV, q_cP, q_xI, q_xV, q_xP, q_xJ, g_gk, g_ga, g_gw, g_gp, g_gq, g_P, g_J, q_I_s, q_I_n, q_I_k, nI_add, pk_sub, pk_mul, nI_clamp, n_lt0, n_0lt, n_eq0, n_lt, n_le, n_eq, n_m1, n_m2, n_m9, n_12, n_19, n_10, n_01, n_1n1, n_0n1, n_1n0, n_0n0, n_dI, n_m1lt, q_inb, n_nar, n_nar0, n_nar1, n_bool, Bool.false_eq_true, Bool.true_eq_false, if_true, if_false, ↓reduceIte, Nat.reduceAdd, Nat.reduceMul, Nat.reduceSub, Nat.reduceLT, Nat.reduceLeDiff, Nat.reduceEqDiff, Nat.reduceMod, Nat.reduceDiv, q_R h.1.1, r_atomF h (d := e) (by omega), r_termL h (d := e) (by omega)]
theorem r_sumF (h : r_F B n L xs M0 f p M) (hd : 3 ≤ d) : m_X12_readSum d 412 M = ir_oV M := by
  obtain ⟨e, rfl⟩ : ∃ e, d = e + 1 := ⟨d - 1, by omega⟩
  rw [E_X12_readSum]
  simp (disch := omega) only [q_ckt, q_lt, q_cI, q_cJ, q_cV, q_cP, q_xI, q_xV, q_xP, q_xJ, g_gk, g_ga, g_gw, g_gp, g_gq, g_P, g_J, q_I_s, q_I_n, q_I_k, nI_add, pk_sub, pk_mul, nI_clamp, n_lt0, n_0lt, n_eq0, n_lt, n_le, n_eq, n_m1, n_m2, n_m9, n_12, n_19, n_10, n_01, n_1n1, n_0n1, n_1n0, n_0n0, n_dI, n_m1lt, q_inb, n_nar, n_nar0, n_nar1, n_bool, Bool.false_eq_true, Bool.true_eq_false, if_true, if_false, ↓reduceIte, Nat.reduceAdd, Nat.reduceMul, Nat.reduceSub, Nat.reduceLT, Nat.reduceLeDiff, Nat.reduceEqDiff, Nat.reduceMod, Nat.reduceDiv, q_R h.1.1, r_termF h (d := e) (by omega), r_sumL h (d := e) (by omega)]
theorem r_bothF (h : r_F B n L xs M0 f p M) (hd : 3 ≤ d) : m_X12_readBoth d 412 M = ir_oV M := by
  obtain ⟨e, rfl⟩ : ∃ e, d = e + 1 := ⟨d - 1, by omega⟩
  rw [E_X12_readBoth]
  simp (disch := omega) only [q_ckt, q_lt, q_cI, q_cJ, q_cV, q_cP, q_xI, q_xV, q_xP, q_xJ, g_gk, g_ga, g_gw, g_gp, g_gq, g_P, g_J, q_I_s, q_I_n, q_I_k, nI_add, pk_sub, pk_mul, nI_clamp, n_lt0, n_0lt, n_eq0, n_lt, n_le, n_eq, n_m1, n_m2, n_m9, n_12, n_19, n_10, n_01, n_1n1, n_0n1, n_1n0, n_0n0, n_dI, n_m1lt, q_inb, n_nar, n_nar0, n_nar1, n_bool, Bool.false_eq_true, Bool.true_eq_false, if_true, if_false, ↓reduceIte, Nat.reduceAdd, Nat.reduceMul, Nat.reduceSub, Nat.reduceLT, Nat.reduceLeDiff, Nat.reduceEqDiff, Nat.reduceMod, Nat.reduceDiv, q_R h.1.1, r_unitF h (d := e) (by omega), r_bothL h (d := e) (by omega)]
theorem r_truthF (h : r_F B n L xs M0 f p M) (hd : 4 ≤ d) : m_X12_readTruth d 412 M = ir_oV M := by
  obtain ⟨e, rfl⟩ : ∃ e, d = e + 1 := ⟨d - 1, by omega⟩
  rw [E_X12_readTruth]
  simp (disch := omega) only [q_ckt, q_lt, q_cI, q_cJ, q_cV, q_cP, q_xI, q_xV, q_xP, q_xJ, g_gk, g_ga, g_gw, g_gp, g_gq, g_P, g_J, q_I_s, q_I_n, q_I_k, nI_add, pk_sub, pk_mul, nI_clamp, n_lt0, n_0lt, n_eq0, n_lt, n_le, n_eq, n_m1, n_m2, n_m9, n_12, n_19, n_10, n_01, n_1n1, n_0n1, n_1n0, n_0n0, n_dI, n_m1lt, q_inb, n_nar, n_nar0, n_nar1, n_bool, Bool.false_eq_true, Bool.true_eq_false, if_true, if_false, ↓reduceIte, Nat.reduceAdd, Nat.reduceMul, Nat.reduceSub, Nat.reduceLT, Nat.reduceLeDiff, Nat.reduceEqDiff, Nat.reduceMod, Nat.reduceDiv, q_R h.1.1, r_bothF h (d := e) (by omega), r_truthL h (d := e) (by omega)]
theorem r_tookN (h : r_T B n L xs M0 dp s M) {j a : Nat} (hj : j < 22) (ha : a = 1000000 + k_rs j) (hk : k_kd B n s ≠ 256 + j) (hd : 7 ≤ d) : m_X12_took d 412 a M = ir_oI (nI 0) M := by
  obtain ⟨M', e1, -, e3⟩ := r_took (d := d) h hj hd
  rw [if_neg hk, e3 hk] at e1
  rw [ha]
  exact e1
theorem r_tookY (h : r_T B n L xs M0 dp s M) {j a : Nat} (hj : j < 22) (ha : a = 1000000 + k_rs j) (hk : k_kd B n s = 256 + j) (hd : 7 ≤ d) : ∃ M', m_X12_took d 412 a M = ir_oI (nI 1) M' ∧ r_T B n L xs M0 dp (k_nt B n s) M' ∧ q_eq [412] M M' := by
  obtain ⟨M', e1, e2, -⟩ := r_took (d := d) h hj hd
  rw [if_pos hk] at e1
  refine ⟨M', ?_, e2 hk⟩
  rw [ha]
  exact e1
theorem c_hdr (h : c_T B n L xs M0 s M) : ir_I M 100 6 = nI n ∧ ir_I M 100 8 = nI (k_kd B n s) ∧ n ≤ 900 ∧ k_kd B n s < 300 := ⟨h.1.2.2.2.2.2.1, h.2.2.2.2.2.2.2.1, h.1.2.1, (k_nt_b (B := B) h.2.2.2.1).2.2.2.2.1⟩
theorem r_hdr (h : r_T B n L xs M0 dp s M) : ir_I M 412 10 = nI (k_rt (k_kd B n s)) ∧ k_rt (k_kd B n s) < 300 ∧ ir_I M 412 12 = 0 := by
  have := (k_nt_b (B := B) h.2.2.2.1).2.2.2.2.1
  have i5 := (k_rt_i (k_kd B n s)).2.2.2.2.1
  exact ⟨h.2.2.2.2.2.2.2.1, by omega, h.2.2.2.2.1⟩
def k_opr (X : Nat) (k : Nat) : Nat := match X with
  | 0 => if k = 269 then 17 else 0
  | 1 => if k = 268 then 16 else 0
  | 2 => if k = 43 then 10 else if k = 45 then 11 else 0
  | _ => if k = 42 then 12 else 0
theorem c_TruthL (h : c_F B n L xs M0 f p M) {i : Nat} (hi : i ≤ 1000) : v_X4_readTruth_8 d 100 (nI dp) (nI 0) (nI i) M = ir_oI (nI 0) M := by
  have h6 := h.1.2.2.2.2.2.1
  have h900 := h.1.2.1
  rw [L_X4_readTruth_8]
  by_cases q : i < n
  · simp (disch := omega) only [q_ckt, q_lt, q_cI, q_cJ, q_cV, q_cP, q_xI, q_xV, q_xP, q_xJ, g_gk, g_ga, g_gw, g_gp, g_gq, g_P, g_J, q_I_s, q_I_n, q_I_k, nI_add, pk_sub, pk_mul, nI_clamp, n_lt0, n_0lt, n_eq0, n_lt, n_le, n_eq, n_m1, n_m2, n_m9, n_12, n_19, n_10, n_01, n_1n1, n_0n1, n_1n0, n_0n0, n_dI, n_m1lt, q_inb, n_nar, n_nar0, n_nar1, n_bool, Bool.false_eq_true, Bool.true_eq_false, if_true, if_false, ↓reduceIte, Nat.reduceAdd, Nat.reduceMul, Nat.reduceSub, Nat.reduceLT, Nat.reduceLeDiff, Nat.reduceEqDiff, Nat.reduceMod, Nat.reduceDiv, q_D h.1.1, h6, q, n_nr]
  · simp (disch := omega) only [q_ckt, q_lt, q_cI, q_cJ, q_cV, q_cP, q_xI, q_xV, q_xP, q_xJ, g_gk, g_ga, g_gw, g_gp, g_gq, g_P, g_J, q_I_s, q_I_n, q_I_k, nI_add, pk_sub, pk_mul, nI_clamp, n_lt0, n_0lt, n_eq0, n_lt, n_le, n_eq, n_m1, n_m2, n_m9, n_12, n_19, n_10, n_01, n_1n1, n_0n1, n_1n0, n_0n0, n_dI, n_m1lt, q_inb, n_nar, n_nar0, n_nar1, n_bool, Bool.false_eq_true, Bool.true_eq_false, if_true, if_false, ↓reduceIte, Nat.reduceAdd, Nat.reduceMul, Nat.reduceSub, Nat.reduceLT, Nat.reduceLeDiff, Nat.reduceEqDiff, Nat.reduceMod, Nat.reduceDiv, q_D h.1.1, h6, q, n_nr]
theorem c_Truth0 (h : c_T B n L xs M0 s M) {i : Nat} (hi : i ≤ 900) (ho : k_opr 0 (k_kd B n s) = 0) : v_X4_readTruth_8 d 100 (nI dp) (nI 1) (nI i) M = ir_oI (nI 1) M := by
  obtain ⟨h6, h8, h900, h300⟩ := c_hdr h
  have n1 : ¬ k_kd B n s = 269 := fun z => by rw [z] at ho; exact absurd ho (by decide)
  rw [L_X4_readTruth_8]
  by_cases q : i < n
  · simp (disch := omega) only [q_ckt, q_lt, q_cI, q_cJ, q_cV, q_cP, q_xI, q_xV, q_xP, q_xJ, g_gk, g_ga, g_gw, g_gp, g_gq, g_P, g_J, q_I_s, q_I_n, q_I_k, nI_add, pk_sub, pk_mul, nI_clamp, n_lt0, n_0lt, n_eq0, n_lt, n_le, n_eq, n_m1, n_m2, n_m9, n_12, n_19, n_10, n_01, n_1n1, n_0n1, n_1n0, n_0n0, n_dI, n_m1lt, q_inb, n_nar, n_nar0, n_nar1, n_bool, Bool.false_eq_true, Bool.true_eq_false, if_true, if_false, ↓reduceIte, Nat.reduceAdd, Nat.reduceMul, Nat.reduceSub, Nat.reduceLT, Nat.reduceLeDiff, Nat.reduceEqDiff, Nat.reduceMod, Nat.reduceDiv, q_D h.1.1, h6, q, h8, n1, n_nr]
  · simp (disch := omega) only [q_ckt, q_lt, q_cI, q_cJ, q_cV, q_cP, q_xI, q_xV, q_xP, q_xJ, g_gk, g_ga, g_gw, g_gp, g_gq, g_P, g_J, q_I_s, q_I_n, q_I_k, nI_add, pk_sub, pk_mul, nI_clamp, n_lt0, n_0lt, n_eq0, n_lt, n_le, n_eq, n_m1, n_m2, n_m9, n_12, n_19, n_10, n_01, n_1n1, n_0n1, n_1n0, n_0n0, n_dI, n_m1lt, q_inb, n_nar, n_nar0, n_nar1, n_bool, Bool.false_eq_true, Bool.true_eq_false, if_true, if_false, ↓reduceIte, Nat.reduceAdd, Nat.reduceMul, Nat.reduceSub, Nat.reduceLT, Nat.reduceLeDiff, Nat.reduceEqDiff, Nat.reduceMod, Nat.reduceDiv, q_D h.1.1, h6, q, n_nr]
theorem c_Truth1 (h : c_T B n L xs M0 s M) {i : Nat} (hi : i < n) (hd : 8 ≤ d) (ho : k_opr 0 (k_kd B n s) ≠ 0) : ∃ M1, c_T B n L xs M0 (k_nt B n s) M1 ∧ q_eq [100] M M1 ∧ ∀ r M2 M4, m_X4_readBoth d 100 (nI dp) M1 = ir_oI r M2 → q_PI M2 → m_X1_add d 104 (nI (k_cd (k_opr 0 (k_kd B n s)))) M2 = ir_oV M4 → v_X4_readTruth_8 d 100 (nI dp) (nI 1) (nI i) M = v_X4_readTruth_8 d 100 (nI dp) r (nI (i + 1)) M4 := by
  obtain ⟨h6, h8, h900, h300⟩ := c_hdr h
  have n1 : k_kd B n s = 269 := Decidable.byContradiction (fun z => ho (if_neg z))
  obtain ⟨M1, e1, t1, q1⟩ := c_next (d := d) h hd
  refine ⟨M1, t1, q1, fun r M2 M4 e2 p2 e4 => ?_⟩
  rw [n1] at e4 h8
  have e4' : m_X1_add d 104 (nI 2002) M2 = ir_oV M4 := e4
  rw [L_X4_readTruth_8]
  simp (disch := omega) only [q_ckt, q_lt, q_cI, q_cJ, q_cV, q_cP, q_xI, q_xV, q_xP, q_xJ, g_gk, g_ga, g_gw, g_gp, g_gq, g_P, g_J, q_I_s, q_I_n, q_I_k, nI_add, pk_sub, pk_mul, nI_clamp, n_lt0, n_0lt, n_eq0, n_lt, n_le, n_eq, n_m1, n_m2, n_m9, n_12, n_19, n_10, n_01, n_1n1, n_0n1, n_1n0, n_0n0, n_dI, n_m1lt, q_inb, n_nar, n_nar0, n_nar1, n_bool, Bool.false_eq_true, Bool.true_eq_false, if_true, if_false, ↓reduceIte, Nat.reduceAdd, Nat.reduceMul, Nat.reduceSub, Nat.reduceLT, Nat.reduceLeDiff, Nat.reduceEqDiff, Nat.reduceMod, Nat.reduceDiv, q_D h.1.1, h6, hi, h8, e1, q_D t1.1.1, e2, q_D p2, q_N p2, e4']
theorem w_Truth {m tl : Nat} (hm : 8 ≤ m) (h900 : n ≤ 900) (htl : tl ≤ 50) (hY : w_W B n L xs m dp (tl + 1) true (fun d M => m_X4_readBoth d 100 (nI dp) M) (fun d M => m_X12_readBoth d 412 M)) : w_W B n L xs (m + 1) dp tl true (fun d M => m_X4_readTruth d 100 (nI dp) M) (fun d M => m_X12_readTruth d 412 M) := by
  refine w_seq (CL := fun d r i M => v_X4_readTruth_8 d 100 (nI dp) r i M) (RL := fun d M => v_X12_readTruth_4 d 412 M) hY (w_loop (op := k_opr 0) (by omega) h900 htl hY (fun k hk => ?_) (fun M0 M d i s hd hi h ho => c_Truth0 h hi ho) (fun M0 M d i f p hi h => c_TruthL h hi) (fun M0 M d i s hd hi h ho => c_Truth1 h hi (by omega) ho) (fun M0 M d s hd h ho => ?_) (fun M0 M d f p hd h => r_truthL h (by omega)) (fun M0 M d s hd h ho => ?_)) (fun M0 M d i f p hi h => c_TruthL h hi) (fun M0 M d f p hd h => r_truthL h (by omega)) (fun M d r M1 hp e1 => ?_) (fun M d M1 hp e1 => ?_)
  · have n1 : k = 269 := Decidable.byContradiction (fun z => hk (if_neg z))
    rw [n1]
    exact ⟨by decide, by decide, fun τ => rfl⟩
  · have n1 : ¬ k_kd B n s = 269 := fun z => by rw [z] at ho; exact absurd ho (by decide)
    have w := r_tookN (d := d) h (j := 13) (a := 1000054) (by decide) rfl n1 (by omega)
    try dsimp only
    rw [L_X12_readTruth_4]
    simp (disch := omega) only [q_ckt, q_lt, q_cI, q_cJ, q_cV, q_cP, q_xI, q_xV, q_xP, q_xJ, g_gk, g_ga, g_gw, g_gp, g_gq, g_P, g_J, q_I_s, q_I_n, q_I_k, nI_add, pk_sub, pk_mul, nI_clamp, n_lt0, n_0lt, n_eq0, n_lt, n_le, n_eq, n_m1, n_m2, n_m9, n_12, n_19, n_10, n_01, n_1n1, n_0n1, n_1n0, n_0n0, n_dI, n_m1lt, q_inb, n_nar, n_nar0, n_nar1, n_bool, Bool.false_eq_true, Bool.true_eq_false, if_true, if_false, ↓reduceIte, Nat.reduceAdd, Nat.reduceMul, Nat.reduceSub, Nat.reduceLT, Nat.reduceLeDiff, Nat.reduceEqDiff, Nat.reduceMod, Nat.reduceDiv, q_R h.1.1, w]
  · have n1 : k_kd B n s = 269 := Decidable.byContradiction (fun z => ho (if_neg z))
    obtain ⟨M1, e1, t1, q1⟩ := r_tookY (d := d) h (j := 13) (a := 1000054) (by decide) rfl n1 (by omega)
    refine ⟨M1, t1, q1, fun M2 M3 e2 p2 e3 => ?_⟩
    rw [n1] at e3
    have e3' : m_X12_laysStep d 412 (nI 17) M2 = ir_oV M3 := e3
    try dsimp only at e2 ⊢
    rw [L_X12_readTruth_4]
    simp (disch := omega) only [q_ckt, q_lt, q_cI, q_cJ, q_cV, q_cP, q_xI, q_xV, q_xP, q_xJ, g_gk, g_ga, g_gw, g_gp, g_gq, g_P, g_J, q_I_s, q_I_n, q_I_k, nI_add, pk_sub, pk_mul, nI_clamp, n_lt0, n_0lt, n_eq0, n_lt, n_le, n_eq, n_m1, n_m2, n_m9, n_12, n_19, n_10, n_01, n_1n1, n_0n1, n_1n0, n_0n0, n_dI, n_m1lt, q_inb, n_nar, n_nar0, n_nar1, n_bool, Bool.false_eq_true, Bool.true_eq_false, if_true, if_false, ↓reduceIte, Nat.reduceAdd, Nat.reduceMul, Nat.reduceSub, Nat.reduceLT, Nat.reduceLeDiff, Nat.reduceEqDiff, Nat.reduceMod, Nat.reduceDiv, q_R h.1.1, e1, q_R t1.1.1, e2, q_R p2, e3']
  · try dsimp only at e1 ⊢
    rw [E_X4_readTruth]
    simp (disch := omega) only [q_ckt, q_lt, q_cI, q_cJ, q_cV, q_cP, q_xI, q_xV, q_xP, q_xJ, g_gk, g_ga, g_gw, g_gp, g_gq, g_P, g_J, q_I_s, q_I_n, q_I_k, nI_add, pk_sub, pk_mul, nI_clamp, n_lt0, n_0lt, n_eq0, n_lt, n_le, n_eq, n_m1, n_m2, n_m9, n_12, n_19, n_10, n_01, n_1n1, n_0n1, n_1n0, n_0n0, n_dI, n_m1lt, q_inb, n_nar, n_nar0, n_nar1, n_bool, Bool.false_eq_true, Bool.true_eq_false, if_true, if_false, ↓reduceIte, Nat.reduceAdd, Nat.reduceMul, Nat.reduceSub, Nat.reduceLT, Nat.reduceLeDiff, Nat.reduceEqDiff, Nat.reduceMod, Nat.reduceDiv, q_D hp, e1]
  · try dsimp only at e1 ⊢
    rw [E_X12_readTruth]
    simp (disch := omega) only [q_ckt, q_lt, q_cI, q_cJ, q_cV, q_cP, q_xI, q_xV, q_xP, q_xJ, g_gk, g_ga, g_gw, g_gp, g_gq, g_P, g_J, q_I_s, q_I_n, q_I_k, nI_add, pk_sub, pk_mul, nI_clamp, n_lt0, n_0lt, n_eq0, n_lt, n_le, n_eq, n_m1, n_m2, n_m9, n_12, n_19, n_10, n_01, n_1n1, n_0n1, n_1n0, n_0n0, n_dI, n_m1lt, q_inb, n_nar, n_nar0, n_nar1, n_bool, Bool.false_eq_true, Bool.true_eq_false, if_true, if_false, ↓reduceIte, Nat.reduceAdd, Nat.reduceMul, Nat.reduceSub, Nat.reduceLT, Nat.reduceLeDiff, Nat.reduceEqDiff, Nat.reduceMod, Nat.reduceDiv, q_R hp, e1]
theorem c_BothL (h : c_F B n L xs M0 f p M) {i : Nat} (hi : i ≤ 1000) : v_X4_readBoth_8 d 100 (nI dp) (nI 0) (nI i) M = ir_oI (nI 0) M := by
  have h6 := h.1.2.2.2.2.2.1
  have h900 := h.1.2.1
  rw [L_X4_readBoth_8]
  by_cases q : i < n
  · simp (disch := omega) only [q_ckt, q_lt, q_cI, q_cJ, q_cV, q_cP, q_xI, q_xV, q_xP, q_xJ, g_gk, g_ga, g_gw, g_gp, g_gq, g_P, g_J, q_I_s, q_I_n, q_I_k, nI_add, pk_sub, pk_mul, nI_clamp, n_lt0, n_0lt, n_eq0, n_lt, n_le, n_eq, n_m1, n_m2, n_m9, n_12, n_19, n_10, n_01, n_1n1, n_0n1, n_1n0, n_0n0, n_dI, n_m1lt, q_inb, n_nar, n_nar0, n_nar1, n_bool, Bool.false_eq_true, Bool.true_eq_false, if_true, if_false, ↓reduceIte, Nat.reduceAdd, Nat.reduceMul, Nat.reduceSub, Nat.reduceLT, Nat.reduceLeDiff, Nat.reduceEqDiff, Nat.reduceMod, Nat.reduceDiv, q_D h.1.1, h6, q, n_nr]
  · simp (disch := omega) only [q_ckt, q_lt, q_cI, q_cJ, q_cV, q_cP, q_xI, q_xV, q_xP, q_xJ, g_gk, g_ga, g_gw, g_gp, g_gq, g_P, g_J, q_I_s, q_I_n, q_I_k, nI_add, pk_sub, pk_mul, nI_clamp, n_lt0, n_0lt, n_eq0, n_lt, n_le, n_eq, n_m1, n_m2, n_m9, n_12, n_19, n_10, n_01, n_1n1, n_0n1, n_1n0, n_0n0, n_dI, n_m1lt, q_inb, n_nar, n_nar0, n_nar1, n_bool, Bool.false_eq_true, Bool.true_eq_false, if_true, if_false, ↓reduceIte, Nat.reduceAdd, Nat.reduceMul, Nat.reduceSub, Nat.reduceLT, Nat.reduceLeDiff, Nat.reduceEqDiff, Nat.reduceMod, Nat.reduceDiv, q_D h.1.1, h6, q, n_nr]
theorem c_Both0 (h : c_T B n L xs M0 s M) {i : Nat} (hi : i ≤ 900) (ho : k_opr 1 (k_kd B n s) = 0) : v_X4_readBoth_8 d 100 (nI dp) (nI 1) (nI i) M = ir_oI (nI 1) M := by
  obtain ⟨h6, h8, h900, h300⟩ := c_hdr h
  have n1 : ¬ k_kd B n s = 268 := fun z => by rw [z] at ho; exact absurd ho (by decide)
  rw [L_X4_readBoth_8]
  by_cases q : i < n
  · simp (disch := omega) only [q_ckt, q_lt, q_cI, q_cJ, q_cV, q_cP, q_xI, q_xV, q_xP, q_xJ, g_gk, g_ga, g_gw, g_gp, g_gq, g_P, g_J, q_I_s, q_I_n, q_I_k, nI_add, pk_sub, pk_mul, nI_clamp, n_lt0, n_0lt, n_eq0, n_lt, n_le, n_eq, n_m1, n_m2, n_m9, n_12, n_19, n_10, n_01, n_1n1, n_0n1, n_1n0, n_0n0, n_dI, n_m1lt, q_inb, n_nar, n_nar0, n_nar1, n_bool, Bool.false_eq_true, Bool.true_eq_false, if_true, if_false, ↓reduceIte, Nat.reduceAdd, Nat.reduceMul, Nat.reduceSub, Nat.reduceLT, Nat.reduceLeDiff, Nat.reduceEqDiff, Nat.reduceMod, Nat.reduceDiv, q_D h.1.1, h6, q, h8, n1, n_nr]
  · simp (disch := omega) only [q_ckt, q_lt, q_cI, q_cJ, q_cV, q_cP, q_xI, q_xV, q_xP, q_xJ, g_gk, g_ga, g_gw, g_gp, g_gq, g_P, g_J, q_I_s, q_I_n, q_I_k, nI_add, pk_sub, pk_mul, nI_clamp, n_lt0, n_0lt, n_eq0, n_lt, n_le, n_eq, n_m1, n_m2, n_m9, n_12, n_19, n_10, n_01, n_1n1, n_0n1, n_1n0, n_0n0, n_dI, n_m1lt, q_inb, n_nar, n_nar0, n_nar1, n_bool, Bool.false_eq_true, Bool.true_eq_false, if_true, if_false, ↓reduceIte, Nat.reduceAdd, Nat.reduceMul, Nat.reduceSub, Nat.reduceLT, Nat.reduceLeDiff, Nat.reduceEqDiff, Nat.reduceMod, Nat.reduceDiv, q_D h.1.1, h6, q, n_nr]
theorem c_Both1 (h : c_T B n L xs M0 s M) {i : Nat} (hi : i < n) (hd : 8 ≤ d) (ho : k_opr 1 (k_kd B n s) ≠ 0) : ∃ M1, c_T B n L xs M0 (k_nt B n s) M1 ∧ q_eq [100] M M1 ∧ ∀ r M2 M4, m_X4_readUnit d 100 (nI dp) M1 = ir_oI r M2 → q_PI M2 → m_X1_add d 104 (nI (k_cd (k_opr 1 (k_kd B n s)))) M2 = ir_oV M4 → v_X4_readBoth_8 d 100 (nI dp) (nI 1) (nI i) M = v_X4_readBoth_8 d 100 (nI dp) r (nI (i + 1)) M4 := by
  obtain ⟨h6, h8, h900, h300⟩ := c_hdr h
  have n1 : k_kd B n s = 268 := Decidable.byContradiction (fun z => ho (if_neg z))
  obtain ⟨M1, e1, t1, q1⟩ := c_next (d := d) h hd
  refine ⟨M1, t1, q1, fun r M2 M4 e2 p2 e4 => ?_⟩
  rw [n1] at e4 h8
  have e4' : m_X1_add d 104 (nI 2001) M2 = ir_oV M4 := e4
  rw [L_X4_readBoth_8]
  simp (disch := omega) only [q_ckt, q_lt, q_cI, q_cJ, q_cV, q_cP, q_xI, q_xV, q_xP, q_xJ, g_gk, g_ga, g_gw, g_gp, g_gq, g_P, g_J, q_I_s, q_I_n, q_I_k, nI_add, pk_sub, pk_mul, nI_clamp, n_lt0, n_0lt, n_eq0, n_lt, n_le, n_eq, n_m1, n_m2, n_m9, n_12, n_19, n_10, n_01, n_1n1, n_0n1, n_1n0, n_0n0, n_dI, n_m1lt, q_inb, n_nar, n_nar0, n_nar1, n_bool, Bool.false_eq_true, Bool.true_eq_false, if_true, if_false, ↓reduceIte, Nat.reduceAdd, Nat.reduceMul, Nat.reduceSub, Nat.reduceLT, Nat.reduceLeDiff, Nat.reduceEqDiff, Nat.reduceMod, Nat.reduceDiv, q_D h.1.1, h6, hi, h8, e1, q_D t1.1.1, e2, q_D p2, q_N p2, e4']
theorem w_Both {m tl : Nat} (hm : 8 ≤ m) (h900 : n ≤ 900) (htl : tl ≤ 50) (hY : w_W B n L xs m dp (tl + 1) true (fun d M => m_X4_readUnit d 100 (nI dp) M) (fun d M => m_X12_readUnit d 412 M)) : w_W B n L xs (m + 1) dp tl true (fun d M => m_X4_readBoth d 100 (nI dp) M) (fun d M => m_X12_readBoth d 412 M) := by
  refine w_seq (CL := fun d r i M => v_X4_readBoth_8 d 100 (nI dp) r i M) (RL := fun d M => v_X12_readBoth_4 d 412 M) hY (w_loop (op := k_opr 1) (by omega) h900 htl hY (fun k hk => ?_) (fun M0 M d i s hd hi h ho => c_Both0 h hi ho) (fun M0 M d i f p hi h => c_BothL h hi) (fun M0 M d i s hd hi h ho => c_Both1 h hi (by omega) ho) (fun M0 M d s hd h ho => ?_) (fun M0 M d f p hd h => r_bothL h (by omega)) (fun M0 M d s hd h ho => ?_)) (fun M0 M d i f p hi h => c_BothL h hi) (fun M0 M d f p hd h => r_bothL h (by omega)) (fun M d r M1 hp e1 => ?_) (fun M d M1 hp e1 => ?_)
  · have n1 : k = 268 := Decidable.byContradiction (fun z => hk (if_neg z))
    rw [n1]
    exact ⟨by decide, by decide, fun τ => rfl⟩
  · have n1 : ¬ k_kd B n s = 268 := fun z => by rw [z] at ho; exact absurd ho (by decide)
    have w := r_tookN (d := d) h (j := 12) (a := 1000053) (by decide) rfl n1 (by omega)
    try dsimp only
    rw [L_X12_readBoth_4]
    simp (disch := omega) only [q_ckt, q_lt, q_cI, q_cJ, q_cV, q_cP, q_xI, q_xV, q_xP, q_xJ, g_gk, g_ga, g_gw, g_gp, g_gq, g_P, g_J, q_I_s, q_I_n, q_I_k, nI_add, pk_sub, pk_mul, nI_clamp, n_lt0, n_0lt, n_eq0, n_lt, n_le, n_eq, n_m1, n_m2, n_m9, n_12, n_19, n_10, n_01, n_1n1, n_0n1, n_1n0, n_0n0, n_dI, n_m1lt, q_inb, n_nar, n_nar0, n_nar1, n_bool, Bool.false_eq_true, Bool.true_eq_false, if_true, if_false, ↓reduceIte, Nat.reduceAdd, Nat.reduceMul, Nat.reduceSub, Nat.reduceLT, Nat.reduceLeDiff, Nat.reduceEqDiff, Nat.reduceMod, Nat.reduceDiv, q_R h.1.1, w]
  · have n1 : k_kd B n s = 268 := Decidable.byContradiction (fun z => ho (if_neg z))
    obtain ⟨M1, e1, t1, q1⟩ := r_tookY (d := d) h (j := 12) (a := 1000053) (by decide) rfl n1 (by omega)
    refine ⟨M1, t1, q1, fun M2 M3 e2 p2 e3 => ?_⟩
    rw [n1] at e3
    have e3' : m_X12_laysStep d 412 (nI 16) M2 = ir_oV M3 := e3
    try dsimp only at e2 ⊢
    rw [L_X12_readBoth_4]
    simp (disch := omega) only [q_ckt, q_lt, q_cI, q_cJ, q_cV, q_cP, q_xI, q_xV, q_xP, q_xJ, g_gk, g_ga, g_gw, g_gp, g_gq, g_P, g_J, q_I_s, q_I_n, q_I_k, nI_add, pk_sub, pk_mul, nI_clamp, n_lt0, n_0lt, n_eq0, n_lt, n_le, n_eq, n_m1, n_m2, n_m9, n_12, n_19, n_10, n_01, n_1n1, n_0n1, n_1n0, n_0n0, n_dI, n_m1lt, q_inb, n_nar, n_nar0, n_nar1, n_bool, Bool.false_eq_true, Bool.true_eq_false, if_true, if_false, ↓reduceIte, Nat.reduceAdd, Nat.reduceMul, Nat.reduceSub, Nat.reduceLT, Nat.reduceLeDiff, Nat.reduceEqDiff, Nat.reduceMod, Nat.reduceDiv, q_R h.1.1, e1, q_R t1.1.1, e2, q_R p2, e3']
  · try dsimp only at e1 ⊢
    rw [E_X4_readBoth]
    simp (disch := omega) only [q_ckt, q_lt, q_cI, q_cJ, q_cV, q_cP, q_xI, q_xV, q_xP, q_xJ, g_gk, g_ga, g_gw, g_gp, g_gq, g_P, g_J, q_I_s, q_I_n, q_I_k, nI_add, pk_sub, pk_mul, nI_clamp, n_lt0, n_0lt, n_eq0, n_lt, n_le, n_eq, n_m1, n_m2, n_m9, n_12, n_19, n_10, n_01, n_1n1, n_0n1, n_1n0, n_0n0, n_dI, n_m1lt, q_inb, n_nar, n_nar0, n_nar1, n_bool, Bool.false_eq_true, Bool.true_eq_false, if_true, if_false, ↓reduceIte, Nat.reduceAdd, Nat.reduceMul, Nat.reduceSub, Nat.reduceLT, Nat.reduceLeDiff, Nat.reduceEqDiff, Nat.reduceMod, Nat.reduceDiv, q_D hp, e1]
  · try dsimp only at e1 ⊢
    rw [E_X12_readBoth]
    simp (disch := omega) only [q_ckt, q_lt, q_cI, q_cJ, q_cV, q_cP, q_xI, q_xV, q_xP, q_xJ, g_gk, g_ga, g_gw, g_gp, g_gq, g_P, g_J, q_I_s, q_I_n, q_I_k, nI_add, pk_sub, pk_mul, nI_clamp, n_lt0, n_0lt, n_eq0, n_lt, n_le, n_eq, n_m1, n_m2, n_m9, n_12, n_19, n_10, n_01, n_1n1, n_0n1, n_1n0, n_0n0, n_dI, n_m1lt, q_inb, n_nar, n_nar0, n_nar1, n_bool, Bool.false_eq_true, Bool.true_eq_false, if_true, if_false, ↓reduceIte, Nat.reduceAdd, Nat.reduceMul, Nat.reduceSub, Nat.reduceLT, Nat.reduceLeDiff, Nat.reduceEqDiff, Nat.reduceMod, Nat.reduceDiv, q_R hp, e1]
theorem c_TermL (h : c_F B n L xs M0 f p M) {i : Nat} (hi : i ≤ 1000) : v_X4_readTerm_8 d 100 (nI dp) (nI 0) (nI i) M = ir_oI (nI 0) M := by
  have h6 := h.1.2.2.2.2.2.1
  have h900 := h.1.2.1
  rw [L_X4_readTerm_8]
  by_cases q : i < n
  · simp (disch := omega) only [q_ckt, q_lt, q_cI, q_cJ, q_cV, q_cP, q_xI, q_xV, q_xP, q_xJ, g_gk, g_ga, g_gw, g_gp, g_gq, g_P, g_J, q_I_s, q_I_n, q_I_k, nI_add, pk_sub, pk_mul, nI_clamp, n_lt0, n_0lt, n_eq0, n_lt, n_le, n_eq, n_m1, n_m2, n_m9, n_12, n_19, n_10, n_01, n_1n1, n_0n1, n_1n0, n_0n0, n_dI, n_m1lt, q_inb, n_nar, n_nar0, n_nar1, n_bool, Bool.false_eq_true, Bool.true_eq_false, if_true, if_false, ↓reduceIte, Nat.reduceAdd, Nat.reduceMul, Nat.reduceSub, Nat.reduceLT, Nat.reduceLeDiff, Nat.reduceEqDiff, Nat.reduceMod, Nat.reduceDiv, q_D h.1.1, h6, q, n_nr]
  · simp (disch := omega) only [q_ckt, q_lt, q_cI, q_cJ, q_cV, q_cP, q_xI, q_xV, q_xP, q_xJ, g_gk, g_ga, g_gw, g_gp, g_gq, g_P, g_J, q_I_s, q_I_n, q_I_k, nI_add, pk_sub, pk_mul, nI_clamp, n_lt0, n_0lt, n_eq0, n_lt, n_le, n_eq, n_m1, n_m2, n_m9, n_12, n_19, n_10, n_01, n_1n1, n_0n1, n_1n0, n_0n0, n_dI, n_m1lt, q_inb, n_nar, n_nar0, n_nar1, n_bool, Bool.false_eq_true, Bool.true_eq_false, if_true, if_false, ↓reduceIte, Nat.reduceAdd, Nat.reduceMul, Nat.reduceSub, Nat.reduceLT, Nat.reduceLeDiff, Nat.reduceEqDiff, Nat.reduceMod, Nat.reduceDiv, q_D h.1.1, h6, q, n_nr]
theorem c_Term0 (h : c_T B n L xs M0 s M) {i : Nat} (hi : i ≤ 900) (ho : k_opr 3 (k_kd B n s) = 0) : v_X4_readTerm_8 d 100 (nI dp) (nI 1) (nI i) M = ir_oI (nI 1) M := by
  obtain ⟨h6, h8, h900, h300⟩ := c_hdr h
  have n1 : ¬ k_kd B n s = 42 := fun z => by rw [z] at ho; exact absurd ho (by decide)
  rw [L_X4_readTerm_8]
  by_cases q : i < n
  · simp (disch := omega) only [q_ckt, q_lt, q_cI, q_cJ, q_cV, q_cP, q_xI, q_xV, q_xP, q_xJ, g_gk, g_ga, g_gw, g_gp, g_gq, g_P, g_J, q_I_s, q_I_n, q_I_k, nI_add, pk_sub, pk_mul, nI_clamp, n_lt0, n_0lt, n_eq0, n_lt, n_le, n_eq, n_m1, n_m2, n_m9, n_12, n_19, n_10, n_01, n_1n1, n_0n1, n_1n0, n_0n0, n_dI, n_m1lt, q_inb, n_nar, n_nar0, n_nar1, n_bool, Bool.false_eq_true, Bool.true_eq_false, if_true, if_false, ↓reduceIte, Nat.reduceAdd, Nat.reduceMul, Nat.reduceSub, Nat.reduceLT, Nat.reduceLeDiff, Nat.reduceEqDiff, Nat.reduceMod, Nat.reduceDiv, q_D h.1.1, h6, q, h8, n1, n_nr]
  · simp (disch := omega) only [q_ckt, q_lt, q_cI, q_cJ, q_cV, q_cP, q_xI, q_xV, q_xP, q_xJ, g_gk, g_ga, g_gw, g_gp, g_gq, g_P, g_J, q_I_s, q_I_n, q_I_k, nI_add, pk_sub, pk_mul, nI_clamp, n_lt0, n_0lt, n_eq0, n_lt, n_le, n_eq, n_m1, n_m2, n_m9, n_12, n_19, n_10, n_01, n_1n1, n_0n1, n_1n0, n_0n0, n_dI, n_m1lt, q_inb, n_nar, n_nar0, n_nar1, n_bool, Bool.false_eq_true, Bool.true_eq_false, if_true, if_false, ↓reduceIte, Nat.reduceAdd, Nat.reduceMul, Nat.reduceSub, Nat.reduceLT, Nat.reduceLeDiff, Nat.reduceEqDiff, Nat.reduceMod, Nat.reduceDiv, q_D h.1.1, h6, q, n_nr]
theorem c_Term1 (h : c_T B n L xs M0 s M) {i : Nat} (hi : i < n) (hd : 8 ≤ d) (ho : k_opr 3 (k_kd B n s) ≠ 0) : ∃ M1, c_T B n L xs M0 (k_nt B n s) M1 ∧ q_eq [100] M M1 ∧ ∀ r M2 M4, m_X4_readAtom d 100 (nI dp) M1 = ir_oI r M2 → q_PI M2 → m_X1_add d 104 (nI (k_cd (k_opr 3 (k_kd B n s)))) M2 = ir_oV M4 → v_X4_readTerm_8 d 100 (nI dp) (nI 1) (nI i) M = v_X4_readTerm_8 d 100 (nI dp) r (nI (i + 1)) M4 := by
  obtain ⟨h6, h8, h900, h300⟩ := c_hdr h
  have n1 : k_kd B n s = 42 := Decidable.byContradiction (fun z => ho (if_neg z))
  obtain ⟨M1, e1, t1, q1⟩ := c_next (d := d) h hd
  refine ⟨M1, t1, q1, fun r M2 M4 e2 p2 e4 => ?_⟩
  rw [n1] at e4 h8
  have e4' : m_X1_add d 104 (nI 2042) M2 = ir_oV M4 := e4
  rw [L_X4_readTerm_8]
  simp (disch := omega) only [q_ckt, q_lt, q_cI, q_cJ, q_cV, q_cP, q_xI, q_xV, q_xP, q_xJ, g_gk, g_ga, g_gw, g_gp, g_gq, g_P, g_J, q_I_s, q_I_n, q_I_k, nI_add, pk_sub, pk_mul, nI_clamp, n_lt0, n_0lt, n_eq0, n_lt, n_le, n_eq, n_m1, n_m2, n_m9, n_12, n_19, n_10, n_01, n_1n1, n_0n1, n_1n0, n_0n0, n_dI, n_m1lt, q_inb, n_nar, n_nar0, n_nar1, n_bool, Bool.false_eq_true, Bool.true_eq_false, if_true, if_false, ↓reduceIte, Nat.reduceAdd, Nat.reduceMul, Nat.reduceSub, Nat.reduceLT, Nat.reduceLeDiff, Nat.reduceEqDiff, Nat.reduceMod, Nat.reduceDiv, q_D h.1.1, h6, hi, h8, e1, q_D t1.1.1, e2, q_D p2, q_N p2, e4']
theorem w_Term {m tl : Nat} (hm : 8 ≤ m) (h900 : n ≤ 900) (htl : tl ≤ 50) (hY : w_W B n L xs m dp (tl + 1) false (fun d M => m_X4_readAtom d 100 (nI dp) M) (fun d M => m_X12_readAtom d 412 M)) : w_W B n L xs (m + 1) dp tl false (fun d M => m_X4_readTerm d 100 (nI dp) M) (fun d M => m_X12_readTerm d 412 M) := by
  refine w_seq (CL := fun d r i M => v_X4_readTerm_8 d 100 (nI dp) r i M) (RL := fun d M => v_X12_readTerm_4 d 412 M) hY (w_loop (op := k_opr 3) (by omega) h900 htl hY (fun k hk => ?_) (fun M0 M d i s hd hi h ho => c_Term0 h hi ho) (fun M0 M d i f p hi h => c_TermL h hi) (fun M0 M d i s hd hi h ho => c_Term1 h hi (by omega) ho) (fun M0 M d s hd h ho => ?_) (fun M0 M d f p hd h => r_termL h (by omega)) (fun M0 M d s hd h ho => ?_)) (fun M0 M d i f p hi h => c_TermL h hi) (fun M0 M d f p hd h => r_termL h (by omega)) (fun M d r M1 hp e1 => ?_) (fun M d M1 hp e1 => ?_)
  · have n1 : k = 42 := Decidable.byContradiction (fun z => hk (if_neg z))
    rw [n1]
    exact ⟨by decide, by decide, fun τ => rfl⟩
  · have n1 : ¬ k_kd B n s = 42 := fun z => by rw [z] at ho; exact absurd ho (by decide)
    have w := r_sign (d := d) h (c := 42) (by decide) (by omega)
    rw [if_neg n1] at w
    try dsimp only
    rw [L_X12_readTerm_4]
    simp (disch := omega) only [q_ckt, q_lt, q_cI, q_cJ, q_cV, q_cP, q_xI, q_xV, q_xP, q_xJ, g_gk, g_ga, g_gw, g_gp, g_gq, g_P, g_J, q_I_s, q_I_n, q_I_k, nI_add, pk_sub, pk_mul, nI_clamp, n_lt0, n_0lt, n_eq0, n_lt, n_le, n_eq, n_m1, n_m2, n_m9, n_12, n_19, n_10, n_01, n_1n1, n_0n1, n_1n0, n_0n0, n_dI, n_m1lt, q_inb, n_nar, n_nar0, n_nar1, n_bool, Bool.false_eq_true, Bool.true_eq_false, if_true, if_false, ↓reduceIte, Nat.reduceAdd, Nat.reduceMul, Nat.reduceSub, Nat.reduceLT, Nat.reduceLeDiff, Nat.reduceEqDiff, Nat.reduceMod, Nat.reduceDiv, q_R h.1.1, w]
  · have n1 : k_kd B n s = 42 := Decidable.byContradiction (fun z => ho (if_neg z))
    have w := r_sign (d := d) h (c := 42) (by decide) (by omega)
    rw [if_pos n1] at w
    obtain ⟨M1, e1, t1, q1⟩ := r_next (d := d) h (by omega)
    refine ⟨M1, t1, q1, fun M2 M3 e2 p2 e3 => ?_⟩
    rw [n1] at e3
    have e3' : m_X12_laysStep d 412 (nI 12) M2 = ir_oV M3 := e3
    try dsimp only at e2 ⊢
    rw [L_X12_readTerm_4]
    simp (disch := omega) only [q_ckt, q_lt, q_cI, q_cJ, q_cV, q_cP, q_xI, q_xV, q_xP, q_xJ, g_gk, g_ga, g_gw, g_gp, g_gq, g_P, g_J, q_I_s, q_I_n, q_I_k, nI_add, pk_sub, pk_mul, nI_clamp, n_lt0, n_0lt, n_eq0, n_lt, n_le, n_eq, n_m1, n_m2, n_m9, n_12, n_19, n_10, n_01, n_1n1, n_0n1, n_1n0, n_0n0, n_dI, n_m1lt, q_inb, n_nar, n_nar0, n_nar1, n_bool, Bool.false_eq_true, Bool.true_eq_false, if_true, if_false, ↓reduceIte, Nat.reduceAdd, Nat.reduceMul, Nat.reduceSub, Nat.reduceLT, Nat.reduceLeDiff, Nat.reduceEqDiff, Nat.reduceMod, Nat.reduceDiv, q_R h.1.1, w, e1, q_R t1.1.1, e2, q_R p2, e3']
  · try dsimp only at e1 ⊢
    rw [E_X4_readTerm]
    simp (disch := omega) only [q_ckt, q_lt, q_cI, q_cJ, q_cV, q_cP, q_xI, q_xV, q_xP, q_xJ, g_gk, g_ga, g_gw, g_gp, g_gq, g_P, g_J, q_I_s, q_I_n, q_I_k, nI_add, pk_sub, pk_mul, nI_clamp, n_lt0, n_0lt, n_eq0, n_lt, n_le, n_eq, n_m1, n_m2, n_m9, n_12, n_19, n_10, n_01, n_1n1, n_0n1, n_1n0, n_0n0, n_dI, n_m1lt, q_inb, n_nar, n_nar0, n_nar1, n_bool, Bool.false_eq_true, Bool.true_eq_false, if_true, if_false, ↓reduceIte, Nat.reduceAdd, Nat.reduceMul, Nat.reduceSub, Nat.reduceLT, Nat.reduceLeDiff, Nat.reduceEqDiff, Nat.reduceMod, Nat.reduceDiv, q_D hp, e1]
  · try dsimp only at e1 ⊢
    rw [E_X12_readTerm]
    simp (disch := omega) only [q_ckt, q_lt, q_cI, q_cJ, q_cV, q_cP, q_xI, q_xV, q_xP, q_xJ, g_gk, g_ga, g_gw, g_gp, g_gq, g_P, g_J, q_I_s, q_I_n, q_I_k, nI_add, pk_sub, pk_mul, nI_clamp, n_lt0, n_0lt, n_eq0, n_lt, n_le, n_eq, n_m1, n_m2, n_m9, n_12, n_19, n_10, n_01, n_1n1, n_0n1, n_1n0, n_0n0, n_dI, n_m1lt, q_inb, n_nar, n_nar0, n_nar1, n_bool, Bool.false_eq_true, Bool.true_eq_false, if_true, if_false, ↓reduceIte, Nat.reduceAdd, Nat.reduceMul, Nat.reduceSub, Nat.reduceLT, Nat.reduceLeDiff, Nat.reduceEqDiff, Nat.reduceMod, Nat.reduceDiv, q_R hp, e1]
theorem c_SumL (h : c_F B n L xs M0 f p M) {i : Nat} (hi : i ≤ 1000) : v_X4_readSum_8 d 100 (nI dp) (nI 0) (nI i) M = ir_oI (nI 0) M := by
  have h6 := h.1.2.2.2.2.2.1
  have h900 := h.1.2.1
  rw [L_X4_readSum_8]
  by_cases q : i < n
  · simp (disch := omega) only [q_ckt, q_lt, q_cI, q_cJ, q_cV, q_cP, q_xI, q_xV, q_xP, q_xJ, g_gk, g_ga, g_gw, g_gp, g_gq, g_P, g_J, q_I_s, q_I_n, q_I_k, nI_add, pk_sub, pk_mul, nI_clamp, n_lt0, n_0lt, n_eq0, n_lt, n_le, n_eq, n_m1, n_m2, n_m9, n_12, n_19, n_10, n_01, n_1n1, n_0n1, n_1n0, n_0n0, n_dI, n_m1lt, q_inb, n_nar, n_nar0, n_nar1, n_bool, Bool.false_eq_true, Bool.true_eq_false, if_true, if_false, ↓reduceIte, Nat.reduceAdd, Nat.reduceMul, Nat.reduceSub, Nat.reduceLT, Nat.reduceLeDiff, Nat.reduceEqDiff, Nat.reduceMod, Nat.reduceDiv, q_D h.1.1, h6, q, n_nr]
  · simp (disch := omega) only [q_ckt, q_lt, q_cI, q_cJ, q_cV, q_cP, q_xI, q_xV, q_xP, q_xJ, g_gk, g_ga, g_gw, g_gp, g_gq, g_P, g_J, q_I_s, q_I_n, q_I_k, nI_add, pk_sub, pk_mul, nI_clamp, n_lt0, n_0lt, n_eq0, n_lt, n_le, n_eq, n_m1, n_m2, n_m9, n_12, n_19, n_10, n_01, n_1n1, n_0n1, n_1n0, n_0n0, n_dI, n_m1lt, q_inb, n_nar, n_nar0, n_nar1, n_bool, Bool.false_eq_true, Bool.true_eq_false, if_true, if_false, ↓reduceIte, Nat.reduceAdd, Nat.reduceMul, Nat.reduceSub, Nat.reduceLT, Nat.reduceLeDiff, Nat.reduceEqDiff, Nat.reduceMod, Nat.reduceDiv, q_D h.1.1, h6, q, n_nr]
theorem c_Sum0 (h : c_T B n L xs M0 s M) {i : Nat} (hi : i ≤ 900) (ho : k_opr 2 (k_kd B n s) = 0) : v_X4_readSum_8 d 100 (nI dp) (nI 1) (nI i) M = ir_oI (nI 1) M := by
  obtain ⟨h6, h8, h900, h300⟩ := c_hdr h
  have n1 : ¬ k_kd B n s = 43 := fun z => by rw [z] at ho; exact absurd ho (by decide)
  have n2 : ¬ k_kd B n s = 45 := fun z => by rw [z] at ho; exact absurd ho (by decide)
  rw [L_X4_readSum_8]
  by_cases q : i < n
  · simp (disch := omega) only [q_ckt, q_lt, q_cI, q_cJ, q_cV, q_cP, q_xI, q_xV, q_xP, q_xJ, g_gk, g_ga, g_gw, g_gp, g_gq, g_P, g_J, q_I_s, q_I_n, q_I_k, nI_add, pk_sub, pk_mul, nI_clamp, n_lt0, n_0lt, n_eq0, n_lt, n_le, n_eq, n_m1, n_m2, n_m9, n_12, n_19, n_10, n_01, n_1n1, n_0n1, n_1n0, n_0n0, n_dI, n_m1lt, q_inb, n_nar, n_nar0, n_nar1, n_bool, Bool.false_eq_true, Bool.true_eq_false, if_true, if_false, ↓reduceIte, Nat.reduceAdd, Nat.reduceMul, Nat.reduceSub, Nat.reduceLT, Nat.reduceLeDiff, Nat.reduceEqDiff, Nat.reduceMod, Nat.reduceDiv, q_D h.1.1, h6, q, h8, n1, n2, n_nr]
  · simp (disch := omega) only [q_ckt, q_lt, q_cI, q_cJ, q_cV, q_cP, q_xI, q_xV, q_xP, q_xJ, g_gk, g_ga, g_gw, g_gp, g_gq, g_P, g_J, q_I_s, q_I_n, q_I_k, nI_add, pk_sub, pk_mul, nI_clamp, n_lt0, n_0lt, n_eq0, n_lt, n_le, n_eq, n_m1, n_m2, n_m9, n_12, n_19, n_10, n_01, n_1n1, n_0n1, n_1n0, n_0n0, n_dI, n_m1lt, q_inb, n_nar, n_nar0, n_nar1, n_bool, Bool.false_eq_true, Bool.true_eq_false, if_true, if_false, ↓reduceIte, Nat.reduceAdd, Nat.reduceMul, Nat.reduceSub, Nat.reduceLT, Nat.reduceLeDiff, Nat.reduceEqDiff, Nat.reduceMod, Nat.reduceDiv, q_D h.1.1, h6, q, n_nr]
theorem k_op2 {k : Nat} (h : k_opr 2 k ≠ 0) : k = 43 ∨ k = 45 := by
  have h : (if k = 43 then 10 else if k = 45 then 11 else 0) ≠ 0 := h
  split at h
  · next z => exact Or.inl z
  · split at h
    · next z => exact Or.inr z
    · exact absurd rfl h
theorem c_Sum1 (h : c_T B n L xs M0 s M) {i : Nat} (hi : i < n) (hd : 8 ≤ d) (ho : k_opr 2 (k_kd B n s) ≠ 0) : ∃ M1, c_T B n L xs M0 (k_nt B n s) M1 ∧ q_eq [100] M M1 ∧ ∀ r M2 M4, m_X4_readTerm d 100 (nI dp) M1 = ir_oI r M2 → q_PI M2 → m_X1_add d 104 (nI (k_cd (k_opr 2 (k_kd B n s)))) M2 = ir_oV M4 → v_X4_readSum_8 d 100 (nI dp) (nI 1) (nI i) M = v_X4_readSum_8 d 100 (nI dp) r (nI (i + 1)) M4 := by
  obtain ⟨h6, h8, h900, h300⟩ := c_hdr h
  obtain ⟨M1, e1, t1, q1⟩ := c_next (d := d) h hd
  refine ⟨M1, t1, q1, fun r M2 M4 e2 p2 e4 => ?_⟩
  rcases k_op2 ho with n1 | n1
  · rw [n1] at e4 h8
    have e4' : m_X1_add d 104 (nI 2043) M2 = ir_oV M4 := e4
    rw [L_X4_readSum_8]
    simp (disch := omega) only [q_ckt, q_lt, q_cI, q_cJ, q_cV, q_cP, q_xI, q_xV, q_xP, q_xJ, g_gk, g_ga, g_gw, g_gp, g_gq, g_P, g_J, q_I_s, q_I_n, q_I_k, nI_add, pk_sub, pk_mul, nI_clamp, n_lt0, n_0lt, n_eq0, n_lt, n_le, n_eq, n_m1, n_m2, n_m9, n_12, n_19, n_10, n_01, n_1n1, n_0n1, n_1n0, n_0n0, n_dI, n_m1lt, q_inb, n_nar, n_nar0, n_nar1, n_bool, Bool.false_eq_true, Bool.true_eq_false, if_true, if_false, ↓reduceIte, Nat.reduceAdd, Nat.reduceMul, Nat.reduceSub, Nat.reduceLT, Nat.reduceLeDiff, Nat.reduceEqDiff, Nat.reduceMod, Nat.reduceDiv, q_D h.1.1, h6, hi, h8, L_X4_readSum_38, e1, q_D t1.1.1, e2, q_D p2, q_N p2, e4']
  · rw [n1] at e4 h8
    have e4' : m_X1_add d 104 (nI 2045) M2 = ir_oV M4 := e4
    rw [L_X4_readSum_8]
    simp (disch := omega) only [q_ckt, q_lt, q_cI, q_cJ, q_cV, q_cP, q_xI, q_xV, q_xP, q_xJ, g_gk, g_ga, g_gw, g_gp, g_gq, g_P, g_J, q_I_s, q_I_n, q_I_k, nI_add, pk_sub, pk_mul, nI_clamp, n_lt0, n_0lt, n_eq0, n_lt, n_le, n_eq, n_m1, n_m2, n_m9, n_12, n_19, n_10, n_01, n_1n1, n_0n1, n_1n0, n_0n0, n_dI, n_m1lt, q_inb, n_nar, n_nar0, n_nar1, n_bool, Bool.false_eq_true, Bool.true_eq_false, if_true, if_false, ↓reduceIte, Nat.reduceAdd, Nat.reduceMul, Nat.reduceSub, Nat.reduceLT, Nat.reduceLeDiff, Nat.reduceEqDiff, Nat.reduceMod, Nat.reduceDiv, q_D h.1.1, h6, hi, h8, L_X4_readSum_38, e1, q_D t1.1.1, e2, q_D p2, q_N p2, e4']
theorem w_Sum {m tl : Nat} (hm : 8 ≤ m) (h900 : n ≤ 900) (htl : tl ≤ 50) (hY : w_W B n L xs m dp (tl + 1) false (fun d M => m_X4_readTerm d 100 (nI dp) M) (fun d M => m_X12_readTerm d 412 M)) : w_W B n L xs (m + 1) dp tl false (fun d M => m_X4_readSum d 100 (nI dp) M) (fun d M => m_X12_readSum d 412 M) := by
  refine w_seq (CL := fun d r i M => v_X4_readSum_8 d 100 (nI dp) r i M) (RL := fun d M => v_X12_readSum_4 d 412 M) hY (w_loop (op := k_opr 2) (by omega) h900 htl hY (fun k hk => ?_) (fun M0 M d i s hd hi h ho => c_Sum0 h hi ho) (fun M0 M d i f p hi h => c_SumL h hi) (fun M0 M d i s hd hi h ho => c_Sum1 h hi (by omega) ho) (fun M0 M d s hd h ho => ?_) (fun M0 M d f p hd h => r_sumL h (by omega)) (fun M0 M d s hd h ho => ?_)) (fun M0 M d i f p hi h => c_SumL h hi) (fun M0 M d f p hd h => r_sumL h (by omega)) (fun M d r M1 hp e1 => ?_) (fun M d M1 hp e1 => ?_)
  · rcases k_op2 hk with n1 | n1
    · rw [n1]
      exact ⟨by decide, by decide, fun τ => rfl⟩
    · rw [n1]
      exact ⟨by decide, by decide, fun τ => rfl⟩
  · have n1 : ¬ k_kd B n s = 43 := fun z => by rw [z] at ho; exact absurd ho (by decide)
    have n2 : ¬ k_kd B n s = 45 := fun z => by rw [z] at ho; exact absurd ho (by decide)
    have w1 := r_sign (d := d) h (c := 43) (by decide) (by omega)
    have w2 := r_sign (d := d) h (c := 45) (by decide) (by omega)
    rw [if_neg n1] at w1
    rw [if_neg n2] at w2
    try dsimp only
    rw [L_X12_readSum_4]
    simp (disch := omega) only [q_ckt, q_lt, q_cI, q_cJ, q_cV, q_cP, q_xI, q_xV, q_xP, q_xJ, g_gk, g_ga, g_gw, g_gp, g_gq, g_P, g_J, q_I_s, q_I_n, q_I_k, nI_add, pk_sub, pk_mul, nI_clamp, n_lt0, n_0lt, n_eq0, n_lt, n_le, n_eq, n_m1, n_m2, n_m9, n_12, n_19, n_10, n_01, n_1n1, n_0n1, n_1n0, n_0n0, n_dI, n_m1lt, q_inb, n_nar, n_nar0, n_nar1, n_bool, Bool.false_eq_true, Bool.true_eq_false, if_true, if_false, ↓reduceIte, Nat.reduceAdd, Nat.reduceMul, Nat.reduceSub, Nat.reduceLT, Nat.reduceLeDiff, Nat.reduceEqDiff, Nat.reduceMod, Nat.reduceDiv, q_R h.1.1, w1, w2]
  · obtain ⟨M1, e1, t1, q1⟩ := r_next (d := d) h (by omega)
    obtain ⟨r10, r300, r12⟩ := r_hdr h
    refine ⟨M1, t1, q1, fun M2 M3 e2 p2 e3 => ?_⟩
    rcases k_op2 ho with n1 | n1
    · have w1 := r_sign (d := d) h (c := 43) (by decide) (by omega)
      have w2 := r_sign (d := d) h (c := 45) (by decide) (by omega)
      rw [n1] at w1 w2 e3
      rw [if_pos (by decide)] at w1
      rw [if_neg (by decide)] at w2
      have e3' : m_X12_laysStep d 412 (nI 10) M2 = ir_oV M3 := e3
      have r10' : ir_I M 412 10 = nI 43 := by rw [r10, n1]; rfl
      try dsimp only at e2 ⊢
      rw [L_X12_readSum_4]
      simp (disch := omega) only [q_ckt, q_lt, q_cI, q_cJ, q_cV, q_cP, q_xI, q_xV, q_xP, q_xJ, g_gk, g_ga, g_gw, g_gp, g_gq, g_P, g_J, q_I_s, q_I_n, q_I_k, nI_add, pk_sub, pk_mul, nI_clamp, n_lt0, n_0lt, n_eq0, n_lt, n_le, n_eq, n_m1, n_m2, n_m9, n_12, n_19, n_10, n_01, n_1n1, n_0n1, n_1n0, n_0n0, n_dI, n_m1lt, q_inb, n_nar, n_nar0, n_nar1, n_bool, Bool.false_eq_true, Bool.true_eq_false, if_true, if_false, ↓reduceIte, Nat.reduceAdd, Nat.reduceMul, Nat.reduceSub, Nat.reduceLT, Nat.reduceLeDiff, Nat.reduceEqDiff, Nat.reduceMod, Nat.reduceDiv, q_R h.1.1, w1, L_X12_readSum_22, r10', e1, q_R t1.1.1, e2, q_R p2, e3']
    · have w1 := r_sign (d := d) h (c := 43) (by decide) (by omega)
      have w2 := r_sign (d := d) h (c := 45) (by decide) (by omega)
      rw [n1] at w1 w2 e3
      rw [if_neg (by decide)] at w1
      rw [if_pos (by decide)] at w2
      have e3' : m_X12_laysStep d 412 (nI 11) M2 = ir_oV M3 := e3
      have r10' : ir_I M 412 10 = nI 45 := by rw [r10, n1]; rfl
      try dsimp only at e2 ⊢
      rw [L_X12_readSum_4]
      simp (disch := omega) only [q_ckt, q_lt, q_cI, q_cJ, q_cV, q_cP, q_xI, q_xV, q_xP, q_xJ, g_gk, g_ga, g_gw, g_gp, g_gq, g_P, g_J, q_I_s, q_I_n, q_I_k, nI_add, pk_sub, pk_mul, nI_clamp, n_lt0, n_0lt, n_eq0, n_lt, n_le, n_eq, n_m1, n_m2, n_m9, n_12, n_19, n_10, n_01, n_1n1, n_0n1, n_1n0, n_0n0, n_dI, n_m1lt, q_inb, n_nar, n_nar0, n_nar1, n_bool, Bool.false_eq_true, Bool.true_eq_false, if_true, if_false, ↓reduceIte, Nat.reduceAdd, Nat.reduceMul, Nat.reduceSub, Nat.reduceLT, Nat.reduceLeDiff, Nat.reduceEqDiff, Nat.reduceMod, Nat.reduceDiv, q_R h.1.1, w1, w2, L_X12_readSum_22, r10', e1, q_R t1.1.1, e2, q_R p2, e3']
  · try dsimp only at e1 ⊢
    rw [E_X4_readSum]
    simp (disch := omega) only [q_ckt, q_lt, q_cI, q_cJ, q_cV, q_cP, q_xI, q_xV, q_xP, q_xJ, g_gk, g_ga, g_gw, g_gp, g_gq, g_P, g_J, q_I_s, q_I_n, q_I_k, nI_add, pk_sub, pk_mul, nI_clamp, n_lt0, n_0lt, n_eq0, n_lt, n_le, n_eq, n_m1, n_m2, n_m9, n_12, n_19, n_10, n_01, n_1n1, n_0n1, n_1n0, n_0n0, n_dI, n_m1lt, q_inb, n_nar, n_nar0, n_nar1, n_bool, Bool.false_eq_true, Bool.true_eq_false, if_true, if_false, ↓reduceIte, Nat.reduceAdd, Nat.reduceMul, Nat.reduceSub, Nat.reduceLT, Nat.reduceLeDiff, Nat.reduceEqDiff, Nat.reduceMod, Nat.reduceDiv, q_D hp, e1]
  · try dsimp only at e1 ⊢
    rw [E_X12_readSum]
    simp (disch := omega) only [q_ckt, q_lt, q_cI, q_cJ, q_cV, q_cP, q_xI, q_xV, q_xP, q_xJ, g_gk, g_ga, g_gw, g_gp, g_gq, g_P, g_J, q_I_s, q_I_n, q_I_k, nI_add, pk_sub, pk_mul, nI_clamp, n_lt0, n_0lt, n_eq0, n_lt, n_le, n_eq, n_m1, n_m2, n_m9, n_12, n_19, n_10, n_01, n_1n1, n_0n1, n_1n0, n_0n0, n_dI, n_m1lt, q_inb, n_nar, n_nar0, n_nar1, n_bool, Bool.false_eq_true, Bool.true_eq_false, if_true, if_false, ↓reduceIte, Nat.reduceAdd, Nat.reduceMul, Nat.reduceSub, Nat.reduceLT, Nat.reduceLeDiff, Nat.reduceEqDiff, Nat.reduceMod, Nat.reduceDiv, q_R hp, e1]
end WC
