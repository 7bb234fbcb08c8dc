/-! trades -/
def k_sw (K : Nat → Int32) (i : Nat) : Nat → Int32 := k_mov K i (i + 1)
def k_g1 (K : Nat → Int32) (i : Nat) : Int32 := k_fw (k_sw K i) (k_td (k_sw K i)) (i + 1) - k_fw K (k_td K) i
def k_g2 (K : Nat → Int32) (i : Nat) : Int32 := k_fw (k_sw K i) (k_td (k_sw K i)) i - k_fw K (k_td K) (i + 1)
def k_hf (K : Nat → Int32) (i : Nat) : Int32 := ir_ab (k_g1 K i - k_g2 K i) / nI 2
def k_py (K : Nat → Int32) (i : Nat) : Nat := if k_g1 K i < k_g2 K i then k_q K (i + 1) else k_q K i
def k_pd (K : Nat → Int32) (i : Nat) : Nat := if k_g1 K i < k_g2 K i then k_q K i else k_q K (i + 1)
def k_tr (K : Nat → Int32) (i : Nat) : Bool := decide (0 < k_g1 K i + k_g2 K i) && !(decide (K (26 + k_py K i) < k_hf K i))
/-- gold goes over -/
def k_pay (K : Nat → Int32) (a b : Nat) (v : Int32) : Nat → Int32 := upd (upd K (26 + a) (K (26 + a) - v)) (26 + b) (upd K (26 + a) (K (26 + a) - v) (26 + b) + v)
def k_trd (K : Nat → Int32) (i : Nat) : Nat → Int32 := k_pay (k_sw (k_kp K) i) (k_py K i) (k_pd K i) (k_hf K i)
theorem k_pay_o {K : Nat → Int32} {a b k : Nat} {v : Int32} (h1 : k ≠ 26 + a) (h2 : k ≠ 26 + b) : k_pay K a b v k = K k := (if_neg h2).trans (if_neg h1)
theorem k_pay_ok {K : Nat → Int32} (hk : k_ok K) {a b : Nat} {v : Int32} (ha : a < 8) (hb : b < 8) : k_ok (k_pay K a b v) := ⟨k_okT_cg (fun k h1 _ => k_pay_o (by omega) (by omega)) (fun k h1 => k_pay_o (by omega) (by omega)) hk.1, k_okS_cg2 (k_bds hk).2.1 (fun k h1 h2 h3 => k_pay_o (by omega) (by omega)) hk.2⟩
theorem k_sw_eq {K : Nat → Int32} (hk : k_ok K) {i : Nat} (hi : i + 1 < k_m K) (k : Nat) : k_sw K i k = if k = 10 + i + 1 then nI (k_q K i) else if k = 10 + i then nI (k_q K (i + 1)) else K k := by
  unfold k_sw
  by_cases q : 10 ≤ k ∧ k < 10 + k_m K
  · obtain ⟨x, rfl⟩ : ∃ x, k = 10 + x := ⟨k - 10, by omega⟩
    rw [k_mov_q hk (by omega) hi (by omega)]
    unfold k_sh
    by_cases q1 : x = i + 1
    · rw [if_pos q1, if_pos (by omega)]
    · rw [if_neg q1, if_neg (show ¬ 10 + x = 10 + i + 1 by omega)]
      by_cases q2 : x = i
      · rw [if_pos (by omega), if_pos (by omega), q2]
      · rw [if_neg (by omega), if_neg (by omega), if_neg (by omega)]
        exact ((k_use hk).2.2.2.2.2.1 x (by omega)).symm
  · rw [if_neg (by omega), if_neg (by omega)]
    have hb := k_bds hk
    have em := k_m_out (i := i) (show k_m K ≤ 8 by omega)
    by_cases q9 : k = 9
    · rw [q9, k_mov_9 hk (by omega), (k_use hk).2.2.2.1]
    · unfold k_mov k_inn
      rw [em, if_neg q9, if_neg (by omega), if_neg (by omega)]
      unfold k_out
      rw [if_neg q9, if_neg (by omega), if_neg (by omega)]
theorem k_tr_t {K : Nat → Int32} {i : Nat} (h : k_tr K i = true) : 0 < k_g1 K i + k_g2 K i ∧ ¬ K (26 + k_py K i) < k_hf K i := by
  unfold k_tr at h
  simp only [Bool.and_eq_true, decide_eq_true_eq, Bool.not_eq_true', decide_eq_false_iff_not] at h
  exact h
theorem k_tr_f {K : Nat → Int32} {i : Nat} (h : k_tr K i = false) (h0 : 0 < k_g1 K i + k_g2 K i) : K (26 + k_py K i) < k_hf K i := by
  unfold k_tr at h
  rw [decide_eq_true h0, Bool.true_and] at h
  simpa using h
theorem k_pyd {K : Nat → Int32} (hk : k_ok K) {i : Nat} (hi : i + 1 < k_m K) : k_py K i < k_n K ∧ k_pd K i < k_n K := by
  have h1 := k_qn hk (i := i) (by omega)
  have h2 := k_qn hk hi
  unfold k_py k_pd
  constructor <;> split <;> assumption
theorem k_trd_wf {K : Nat → Int32} (hw : k_wf K) {i : Nat} (hi : i + 1 < k_m K) : k_wf (k_trd K i) := by
  have w1 := k_kp_wf hw
  obtain ⟨kn, kg, km⟩ := k_kp_n (K := K)
  obtain ⟨ok2, m2, q2⟩ := k_mov_ok w1.1 (j := i) (i := i + 1) (by omega) (by omega)
  have hb := k_bds hw.1
  obtain ⟨p1, p2⟩ := k_pyd hw.1 hi
  refine k_wf_st w1 (fun k hk => ?_) (k_pay_ok ok2 (by omega) (by omega)).2
  unfold k_trd
  rw [k_pay_o (by omega) (by omega)]
  exact k_mov_o w1.1 (by omega) (by omega) (by omega)
section TR
variable {M : ir_M} {K : Nat → Int32} {d : Nat}
theorem n_negadd {a b : Int32} : -a + b = b - a := by rw [Int32.sub_eq_add_neg, Int32.add_comm]
theorem r_trades (h : r_rl M K) (hw : k_wf K) {i : Nat} (hi : i + 1 < k_m K) : ∃ M', m_X12_tradesAt (d + 8) 412 (nI i) M = ir_oI (if k_tr K i = true then k_g1 K i + k_g2 K i else nI 0) M' ∧ (∀ k, k < 21 → ir_I M' 412 k = ir_I M 412 k) ∧ (if k_tr K i = true then q_dr M M' ∧ r_rl M' (k_trd K i) else q_st 0 M M' ∧ M'.2 = M.2 ∧ q_dr M M') := by
  have hb := k_bds h.2.1
  have hi0 : i < k_m K := by omega
  have hq1 := k_qn h.2.1 hi0
  have hq2 := k_qn h.2.1 hi
  obtain ⟨oks, ms, qs⟩ := k_mov_ok h.2.1 (j := i) (i := i + 1) hi0 hi
  have ems : k_m (k_sw K i) = k_m K := ms
  obtain ⟨M1, e1, t1, a1, f1⟩ := r_laysToday (d := d) h
  have u1 := r_rl_eq h t1 (by decide)
  have wi := r_fellTo (d := d + 4) u1 hi0 (f1 i hi0) (k_td_gd h.2.1 hi0)
  have wj := r_fellTo (d := d + 4) u1 hi (f1 _ hi) (k_td_gd h.2.1 hi)
  obtain ⟨N, eN⟩ : ∃ N, N = ir_sI (ir_sI M1 413 (10 + i) (nI (k_q K (i + 1)))) 413 (10 + i + 1) (nI (k_q K i)) := ⟨_, rfl⟩
  have uN : r_rl N (k_sw K i) := by
    refine ⟨by rw [eN]; exact u1.1, oks, fun k => ?_⟩
    rw [eN, q_I_u, q_I_u, u1.2.2, k_sw_eq h.2.1 hi]
  obtain ⟨M2, e2, t2, a2, f2⟩ := r_laysToday (d := d) uN
  have u2 := r_rl_eq uN t2 (by decide)
  have si := r_fellTo (d := d + 4) u2 (show i < k_m (k_sw K i) by omega) (f2 i (by omega)) (k_td_gd oks (by omega))
  have sj := r_fellTo (d := d + 4) u2 (show i + 1 < k_m (k_sw K i) by omega) (f2 _ (by omega)) (k_td_gd oks (by omega))
  obtain ⟨N2, eN2⟩ : ∃ N, N = ir_sI (ir_sI M2 413 (10 + i) (nI (k_q K i))) 413 (10 + i + 1) (nI (k_q K (i + 1))) := ⟨_, rfl⟩
  have c3 : ∀ k, ir_I N2 413 k = K k := fun k => by
    rw [eN2, q_I_u, q_I_u, u2.2.2, k_sw_eq h.2.1 hi]
    by_cases q1 : k = 10 + i + 1
    · rw [if_pos q1, q1, show 10 + i + 1 = 10 + (i + 1) by omega, (k_use h.2.1).2.2.2.2.2.1 _ hi]
    · rw [if_neg q1]
      by_cases q2 : k = 10 + i
      · rw [if_pos q2, q2, (k_use h.2.1).2.2.2.2.2.1 _ hi0]
      · rw [if_neg q2, if_neg q1, if_neg q2]
  have uN2 : r_rl N2 K := ⟨by rw [eN2]; exact u2.1, h.2.1, c3⟩
  -- the whole of the first part leaves things as they were
  have qN2 : q_eq [413, 418, 419, 420] M N2 := by
    rw [eN2]
    refine ((t1.sub (by decide)).tr ?_).tr ((q_eq.sI (by decide)).tr (q_eq.sI (by decide)))
    refine q_eq.tr ?_ (t2.sub (by decide))
    rw [eN]
    exact (q_eq.sI (by decide)).tr (q_eq.sI (by decide))
  have k413 : N2.1 413 = M.1 413 := funext fun k => (c3 k).trans (h.2.2 k).symm
  have qs2 : q_eq [418, 419, 420] M N2 := ⟨fun a ha => by
    by_cases q : a = 413
    · rw [q]; exact k413
    · exact qN2.1 a (by simp only [List.mem_cons, List.not_mem_nil, or_false] at ha ⊢; omega), qN2.2⟩
  obtain ⟨N3, eN3⟩ : ∃ N, N = ir_sI (ir_sI (ir_sI N2 412 22 (nI (k_py K i))) 412 23 (nI (k_pd K i))) 412 21 (k_hf K i) := ⟨_, rfl⟩
  have s3 : q_st 0 N2 N3 := by
    rw [eN3]
    exact ((q_st_4 uN2.1 (k := 22) rfl).tr (q_st_4 (M := ir_sI N2 412 22 (nI (k_py K i))) uN2.1 (k := 23) rfl)).tr (q_st_4 (M := ir_sI (ir_sI N2 412 22 (nI (k_py K i))) 412 23 (nI (k_pd K i))) uN2.1 (k := 21) rfl)
  have m3 : N3.2 = M.2 := by rw [eN3]; exact qN2.2
  have u3 := q_st_r s3 uN2
  have f22 : ir_I N3 412 22 = nI (k_py K i) := by rw [eN3]; simp (disch := omega) only [q_ckt, q_lt, q_cI, q_cJ, q_cV, q_cP, q_xI, q_xV, q_xP, q_xJ, g_gk, g_ga, g_gw, g_gp, g_gq, g_P, g_J, q_I_s, q_I_n, q_I_k, nI_add, pk_sub, pk_mul, nI_clamp, n_lt0, n_0lt, n_eq0, n_lt, n_le, n_eq, n_m1, n_m2, n_m9, n_12, n_19, n_10, n_01, n_1n1, n_0n1, n_1n0, n_0n0, n_dI, n_m1lt, q_inb, n_nar, n_nar0, n_nar1, n_bool, Bool.false_eq_true, Bool.true_eq_false, if_true, if_false, ↓reduceIte, Nat.reduceAdd, Nat.reduceMul, Nat.reduceSub, Nat.reduceLT, Nat.reduceLeDiff, Nat.reduceEqDiff, Nat.reduceMod, Nat.reduceDiv]
  have f23 : ir_I N3 412 23 = nI (k_pd K i) := by rw [eN3]; simp (disch := omega) only [q_ckt, q_lt, q_cI, q_cJ, q_cV, q_cP, q_xI, q_xV, q_xP, q_xJ, g_gk, g_ga, g_gw, g_gp, g_gq, g_P, g_J, q_I_s, q_I_n, q_I_k, nI_add, pk_sub, pk_mul, nI_clamp, n_lt0, n_0lt, n_eq0, n_lt, n_le, n_eq, n_m1, n_m2, n_m9, n_12, n_19, n_10, n_01, n_1n1, n_0n1, n_1n0, n_0n0, n_dI, n_m1lt, q_inb, n_nar, n_nar0, n_nar1, n_bool, Bool.false_eq_true, Bool.true_eq_false, if_true, if_false, ↓reduceIte, Nat.reduceAdd, Nat.reduceMul, Nat.reduceSub, Nat.reduceLT, Nat.reduceLeDiff, Nat.reduceEqDiff, Nat.reduceMod, Nat.reduceDiv]
  have f21 : ir_I N3 412 21 = k_hf K i := by rw [eN3, q_I_s]
  have flow : ∀ k, k < 21 → ir_I N3 412 k = ir_I M 412 k := fun k hk => by
    rw [eN3, q_I_k (by omega), q_I_k (by omega), q_I_k (by omega), q_I_eq qN2 (by decide)]
  have d3 : q_dr N2 N3 := by
    rw [eN3]
    exact ((q_dr_4 rfl).tr (q_dr_4 rfl)).tr (q_dr_4 rfl)
  obtain ⟨p1, p2⟩ := k_pyd h.2.1 hi
  have E : m_X12_tradeAt (d + 7) 412 (nI i) M = ir_oI (if k_tr K i = true then k_g1 K i + k_g2 K i else nI 0) N3 := by
    rw [E_X12_tradeAt]
    simp (disch := omega) only [q_ckt, q_lt, q_cI, q_cJ, q_cV, q_cP, q_xI, q_xV, q_xP, q_xJ, g_gk, g_ga, g_gw, g_gp, g_gq, g_P, g_J, q_I_s, q_I_n, q_I_k, nI_add, pk_sub, pk_mul, nI_clamp, n_lt0, n_0lt, n_eq0, n_lt, n_le, n_eq, n_m1, n_m2, n_m9, n_12, n_19, n_10, n_01, n_1n1, n_0n1, n_1n0, n_0n0, n_dI, n_m1lt, q_inb, n_nar, n_nar0, n_nar1, n_bool, Bool.false_eq_true, Bool.true_eq_false, if_true, if_false, ↓reduceIte, Nat.reduceAdd, Nat.reduceMul, Nat.reduceSub, Nat.reduceLT, Nat.reduceLeDiff, Nat.reduceEqDiff, Nat.reduceMod, Nat.reduceDiv, q_R h.1, r_wh h hi0, r_wh h hi, e1, q_R u1.1, wi, wj]
    rw [← eN]
    simp (disch := omega) only [q_ckt, q_lt, q_cI, q_cJ, q_cV, q_cP, q_xI, q_xV, q_xP, q_xJ, g_gk, g_ga, g_gw, g_gp, g_gq, g_P, g_J, q_I_s, q_I_n, q_I_k, nI_add, pk_sub, pk_mul, nI_clamp, n_lt0, n_0lt, n_eq0, n_lt, n_le, n_eq, n_m1, n_m2, n_m9, n_12, n_19, n_10, n_01, n_1n1, n_0n1, n_1n0, n_0n0, n_dI, n_m1lt, q_inb, n_nar, n_nar0, n_nar1, n_bool, Bool.false_eq_true, Bool.true_eq_false, if_true, if_false, ↓reduceIte, Nat.reduceAdd, Nat.reduceMul, Nat.reduceSub, Nat.reduceLT, Nat.reduceLeDiff, Nat.reduceEqDiff, Nat.reduceMod, Nat.reduceDiv, e2, q_R uN.1, q_R u2.1, si, sj]
    rw [← eN2]
    simp only [n_negadd]
    rw [show k_fw (k_sw K i) (k_td (k_sw K i)) (i + 1) - k_fw K (k_td K) i = k_g1 K i from rfl, show k_fw (k_sw K i) (k_td (k_sw K i)) i - k_fw K (k_td K) (i + 1) = k_g2 K i from rfl]
    have step : ∀ a b : Nat, a = k_py K i → b = k_pd K i → v_X12_tradeAt_135 (d + 6) 412 (k_g1 K i) (k_g2 K i) 412 (nI b) (ir_sI N2 412 22 (nI a)) = ir_oI (if k_tr K i = true then k_g1 K i + k_g2 K i else nI 0) N3 := fun a b ha hb' => by
      rw [ha, hb', L_X12_tradeAt_135]
      simp (disch := omega) only [q_ckt, q_lt, q_cI, q_cJ, q_cV, q_cP, q_xI, q_xV, q_xP, q_xJ, g_gk, g_ga, g_gw, g_gp, g_gq, g_P, g_J, q_I_s, q_I_n, q_I_k, nI_add, pk_sub, pk_mul, nI_clamp, n_lt0, n_0lt, n_eq0, n_lt, n_le, n_eq, n_m1, n_m2, n_m9, n_12, n_19, n_10, n_01, n_1n1, n_0n1, n_1n0, n_0n0, n_dI, n_m1lt, q_inb, n_nar, n_nar0, n_nar1, n_bool, Bool.false_eq_true, Bool.true_eq_false, if_true, if_false, ↓reduceIte, Nat.reduceAdd, Nat.reduceMul, Nat.reduceSub, Nat.reduceLT, Nat.reduceLeDiff, Nat.reduceEqDiff, Nat.reduceMod, Nat.reduceDiv, q_R uN2.1]
      rw [show ir_ab (k_g1 K i - k_g2 K i) / nI 2 = k_hf K i from rfl, ← eN3]
      by_cases h0 : 0 < k_g1 K i + k_g2 K i
      · rw [if_pos h0]
        cases e : k_tr K i
        · have := k_tr_f e h0
          simp (disch := omega) only [q_ckt, q_lt, q_cI, q_cJ, q_cV, q_cP, q_xI, q_xV, q_xP, q_xJ, g_gk, g_ga, g_gw, g_gp, g_gq, g_P, g_J, q_I_s, q_I_n, q_I_k, nI_add, pk_sub, pk_mul, nI_clamp, n_lt0, n_0lt, n_eq0, n_lt, n_le, n_eq, n_m1, n_m2, n_m9, n_12, n_19, n_10, n_01, n_1n1, n_0n1, n_1n0, n_0n0, n_dI, n_m1lt, q_inb, n_nar, n_nar0, n_nar1, n_bool, Bool.false_eq_true, Bool.true_eq_false, if_true, if_false, ↓reduceIte, Nat.reduceAdd, Nat.reduceMul, Nat.reduceSub, Nat.reduceLT, Nat.reduceLeDiff, Nat.reduceEqDiff, Nat.reduceMod, Nat.reduceDiv, q_R u3.1, f22, f21, u3.2.2, c3, this]
        · have := (k_tr_t e).2
          simp (disch := omega) only [q_ckt, q_lt, q_cI, q_cJ, q_cV, q_cP, q_xI, q_xV, q_xP, q_xJ, g_gk, g_ga, g_gw, g_gp, g_gq, g_P, g_J, q_I_s, q_I_n, q_I_k, nI_add, pk_sub, pk_mul, nI_clamp, n_lt0, n_0lt, n_eq0, n_lt, n_le, n_eq, n_m1, n_m2, n_m9, n_12, n_19, n_10, n_01, n_1n1, n_0n1, n_1n0, n_0n0, n_dI, n_m1lt, q_inb, n_nar, n_nar0, n_nar1, n_bool, Bool.false_eq_true, Bool.true_eq_false, if_true, if_false, ↓reduceIte, Nat.reduceAdd, Nat.reduceMul, Nat.reduceSub, Nat.reduceLT, Nat.reduceLeDiff, Nat.reduceEqDiff, Nat.reduceMod, Nat.reduceDiv, q_R u3.1, f22, f21, u3.2.2, c3, this]
      · rw [if_neg h0]
        have e : k_tr K i = false := by
          unfold k_tr
          rw [decide_eq_false h0]
          rfl
        simp (disch := omega) only [q_ckt, q_lt, q_cI, q_cJ, q_cV, q_cP, q_xI, q_xV, q_xP, q_xJ, g_gk, g_ga, g_gw, g_gp, g_gq, g_P, g_J, q_I_s, q_I_n, q_I_k, nI_add, pk_sub, pk_mul, nI_clamp, n_lt0, n_0lt, n_eq0, n_lt, n_le, n_eq, n_m1, n_m2, n_m9, n_12, n_19, n_10, n_01, n_1n1, n_0n1, n_1n0, n_0n0, n_dI, n_m1lt, q_inb, n_nar, n_nar0, n_nar1, n_bool, Bool.false_eq_true, Bool.true_eq_false, if_true, if_false, ↓reduceIte, Nat.reduceAdd, Nat.reduceMul, Nat.reduceSub, Nat.reduceLT, Nat.reduceLeDiff, Nat.reduceEqDiff, Nat.reduceMod, Nat.reduceDiv, e]
    by_cases hlt : k_g1 K i < k_g2 K i
    · simp (disch := omega) only [q_ckt, q_lt, q_cI, q_cJ, q_cV, q_cP, q_xI, q_xV, q_xP, q_xJ, g_gk, g_ga, g_gw, g_gp, g_gq, g_P, g_J, q_I_s, q_I_n, q_I_k, nI_add, pk_sub, pk_mul, nI_clamp, n_lt0, n_0lt, n_eq0, n_lt, n_le, n_eq, n_m1, n_m2, n_m9, n_12, n_19, n_10, n_01, n_1n1, n_0n1, n_1n0, n_0n0, n_dI, n_m1lt, q_inb, n_nar, n_nar0, n_nar1, n_bool, Bool.false_eq_true, Bool.true_eq_false, if_true, if_false, ↓reduceIte, Nat.reduceAdd, Nat.reduceMul, Nat.reduceSub, Nat.reduceLT, Nat.reduceLeDiff, Nat.reduceEqDiff, Nat.reduceMod, Nat.reduceDiv, hlt]
      rw [L_X12_tradeAt_119]
      simp (disch := omega) only [q_ckt, q_lt, q_cI, q_cJ, q_cV, q_cP, q_xI, q_xV, q_xP, q_xJ, g_gk, g_ga, g_gw, g_gp, g_gq, g_P, g_J, q_I_s, q_I_n, q_I_k, nI_add, pk_sub, pk_mul, nI_clamp, n_lt0, n_0lt, n_eq0, n_lt, n_le, n_eq, n_m1, n_m2, n_m9, n_12, n_19, n_10, n_01, n_1n1, n_0n1, n_1n0, n_0n0, n_dI, n_m1lt, q_inb, n_nar, n_nar0, n_nar1, n_bool, Bool.false_eq_true, Bool.true_eq_false, if_true, if_false, ↓reduceIte, Nat.reduceAdd, Nat.reduceMul, Nat.reduceSub, Nat.reduceLT, Nat.reduceLeDiff, Nat.reduceEqDiff, Nat.reduceMod, Nat.reduceDiv, q_R uN2.1, hlt]
      exact step _ _ (by unfold k_py; rw [if_pos hlt]) (by unfold k_pd; rw [if_pos hlt])
    · simp (disch := omega) only [q_ckt, q_lt, q_cI, q_cJ, q_cV, q_cP, q_xI, q_xV, q_xP, q_xJ, g_gk, g_ga, g_gw, g_gp, g_gq, g_P, g_J, q_I_s, q_I_n, q_I_k, nI_add, pk_sub, pk_mul, nI_clamp, n_lt0, n_0lt, n_eq0, n_lt, n_le, n_eq, n_m1, n_m2, n_m9, n_12, n_19, n_10, n_01, n_1n1, n_0n1, n_1n0, n_0n0, n_dI, n_m1lt, q_inb, n_nar, n_nar0, n_nar1, n_bool, Bool.false_eq_true, Bool.true_eq_false, if_true, if_false, ↓reduceIte, Nat.reduceAdd, Nat.reduceMul, Nat.reduceSub, Nat.reduceLT, Nat.reduceLeDiff, Nat.reduceEqDiff, Nat.reduceMod, Nat.reduceDiv, hlt]
      rw [L_X12_tradeAt_119]
      simp (disch := omega) only [q_ckt, q_lt, q_cI, q_cJ, q_cV, q_cP, q_xI, q_xV, q_xP, q_xJ, g_gk, g_ga, g_gw, g_gp, g_gq, g_P, g_J, q_I_s, q_I_n, q_I_k, nI_add, pk_sub, pk_mul, nI_clamp, n_lt0, n_0lt, n_eq0, n_lt, n_le, n_eq, n_m1, n_m2, n_m9, n_12, n_19, n_10, n_01, n_1n1, n_0n1, n_1n0, n_0n0, n_dI, n_m1lt, q_inb, n_nar, n_nar0, n_nar1, n_bool, Bool.false_eq_true, Bool.true_eq_false, if_true, if_false, ↓reduceIte, Nat.reduceAdd, Nat.reduceMul, Nat.reduceSub, Nat.reduceLT, Nat.reduceLeDiff, Nat.reduceEqDiff, Nat.reduceMod, Nat.reduceDiv, q_R uN2.1, hlt]
      exact step _ _ (by unfold k_py; rw [if_neg hlt]) (by unfold k_pd; rw [if_neg hlt])
  cases e : k_tr K i
  · refine ⟨N3, ?_, flow, ?_⟩
    · rw [E_X12_tradesAt]
      simp (disch := omega) only [q_ckt, q_lt, q_cI, q_cJ, q_cV, q_cP, q_xI, q_xV, q_xP, q_xJ, g_gk, g_ga, g_gw, g_gp, g_gq, g_P, g_J, q_I_s, q_I_n, q_I_k, nI_add, pk_sub, pk_mul, nI_clamp, n_lt0, n_0lt, n_eq0, n_lt, n_le, n_eq, n_m1, n_m2, n_m9, n_12, n_19, n_10, n_01, n_1n1, n_0n1, n_1n0, n_0n0, n_dI, n_m1lt, q_inb, n_nar, n_nar0, n_nar1, n_bool, Bool.false_eq_true, Bool.true_eq_false, if_true, if_false, ↓reduceIte, Nat.reduceAdd, Nat.reduceMul, Nat.reduceSub, Nat.reduceLT, Nat.reduceLeDiff, Nat.reduceEqDiff, Nat.reduceMod, Nat.reduceDiv, q_R h.1, E, e]
    · rw [if_neg (by decide)]
      exact ⟨(q_st_eq h.1 qs2 (by decide)).tr s3, m3, (q_dr_eq qs2 (by decide)).tr d3⟩
  · have hpos := (k_tr_t e).1
    have hne : ¬ k_g1 K i + k_g2 K i = 0 := fun w => by
      rw [w] at hpos
      exact absurd hpos (by decide +kernel)
    have w1 := k_kp_wf hw
    obtain ⟨kn, kg, km⟩ := k_kp_n (K := K)
    obtain ⟨O1, g1, v1, u4⟩ := d_kp (d := d + 6) u3 hw
    have r5 := r_wh (d := d + 6) u4 (i := i) (by omega)
    have r7 := r_wh (d := d + 6) u4 (i := i + 1) (by omega)
    have kq : ∀ x, x < k_m K → k_q (k_kp K) x = k_q K x := fun x hx => by unfold k_q; rw [k_kp_o (by omega)]
    obtain ⟨O2, eO2⟩ : ∃ N, N = ir_sI (ir_sI O1 413 (10 + i) (nI (k_q (k_kp K) (i + 1)))) 413 (10 + i + 1) (nI (k_q (k_kp K) i)) := ⟨_, rfl⟩
    have cO2 : ∀ k, ir_I O2 413 k = k_sw (k_kp K) i k := fun k => by
      rw [eO2, q_I_u, q_I_u, u4.2.2, k_sw_eq w1.1 (by omega)]
    have pO2 : q_PI O2 := by rw [eO2]; exact u4.1
    have O21 : ir_I O2 412 21 = k_hf K i := by rw [eO2, q_I_n (by decide), q_I_n (by decide), q_I_eq v1 (by decide), f21]
    have O22 : ir_I O2 412 22 = nI (k_py K i) := by rw [eO2, q_I_n (by decide), q_I_n (by decide), q_I_eq v1 (by decide), f22]
    have O23 : ir_I O2 412 23 = nI (k_pd K i) := by rw [eO2, q_I_n (by decide), q_I_n (by decide), q_I_eq v1 (by decide), f23]
    obtain ⟨O3, eO3⟩ : ∃ N, N = ir_sI O2 413 (26 + k_py K i) (k_sw (k_kp K) i (26 + k_py K i) - k_hf K i) := ⟨_, rfl⟩
    have cO3 : ∀ k, ir_I O3 413 k = upd (k_sw (k_kp K) i) (26 + k_py K i) (k_sw (k_kp K) i (26 + k_py K i) - k_hf K i) k := fun k => by
      rw [eO3, q_I_u, cO2]
      rfl
    have O31 : ir_I O3 412 21 = k_hf K i := by rw [eO3, q_I_n (by decide), O21]
    have O33 : ir_I O3 412 23 = nI (k_pd K i) := by rw [eO3, q_I_n (by decide), O23]
    have pO3 : q_PI O3 := by rw [eO3]; exact pO2
    have qO : q_eq [413] N3 (ir_sI O3 413 (26 + k_pd K i) (upd (k_sw (k_kp K) i) (26 + k_py K i) (k_sw (k_kp K) i (26 + k_py K i) - k_hf K i) (26 + k_pd K i) + k_hf K i)) := by
      refine q_eq.tr ?_ (q_eq.sI (by decide))
      rw [eO3]
      refine q_eq.tr ?_ (q_eq.sI (by decide))
      rw [eO2]
      exact v1.tr ((q_eq.sI (by decide)).tr (q_eq.sI (by decide)))
    refine ⟨ir_sI O3 413 (26 + k_pd K i) (upd (k_sw (k_kp K) i) (26 + k_py K i) (k_sw (k_kp K) i (26 + k_py K i) - k_hf K i) (26 + k_pd K i) + k_hf K i), ?_, fun k hk => ?_, ?_⟩
    · rw [E_X12_tradesAt]
      simp (disch := omega) only [q_ckt, q_lt, q_cI, q_cJ, q_cV, q_cP, q_xI, q_xV, q_xP, q_xJ, g_gk, g_ga, g_gw, g_gp, g_gq, g_P, g_J, q_I_s, q_I_n, q_I_k, nI_add, pk_sub, pk_mul, nI_clamp, n_lt0, n_0lt, n_eq0, n_lt, n_le, n_eq, n_m1, n_m2, n_m9, n_12, n_19, n_10, n_01, n_1n1, n_0n1, n_1n0, n_0n0, n_dI, n_m1lt, q_inb, n_nar, n_nar0, n_nar1, n_bool, Bool.false_eq_true, Bool.true_eq_false, if_true, if_false, ↓reduceIte, Nat.reduceAdd, Nat.reduceMul, Nat.reduceSub, Nat.reduceLT, Nat.reduceLeDiff, Nat.reduceEqDiff, Nat.reduceMod, Nat.reduceDiv, q_R h.1, E, e, hne, q_R u3.1, g1, q_R u4.1, r5, r7]
      rw [← eO2]
      have o21 : ir_I O1 412 21 = k_hf K i := by rw [q_I_eq v1 (by decide), f21]
      have o22 : ir_I O1 412 22 = nI (k_py K i) := by rw [q_I_eq v1 (by decide), f22]
      have o23 : ir_I O1 412 23 = nI (k_pd K i) := by rw [q_I_eq v1 (by decide), f23]
      simp (disch := omega) only [q_ckt, q_lt, q_cI, q_cJ, q_cV, q_cP, q_xI, q_xV, q_xP, q_xJ, g_gk, g_ga, g_gw, g_gp, g_gq, g_P, g_J, q_I_s, q_I_n, q_I_k, nI_add, pk_sub, pk_mul, nI_clamp, n_lt0, n_0lt, n_eq0, n_lt, n_le, n_eq, n_m1, n_m2, n_m9, n_12, n_19, n_10, n_01, n_1n1, n_0n1, n_1n0, n_0n0, n_dI, n_m1lt, q_inb, n_nar, n_nar0, n_nar1, n_bool, Bool.false_eq_true, Bool.true_eq_false, if_true, if_false, ↓reduceIte, Nat.reduceAdd, Nat.reduceMul, Nat.reduceSub, Nat.reduceLT, Nat.reduceLeDiff, Nat.reduceEqDiff, Nat.reduceMod, Nat.reduceDiv, q_R pO2, o21, o22, o23, O22, O21, cO2]
      rw [← eO3]
      simp (disch := omega) only [q_ckt, q_lt, q_cI, q_cJ, q_cV, q_cP, q_xI, q_xV, q_xP, q_xJ, g_gk, g_ga, g_gw, g_gp, g_gq, g_P, g_J, q_I_s, q_I_n, q_I_k, nI_add, pk_sub, pk_mul, nI_clamp, n_lt0, n_0lt, n_eq0, n_lt, n_le, n_eq, n_m1, n_m2, n_m9, n_12, n_19, n_10, n_01, n_1n1, n_0n1, n_1n0, n_0n0, n_dI, n_m1lt, q_inb, n_nar, n_nar0, n_nar1, n_bool, Bool.false_eq_true, Bool.true_eq_false, if_true, if_false, ↓reduceIte, Nat.reduceAdd, Nat.reduceMul, Nat.reduceSub, Nat.reduceLT, Nat.reduceLeDiff, Nat.reduceEqDiff, Nat.reduceMod, Nat.reduceDiv, q_R pO3, O33, O31, cO3]
    · rw [q_I_eq qO (by decide)]
      exact flow k hk
    · rw [if_pos rfl]
      refine ⟨?_, q_PI_eq qO u3.1, (k_trd_wf hw hi).1, fun k => ?_⟩
      · exact (q_dr_eq qs2 (by decide)).tr (d3.tr (q_dr_eq qO (by decide)))
      · rw [q_I_u, cO3]
        rfl
end TR
section TC
variable {M : ir_M} {K : Nat → Int32} {d s : Nat}
/-- trial is laid as state -/
theorem c_trial (h : c_rl M 12 K) : ∃ M', m_X8_take (d + 1) 91 12 M = ir_oV M' ∧ q_eq [91, 92, 93, 94, 95, 96] M M' ∧ c_rl M' 12 K ∧ c_rl M' 91 K := by
  have hb := k_bds h.2.2.1
  have hr : ir_I M 12 2 = 0 ∨ ir_I M 12 2 = 1 := by
    rw [(c_use h).2.2.2.2.2.2.2.1]
    exact h.2.2.1.2.2.2.2.2.2.2.2.1
  obtain ⟨M1, e1, q1, f0, f1⟩ := c_take (d := d) h.1 (a := 91) (b := 12) (by decide) (by decide) (by decide) hr
  have c1 : c_rl M1 12 K := q_st_c (q_st_eq h.1 q1 (by decide)) h
  exact ⟨M1, e1, q1, c1, c1.1, by decide, h.2.2.1, c1.2.2.2.1, c_st_take (by omega) (by omega) (by omega) h.2.2.2.2 f0 f1⟩
theorem c_tsh (h : c_rl M 91 K) {j i : Nat} (hj : j < k_m K) (hi : i < k_m K) : ∃ M', m_X8_shift (d + 1) 91 (nI j) (nI i) M = ir_oV M' ∧ q_eq [92] M M' ∧ c_rl M' 91 (k_mov K j i) := by
  obtain ⟨M1, e1, q1, f1⟩ := c_shift (d := d) h hj hi
  have st := c_st_shift h hj hi q1 f1
  exact ⟨M1, e1, q1, c_rl_st h q1 (by decide) (fun k hk => k_mov_o h.2.2.1 hj hi (by omega)) (k_mov_ok h.2.2.1 hj hi).1.2 st⟩
theorem c_pay (h : c_rl M s K) {a b : Nat} {v : Int32} (ha : a < k_n K) (hb : b < k_n K) : ∃ M', m_X8_pay (d + 1) s (nI a) (nI b) v M = ir_oV M' ∧ q_eq [s + 3] M M' ∧ c_st M' s (k_pay K a b v) := by
  have hbd := k_bds h.2.2.1
  have hu := c_use h
  have g := hu.2.2.2.2.2.2.2.2.2.2.2.1
  have ga := g a ha
  have rb : ir_I (ir_sI M (s + 3) a (K (26 + a) - v)) (s + 3) b = upd K (26 + a) (K (26 + a) - v) (26 + b) := by
    rw [q_I_u]
    show _ = if 26 + b = 26 + a then _ else _
    by_cases q : b = a
    · rw [if_pos q, if_pos (by omega)]
    · rw [if_neg q, if_neg (by omega), g b hb]
  have fr : ∀ x, x ≠ s + 3 → (ir_sI (ir_sI M (s + 3) a (K (26 + a) - v)) (s + 3) b (upd K (26 + a) (K (26 + a) - v) (26 + b) + v)).1 x = M.1 x := fun x hx => (if_neg hx).trans (if_neg hx)
  have kn : k_n (k_pay K a b v) = k_n K := by unfold k_n; rw [k_pay_o (by omega) (by omega)]
  have kw : k_w (k_pay K a b v) = k_w K := by unfold k_w; rw [k_pay_o (by omega) (by omega)]
  have km : k_m (k_pay K a b v) = k_m K := by unfold k_m; rw [k_pay_o (by omega) (by omega)]
  obtain ⟨b0, b1, b2, b3, b4, b5, b6, b7, b8⟩ := h.2.2.2.2
  refine ⟨ir_sI (ir_sI M (s + 3) a (K (26 + a) - v)) (s + 3) b (upd K (26 + a) (K (26 + a) - v) (26 + b) + v), ?_, (q_eq.sI (by simp)).tr (q_eq.sI (by simp)), ?_⟩
  · rw [E_X8_pay]
    simp (disch := omega) only [q_ckt, q_lt, q_cI, q_cJ, q_cV, q_cP, q_xI, q_xV, q_xP, q_xJ, g_gk, g_ga, g_gw, g_gp, g_gq, g_P, g_J, q_I_s, q_I_n, q_I_k, nI_add, pk_sub, pk_mul, nI_clamp, n_lt0, n_0lt, n_eq0, n_lt, n_le, n_eq, n_m1, n_m2, n_m9, n_12, n_19, n_10, n_01, n_1n1, n_0n1, n_1n0, n_0n0, n_dI, n_m1lt, q_inb, n_nar, n_nar0, n_nar1, n_bool, Bool.false_eq_true, Bool.true_eq_false, if_true, if_false, ↓reduceIte, Nat.reduceAdd, Nat.reduceMul, Nat.reduceSub, Nat.reduceLT, Nat.reduceLeDiff, Nat.reduceEqDiff, Nat.reduceMod, Nat.reduceDiv, q_S h.1 h.2.1, ga, rb]
  · unfold c_st
    rw [kn, kw, km, k_pay_o (by omega) (by omega), k_pay_o (by omega) (by omega), k_pay_o (by omega) (by omega), k_pay_o (by omega) (by omega)]
    refine ⟨(congrFun (fr s (by omega)) 0).trans b0, (congrFun (fr s (by omega)) 1).trans b1, (congrFun (fr s (by omega)) 2).trans b2, (congrFun (fr s (by omega)) 3).trans b3, fun i hi => ?_, fun p hp => ?_, fun p hp => ?_, fun p hp => ?_, fun i hi => ?_⟩
    · rw [k_pay_o (by omega) (by omega)]
      exact (congrFun (fr _ (by omega)) i).trans (b4 i hi)
    · rw [k_pay_o (by omega) (by omega)]
      exact (congrFun (fr _ (by omega)) p).trans (b5 p hp)
    · rw [q_I_u, q_I_u]
      show _ = if 26 + p = 26 + b then _ else if 26 + p = 26 + a then _ else _
      by_cases q : p = b
      · rw [if_pos q, if_pos (show 26 + p = 26 + b by omega)]
      · rw [if_neg q, if_neg (show ¬ 26 + p = 26 + b by omega)]
        by_cases q2 : p = a
        · rw [if_pos q2, if_pos (show 26 + p = 26 + a by omega)]
        · rw [if_neg q2, if_neg (show ¬ 26 + p = 26 + a by omega)]
          exact b6 p hp
    · rw [k_pay_o (by omega) (by omega)]
      exact (congrFun (fr _ (by omega)) p).trans (b7 p hp)
    · rw [k_pay_o (by omega) (by omega)]
      exact (congrFun (fr _ (by omega)) i).trans (b8 i hi)
theorem c_tradeAt (hp : q_PI M) (hw : k_wf K) (hs : c_sc M 3 K) {i : Nat} (hi : i + 1 < k_m K) : ∃ M', m_X11_tradeAt (d + 6) 1 (nI i) M = ir_oI (if k_tr K i = true then k_g1 K i + k_g2 K i else nI 0) M' ∧ (if k_tr K i = true then q_dc M M' ∧ ir_I M' 121 0 = 0 ∧ c_sc M' 3 (k_trd K i) else q_eq [91, 92, 93, 94, 95, 96, 9, 117, 118, 120] M M') := by
  have hc := c_sc_rl hp hw.1 hs
  have hb := k_bds hw.1
  have hi0 : i < k_m K := by omega
  obtain ⟨oks, ms, qs⟩ := k_mov_ok hw.1 (j := i) (i := i + 1) hi0 hi
  have ems : k_m (k_mov K i (i + 1)) = k_m K := ms
  have hu := c_use hc
  have a1 := hu.2.2.2.2.2.2.2.2.2.1 i hi0
  have a2 := hu.2.2.2.2.2.2.2.2.2.1 (i + 1) hi
  obtain ⟨M1, e1, t1, b1, f1⟩ := c_run (d := d) hc
  have c1 := c_rl_eq hc t1 (by decide)
  have w1 := c_wa (d := d + 3) c1 hi0 (f1 i hi0) (k_td_gd hw.1 hi0)
  have w2 := c_wa (d := d + 3) c1 hi (f1 _ hi) (k_td_gd hw.1 hi)
  obtain ⟨M2, e2, t2, c2, r2⟩ := c_trial (d := d + 4) c1
  obtain ⟨M3, e3, t3, r3⟩ := c_tsh (d := d + 4) r2 hi0 hi
  have c3 : c_rl M3 12 K := q_st_c (q_st_eq c2.1 t3 (by decide)) c2
  obtain ⟨M4, e4, t4, b4, f4⟩ := c_run (d := d) r3
  have r4 := c_rl_eq r3 t4 (by decide)
  have c4 := c_rl_eq c3 t4 (by decide)
  have v1 := c_wa (d := d + 3) r4 (show i + 1 < k_m (k_mov K i (i + 1)) by omega) (f4 _ (by omega)) (k_td_gd oks (by omega))
  have v2 := c_wa (d := d + 3) r4 (show i < k_m (k_mov K i (i + 1)) by omega) (f4 _ (by omega)) (k_td_gd oks (by omega))
  have qq : q_eq [91, 92, 93, 94, 95, 96, 9, 117, 118, 120] M M4 := (((t1.sub (by decide)).tr (t2.sub (by decide))).tr (t3.sub (by decide))).tr (t4.sub (by decide))
  have s4 : c_sc M4 3 K := c_sc_fr (fun j hj h6 => qq.1 _ (by simp only [List.mem_cons, List.not_mem_nil, or_false]; omega)) hs
  obtain ⟨p1, p2⟩ := k_pyd hw.1 hi
  have gpy := (c_use c4).2.2.2.2.2.2.2.2.2.2.2.1 (k_py K i) p1
  have w1' := k_kp_wf hw
  obtain ⟨kn, kg, km⟩ := k_kp_n (K := K)
  have fin : ∃ M', v_X11_tradeAt_192 (d + 5) 1 (nI i) (k_g1 K i) (k_g2 K i) (nI (k_py K i)) (nI (k_pd K i)) M4 = ir_oI (if k_tr K i = true then k_g1 K i + k_g2 K i else nI 0) M' ∧ (if k_tr K i = true then q_dc M4 M' ∧ ir_I M' 121 0 = 0 ∧ c_sc M' 3 (k_trd K i) else M' = M4) := by
    by_cases h0 : 0 < k_g1 K i + k_g2 K i
    · cases e : k_tr K i
      · have hg := k_tr_f e h0
        refine ⟨M4, ?_, by rw [if_neg (by decide)]⟩
        rw [L_X11_tradeAt_192, if_pos h0]
        rw [show ir_ab (k_g1 K i - k_g2 K i) / nI 2 = k_hf K i from rfl]
        simp (disch := omega) only [q_ckt, q_lt, q_cI, q_cJ, q_cV, q_cP, q_xI, q_xV, q_xP, q_xJ, g_gk, g_ga, g_gw, g_gp, g_gq, g_P, g_J, q_I_s, q_I_n, q_I_k, nI_add, pk_sub, pk_mul, nI_clamp, n_lt0, n_0lt, n_eq0, n_lt, n_le, n_eq, n_m1, n_m2, n_m9, n_12, n_19, n_10, n_01, n_1n1, n_0n1, n_1n0, n_0n0, n_dI, n_m1lt, q_inb, n_nar, n_nar0, n_nar1, n_bool, Bool.false_eq_true, Bool.true_eq_false, if_true, if_false, ↓reduceIte, Nat.reduceAdd, Nat.reduceMul, Nat.reduceSub, Nat.reduceLT, Nat.reduceLeDiff, Nat.reduceEqDiff, Nat.reduceMod, Nat.reduceDiv, q_W c4.1, q_S c4.1 c4.2.1, gpy, hg]
      · have hg := (k_tr_t e).2
        obtain ⟨M5, e5, d5, z5, s5⟩ := c_keepDeed (d := d + 2) c4.1 hw s4
        have p5 := d5.p c4.1
        have c5 := c_sc_rl p5 w1'.1 s5
        have hi1 : i < k_m (k_kp K) := by omega
        have hi2 : i + 1 < k_m (k_kp K) := by omega
        obtain ⟨ok6, m6, q6⟩ := k_mov_ok w1'.1 hi1 hi2
        have o6 : ∀ k, ¬ (9 ≤ k ∧ k < 53) → k_mov (k_kp K) i (i + 1) k = k_kp K k := fun k hk => k_mov_o w1'.1 hi1 hi2 (by omega)
        have w6 := k_wf_st w1' o6 ok6.2
        obtain ⟨M6, e6, t6, f6⟩ := c_shift (d := d + 4) c5 hi1 hi2
        have st6 := c_st_shift c5 hi1 hi2 t6 f6
        have p6 := q_PI_eq t6 p5
        have s6 : c_sc M6 3 (k_mov (k_kp K) i (i + 1)) := c_sc_st w1' s5 o6 (fun a h1 h2 h3 h4 => t6.1 a (by simp only [List.mem_cons, List.not_mem_nil, or_false]; omega)) st6
        have c6 := c_sc_rl p6 ok6 s6
        have n6 : k_n (k_mov (k_kp K) i (i + 1)) = k_n K := by unfold k_n; rw [o6 _ (by omega), k_kp_o (by omega)]
        obtain ⟨M7, e7, t7, st7⟩ := c_pay (d := d + 4) (v := k_hf K i) c6 (show k_py K i < k_n (k_mov (k_kp K) i (i + 1)) by omega) (show k_pd K i < k_n (k_mov (k_kp K) i (i + 1)) by omega)
        refine ⟨M7, ?_, ?_⟩
        · rw [L_X11_tradeAt_192, if_pos h0]
          rw [show ir_ab (k_g1 K i - k_g2 K i) / nI 2 = k_hf K i from rfl]
          simp (disch := omega) only [q_ckt, q_lt, q_cI, q_cJ, q_cV, q_cP, q_xI, q_xV, q_xP, q_xJ, g_gk, g_ga, g_gw, g_gp, g_gq, g_P, g_J, q_I_s, q_I_n, q_I_k, nI_add, pk_sub, pk_mul, nI_clamp, n_lt0, n_0lt, n_eq0, n_lt, n_le, n_eq, n_m1, n_m2, n_m9, n_12, n_19, n_10, n_01, n_1n1, n_0n1, n_1n0, n_0n0, n_dI, n_m1lt, q_inb, n_nar, n_nar0, n_nar1, n_bool, Bool.false_eq_true, Bool.true_eq_false, if_true, if_false, ↓reduceIte, Nat.reduceAdd, Nat.reduceMul, Nat.reduceSub, Nat.reduceLT, Nat.reduceLeDiff, Nat.reduceEqDiff, Nat.reduceMod, Nat.reduceDiv, q_W c4.1, q_S c4.1 c4.2.1, gpy, hg, e5, q_W p5, q_S p5 (a := 12) (by decide), e6, q_W p6, q_S p6 (a := 12) (by decide), e7]
        · rw [if_pos rfl]
          refine ⟨d5.tr ((q_dc_eq t6 (by decide)).tr (q_dc_eq t7 (by decide))), ?_, c_sc_st w6 s6 (fun k hk => k_pay_o (by omega) (by omega)) (fun a h1 h2 h3 h4 => t7.1 a (by simp only [List.mem_cons, List.not_mem_nil, or_false]; omega)) st7⟩
          rw [q_I_eq t7 (by decide), q_I_eq t6 (by decide)]
          exact z5
    · have e : k_tr K i = false := by
        unfold k_tr
        rw [decide_eq_false h0]
        rfl
      refine ⟨M4, ?_, by rw [e, if_neg (by decide)]⟩
      rw [L_X11_tradeAt_192, if_neg h0, e, if_neg (by decide)]
  obtain ⟨M', eM, rM⟩ := fin
  refine ⟨M', ?_, ?_⟩
  · rw [← eM, E_X11_tradeAt]
    simp (disch := omega) only [q_ckt, q_lt, q_cI, q_cJ, q_cV, q_cP, q_xI, q_xV, q_xP, q_xJ, g_gk, g_ga, g_gw, g_gp, g_gq, g_P, g_J, q_I_s, q_I_n, q_I_k, nI_add, pk_sub, pk_mul, nI_clamp, n_lt0, n_0lt, n_eq0, n_lt, n_le, n_eq, n_m1, n_m2, n_m9, n_12, n_19, n_10, n_01, n_1n1, n_0n1, n_1n0, n_0n0, n_dI, n_m1lt, q_inb, n_nar, n_nar0, n_nar1, n_bool, Bool.false_eq_true, Bool.true_eq_false, if_true, if_false, ↓reduceIte, Nat.reduceAdd, Nat.reduceMul, Nat.reduceSub, Nat.reduceLT, Nat.reduceLeDiff, Nat.reduceEqDiff, Nat.reduceMod, Nat.reduceDiv, q_W hp, q_S hp (a := 12) (by decide), a1, a2, q_F hp, e1, q_W c1.1, q_F c1.1, w1, w2, q_S c1.1 (a := 91) (by decide), e2, q_W c2.1, q_S c2.1 (a := 91) (by decide), e3, q_W c3.1, q_F c3.1, e4, q_W c4.1, q_F c4.1, v1, v2]
    rw [show k_fw (k_mov K i (i + 1)) (k_td (k_mov K i (i + 1))) (i + 1) - k_fw K (k_td K) i = k_g1 K i from rfl, show k_fw (k_mov K i (i + 1)) (k_td (k_mov K i (i + 1))) i - k_fw K (k_td K) (i + 1) = k_g2 K i from rfl]
    by_cases hlt : k_g1 K i < k_g2 K i
    · rw [if_pos hlt, L_X11_tradeAt_168]
      simp (disch := omega) only [q_ckt, q_lt, q_cI, q_cJ, q_cV, q_cP, q_xI, q_xV, q_xP, q_xJ, g_gk, g_ga, g_gw, g_gp, g_gq, g_P, g_J, q_I_s, q_I_n, q_I_k, nI_add, pk_sub, pk_mul, nI_clamp, n_lt0, n_0lt, n_eq0, n_lt, n_le, n_eq, n_m1, n_m2, n_m9, n_12, n_19, n_10, n_01, n_1n1, n_0n1, n_1n0, n_0n0, n_dI, n_m1lt, q_inb, n_nar, n_nar0, n_nar1, n_bool, Bool.false_eq_true, Bool.true_eq_false, if_true, if_false, ↓reduceIte, Nat.reduceAdd, Nat.reduceMul, Nat.reduceSub, Nat.reduceLT, Nat.reduceLeDiff, Nat.reduceEqDiff, Nat.reduceMod, Nat.reduceDiv, L_X11_tradeAt_180]
      rw [show k_py K i = k_q K (i + 1) by unfold k_py; rw [if_pos hlt], show k_pd K i = k_q K i by unfold k_pd; rw [if_pos hlt]]
    · rw [if_neg hlt, L_X11_tradeAt_168]
      simp (disch := omega) only [q_ckt, q_lt, q_cI, q_cJ, q_cV, q_cP, q_xI, q_xV, q_xP, q_xJ, g_gk, g_ga, g_gw, g_gp, g_gq, g_P, g_J, q_I_s, q_I_n, q_I_k, nI_add, pk_sub, pk_mul, nI_clamp, n_lt0, n_0lt, n_eq0, n_lt, n_le, n_eq, n_m1, n_m2, n_m9, n_12, n_19, n_10, n_01, n_1n1, n_0n1, n_1n0, n_0n0, n_dI, n_m1lt, q_inb, n_nar, n_nar0, n_nar1, n_bool, Bool.false_eq_true, Bool.true_eq_false, if_true, if_false, ↓reduceIte, Nat.reduceAdd, Nat.reduceMul, Nat.reduceSub, Nat.reduceLT, Nat.reduceLeDiff, Nat.reduceEqDiff, Nat.reduceMod, Nat.reduceDiv, L_X11_tradeAt_180]
      rw [show k_py K i = k_q K i by unfold k_py; rw [if_neg hlt], show k_pd K i = k_q K (i + 1) by unfold k_pd; rw [if_neg hlt]]
  · cases e : k_tr K i
    · rw [e, if_neg (by decide)] at rM
      rw [if_neg (by decide), rM]
      exact qq
    · rw [e, if_pos rfl] at rM
      rw [if_pos rfl]
      exact ⟨(q_dc_eq qq (by decide)).tr rM.1, rM.2⟩
end TC
section TS
variable {L : Nat} {xs : Nat → Int32}
theorem n_64s : ∀ y, y < 9 → (nI y).toInt64 + (1 : Int64) = (nI (y + 1)).toInt64 := by decide +kernel
theorem k_rng_ge {y n : Nat} (h : n ≤ y) (hy : y < 2 ^ 31) : ¬ k_rng (nI y) n = true := fun q => by
  rw [k_rng_i, nI_toInt hy] at q
  omega
theorem S_trade (a : Int32) : q_St L xs (q_Iv L xs) (m_L_trade 200 1 a 436) (m_X12_trade 200 412 a) := by
  refine q_Sd_mk (x := m_X11_trade 199 1 a) (fun M => E_L_trade 199 1 a 436 M) fun M hp hI => ?_
  have hc := c_I_c hp hI.1
  have hr := c_I_r hp hI.1
  obtain ⟨hwf, hsc⟩ := hI.1
  generalize M.1 413 = K at hc hr hwf hsc ⊢
  have hb := k_bds hc.2.2.1
  have hu := c_use hc
  by_cases ha : k_rng a (k_m K - 1)
  · obtain ⟨y, hy, rfl⟩ := k_rng_of ha (by omega)
    have hy1 : y + 1 < k_m K := by omega
    have g1 : k_rng (nI y) (k_m K) = true := k_rng_nI (by omega) (by omega)
    have g2 : k_rng (nI (y + 1)) (k_m K) = true := k_rng_nI (by omega) (by omega)
    have hz := n_64s y (by omega)
    have cc : ∀ v N, m_X11_tradeAt 198 1 (nI y) M = ir_oI v N → m_X11_trade 199 1 (nI y) M = ir_oI v N := fun v N e => by
      rw [E_X11_trade 198]
      simp (disch := omega) only [q_ckt, q_lt, q_cI, q_cJ, q_cV, q_cP, q_xI, q_xV, q_xP, q_xJ, g_gk, g_ga, g_gw, g_gp, g_gq, g_P, g_J, q_I_s, q_I_n, q_I_k, nI_add, pk_sub, pk_mul, nI_clamp, n_lt0, n_0lt, n_eq0, n_lt, n_le, n_eq, n_m1, n_m2, n_m9, n_12, n_19, n_10, n_01, n_1n1, n_0n1, n_1n0, n_0n0, n_dI, n_m1lt, q_inb, n_nar, n_nar0, n_nar1, n_bool, Bool.false_eq_true, Bool.true_eq_false, if_true, if_false, ↓reduceIte, Nat.reduceAdd, Nat.reduceMul, Nat.reduceSub, Nat.reduceLT, Nat.reduceLeDiff, Nat.reduceEqDiff, Nat.reduceMod, Nat.reduceDiv, q_W hp, q_S hp (a := 12) (by decide), hu, hy, e]
    have rr : ∀ M' v N, r_rl M' K → m_X12_tradesAt 199 412 (nI y) (ir_sI M' 412 4 (nI 0)) = ir_oI v N → m_X12_trade 200 412 (nI y) M' = ir_oI v N := fun M' v N hr' e => by
      have h4 := r_4 (v := nI 0) hr'
      rw [E_X12_trade 199]
      simp (disch := omega) only [q_ckt, q_lt, q_cI, q_cJ, q_cV, q_cP, q_xI, q_xV, q_xP, q_xJ, g_gk, g_ga, g_gw, g_gp, g_gq, g_P, g_J, q_I_s, q_I_n, q_I_k, nI_add, pk_sub, pk_mul, nI_clamp, n_lt0, n_0lt, n_eq0, n_lt, n_le, n_eq, n_m1, n_m2, n_m9, n_12, n_19, n_10, n_01, n_1n1, n_0n1, n_1n0, n_0n0, n_dI, n_m1lt, q_inb, n_nar, n_nar0, n_nar1, n_bool, Bool.false_eq_true, Bool.true_eq_false, if_true, if_false, ↓reduceIte, Nat.reduceAdd, Nat.reduceMul, Nat.reduceSub, Nat.reduceLT, Nat.reduceLeDiff, Nat.reduceEqDiff, Nat.reduceMod, Nat.reduceDiv, q_R hr'.1, r_is h4, g1, hz, g2, e]
    obtain ⟨M1, e1, s1⟩ := c_tradeAt (d := 192) hp hwf hsc hy1
    cases e : k_tr K y
    · rw [e, if_neg (by decide)] at e1
      rw [e, if_neg (by decide)] at s1
      refine Or.inr (Or.inl ⟨nI 0, ⟨M1, cc _ _ e1, q_st_eq hp s1 (by decide)⟩, fun M' s => ?_⟩)
      have hr' := q_st_r s hr
      have h4 := r_4 (v := nI 0) hr'
      obtain ⟨N1, f1, g1, t1⟩ := r_trades (d := 191) h4 hwf hy1
      rw [e, if_neg (by decide)] at f1
      rw [e, if_neg (by decide)] at t1
      refine ⟨N1, rr _ _ _ hr' f1, (q_st_4 hr'.1 rfl).tr t1.1, by rw [t1.2.1]; rfl, (g1 4 (by omega)).trans q_I_s⟩
    · rw [e, if_pos rfl] at e1
      rw [e, if_pos rfl] at s1
      refine Or.inl ⟨k_g1 K y + k_g2 K y, k_trd K y, ⟨M1, cc _ _ e1, s1⟩, k_trd_wf hwf hy1, fun M' hr' => ?_⟩
      have h4 := r_4 (v := nI 0) hr'
      obtain ⟨N1, f1, g1, t1⟩ := r_trades (d := 191) h4 hwf hy1
      rw [e, if_pos rfl] at f1
      rw [e, if_pos rfl] at t1
      exact ⟨N1, rr _ _ _ hr' f1, (q_dr_4 rfl).tr t1.1, t1.2.2.2, (g1 4 (by omega)).trans q_I_s⟩
  · refine Or.inr (Or.inr ⟨3, 1, by omega, by omega, ?_, fun _ => rfl, fun M' s => ⟨nI 0, ir_sI (ir_sI M' 412 4 (nI 0)) 412 4 (nI 1), ?_, (q_st_4 s.1.1 (k := 4) rfl).tr (q_st_4 (M := ir_sI M' 412 4 (nI 0)) s.1.1 (k := 4) (v := nI 1) rfl), rfl, q_I_s⟩⟩)
    · rw [E_X11_trade 198]
      simp (disch := omega) only [q_ckt, q_lt, q_cI, q_cJ, q_cV, q_cP, q_xI, q_xV, q_xP, q_xJ, g_gk, g_ga, g_gw, g_gp, g_gq, g_P, g_J, q_I_s, q_I_n, q_I_k, nI_add, pk_sub, pk_mul, nI_clamp, n_lt0, n_0lt, n_eq0, n_lt, n_le, n_eq, n_m1, n_m2, n_m9, n_12, n_19, n_10, n_01, n_1n1, n_0n1, n_1n0, n_0n0, n_dI, n_m1lt, q_inb, n_nar, n_nar0, n_nar1, n_bool, Bool.false_eq_true, Bool.true_eq_false, if_true, if_false, ↓reduceIte, Nat.reduceAdd, Nat.reduceMul, Nat.reduceSub, Nat.reduceLT, Nat.reduceLeDiff, Nat.reduceEqDiff, Nat.reduceMod, Nat.reduceDiv, q_W hp, q_S hp (a := 12) (by decide), hu]
      by_cases hm : 1 ≤ k_m K
      · rw [show nI (k_m K) - nI 1 = nI (k_m K - 1) from pk_sub hm, k_rng_c (by omega), if_neg ha]
      · rw [show k_m K = 0 by omega]
        by_cases q : a < 0
        · rw [if_pos q]
        · rw [if_neg q, if_neg (fun w => q (Int32.lt_trans w (by decide +kernel)))]
    · have hr' := q_st_r s hr
      have h4 := r_4 (v := nI 0) hr'
      rw [E_X12_trade 199]
      by_cases g1 : k_rng a (k_m K) = true
      · obtain ⟨y, hy, rfl⟩ := k_rng_of g1 (by omega)
        have hz := n_64s y (by omega)
        have g2 : ¬ k_rng (nI (y + 1)) (k_m K) = true := k_rng_ge (by
          rcases Nat.lt_or_ge (y + 1) (k_m K) with q | q
          · exact absurd (k_rng_nI (show y < k_m K - 1 by omega) (by omega)) ha
          · exact q) (by omega)
        simp (disch := omega) only [q_ckt, q_lt, q_cI, q_cJ, q_cV, q_cP, q_xI, q_xV, q_xP, q_xJ, g_gk, g_ga, g_gw, g_gp, g_gq, g_P, g_J, q_I_s, q_I_n, q_I_k, nI_add, pk_sub, pk_mul, nI_clamp, n_lt0, n_0lt, n_eq0, n_lt, n_le, n_eq, n_m1, n_m2, n_m9, n_12, n_19, n_10, n_01, n_1n1, n_0n1, n_1n0, n_0n0, n_dI, n_m1lt, q_inb, n_nar, n_nar0, n_nar1, n_bool, Bool.false_eq_true, Bool.true_eq_false, if_true, if_false, ↓reduceIte, Nat.reduceAdd, Nat.reduceMul, Nat.reduceSub, Nat.reduceLT, Nat.reduceLeDiff, Nat.reduceEqDiff, Nat.reduceMod, Nat.reduceDiv, q_R hr'.1, r_is h4, g1, hz, g2, r_fails h4.1]
      · simp (disch := omega) only [q_ckt, q_lt, q_cI, q_cJ, q_cV, q_cP, q_xI, q_xV, q_xP, q_xJ, g_gk, g_ga, g_gw, g_gp, g_gq, g_P, g_J, q_I_s, q_I_n, q_I_k, nI_add, pk_sub, pk_mul, nI_clamp, n_lt0, n_0lt, n_eq0, n_lt, n_le, n_eq, n_m1, n_m2, n_m9, n_12, n_19, n_10, n_01, n_1n1, n_0n1, n_1n0, n_0n0, n_dI, n_m1lt, q_inb, n_nar, n_nar0, n_nar1, n_bool, Bool.false_eq_true, Bool.true_eq_false, if_true, if_false, ↓reduceIte, Nat.reduceAdd, Nat.reduceMul, Nat.reduceSub, Nat.reduceLT, Nat.reduceLeDiff, Nat.reduceEqDiff, Nat.reduceMod, Nat.reduceDiv, q_R hr'.1, r_is h4, g1, r_fails h4.1]
end TS
