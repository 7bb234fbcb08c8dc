/-! a day on both sides -/
theorem k_rf_ok : ∀ (r : Nat) {K : Nat → Int32} {x : Nat}, k_ok K → x + r = k_m K → k_ok (k_rf r K x) ∧ ∀ k, ¬ (9 ≤ k ∧ k < 18) → k_rf r K x k = K k
  | 0, K, x, h, _ => ⟨h, fun _ _ => rfl⟩
  | r + 1, K, x, h, hx => by
    unfold k_rf
    split
    · obtain ⟨a, b, -⟩ := k_out_ok h (j := x) (by omega)
      obtain ⟨c, e⟩ := k_rf_ok r (x := x) a (by omega)
      exact ⟨c, fun k hk => (e k hk).trans (k_out_o h (by omega) hk)⟩
    · exact k_rf_ok r (x := x + 1) h (by omega)
theorem k_day_ok {K : Nat → Int32} (h : k_ok K) : k_ok (k_day K) ∧ ∀ k, ¬ (9 ≤ k ∧ k < 18) → k_day K k = k_d1 K k := by
  have em : k_m (k_d1 K) = k_m K := by unfold k_m; rw [k_d1_o (by omega)]
  exact k_rf_ok (k_m K) (k_d1_ok h) (by omega)
theorem k_day_o {K : Nat → Int32} (h : k_ok K) {k : Nat} (hk : ¬ (9 ≤ k ∧ k < 53)) : k_day K k = K k := by
  rw [(k_day_ok h).2 k (by omega), k_d1_o (by omega)]
theorem k_bad_t {K : Nat → Int32} {p : Nat} (h : k_bad K p = true) : 0 < K 4 ∧ ¬ -(K 4) < K (34 + p) := by
  unfold k_bad at h
  simp only [Bool.and_eq_true, decide_eq_true_eq, Bool.not_eq_true', decide_eq_false_iff_not] at h
  exact h
theorem k_bad_f {K : Nat → Int32} {p : Nat} (h : k_bad K p = false) (h0 : 0 < K 4) : -(K 4) < K (34 + p) := by
  unfold k_bad at h
  rw [decide_eq_true h0, Bool.true_and] at h
  simpa using h
section DY
variable {M : ir_M} {K : Nat → Int32} {d s : Nat}
theorem r_ruin {v : Int32} : ∀ (r : Nat) {M : ir_M} {K : Nat → Int32} {x : Nat}, r_rl M K → x + r = k_m K → ∃ M', v_X12_day_111 (d + 3) 412 v (nI x) M = ir_oI v M' ∧ q_eq [413] M M' ∧ ∀ k, ir_I M' 413 k = k_rf r K x k := by
  intro r
  induction r with
  | zero =>
    intro M K x h hx
    refine ⟨M, ?_, q_eq.rf _ _, h.2.2⟩
    have hb := k_bds h.2.1
    rw [L_X12_day_111]
    simp (disch := omega) only [q_ckt, q_lt, q_cI, q_cJ, q_cV, q_cP, q_xI, q_xV, q_xP, q_xJ, g_gk, g_ga, g_gw, g_gp, g_gq, g_P, g_J, q_I_s, q_I_n, q_I_k, nI_add, pk_sub, pk_mul, nI_clamp, n_lt0, n_0lt, n_eq0, n_lt, n_le, n_eq, n_m1, n_m2, n_m9, n_12, n_19, n_10, n_01, n_1n1, n_0n1, n_1n0, n_0n0, n_dI, n_m1lt, q_inb, n_nar, n_nar0, n_nar1, n_bool, Bool.false_eq_true, Bool.true_eq_false, if_true, if_false, ↓reduceIte, Nat.reduceAdd, Nat.reduceMul, Nat.reduceSub, Nat.reduceLT, Nat.reduceLeDiff, Nat.reduceEqDiff, Nat.reduceMod, Nat.reduceDiv, q_R h.1, r_qd h, show ¬ x < k_m K by omega]
  | succ r ih =>
    intro M K x h hx
    have hb := k_bds h.2.1
    have hq := k_qn h.2.1 (i := x) (by omega)
    rw [L_X12_day_111]
    unfold k_rf
    by_cases h0 : 0 < K 4
    · cases e : k_bad K (k_q K x)
      · have hn := k_bad_f e h0
        obtain ⟨M', e', q', a'⟩ := ih (x := x + 1) h (by omega)
        refine ⟨M', ?_, q', a'⟩
        simp (disch := omega) only [q_ckt, q_lt, q_cI, q_cJ, q_cV, q_cP, q_xI, q_xV, q_xP, q_xJ, g_gk, g_ga, g_gw, g_gp, g_gq, g_P, g_J, q_I_s, q_I_n, q_I_k, nI_add, pk_sub, pk_mul, nI_clamp, n_lt0, n_0lt, n_eq0, n_lt, n_le, n_eq, n_m1, n_m2, n_m9, n_12, n_19, n_10, n_01, n_1n1, n_0n1, n_1n0, n_0n0, n_dI, n_m1lt, q_inb, n_nar, n_nar0, n_nar1, n_bool, Bool.false_eq_true, Bool.true_eq_false, if_true, if_false, ↓reduceIte, Nat.reduceAdd, Nat.reduceMul, Nat.reduceSub, Nat.reduceLT, Nat.reduceLeDiff, Nat.reduceEqDiff, Nat.reduceMod, Nat.reduceDiv, q_R h.1, r_qd h, show x < k_m K by omega, h.2.2, h0, r_wh h (show x < k_m K by omega), hn]
        exact e'
      · obtain ⟨-, hn⟩ := k_bad_t e
        obtain ⟨M1, e1, q1, a1⟩ := r_goesOut (d := d + 1) h.1 h.2.2 (k_use h.2.1).2.2.2.1 (by omega) (show x < k_m K by omega)
        obtain ⟨ok1, m1, -⟩ := k_out_ok h.2.1 (j := x) (by omega)
        obtain ⟨M', e', q', a'⟩ := ih (x := x) (K := k_out K x) (M := M1) ⟨q_PI_eq q1 h.1, ok1, a1⟩ (by omega)
        refine ⟨M', ?_, q1.tr q', a'⟩
        simp (disch := omega) only [q_ckt, q_lt, q_cI, q_cJ, q_cV, q_cP, q_xI, q_xV, q_xP, q_xJ, g_gk, g_ga, g_gw, g_gp, g_gq, g_P, g_J, q_I_s, q_I_n, q_I_k, nI_add, pk_sub, pk_mul, nI_clamp, n_lt0, n_0lt, n_eq0, n_lt, n_le, n_eq, n_m1, n_m2, n_m9, n_12, n_19, n_10, n_01, n_1n1, n_0n1, n_1n0, n_0n0, n_dI, n_m1lt, q_inb, n_nar, n_nar0, n_nar1, n_bool, Bool.false_eq_true, Bool.true_eq_false, if_true, if_false, ↓reduceIte, Nat.reduceAdd, Nat.reduceMul, Nat.reduceSub, Nat.reduceLT, Nat.reduceLeDiff, Nat.reduceEqDiff, Nat.reduceMod, Nat.reduceDiv, q_R h.1, r_qd h, show x < k_m K by omega, h.2.2, h0, r_wh h (show x < k_m K by omega), hn, e1]
        exact e'
    · have e : k_bad K (k_q K x) = false := by
        unfold k_bad
        rw [decide_eq_false h0]
        rfl
      obtain ⟨M', e', q', a'⟩ := ih (x := x + 1) h (by omega)
      refine ⟨M', ?_, q', ?_⟩
      · simp (disch := omega) only [q_ckt, q_lt, q_cI, q_cJ, q_cV, q_cP, q_xI, q_xV, q_xP, q_xJ, g_gk, g_ga, g_gw, g_gp, g_gq, g_P, g_J, q_I_s, q_I_n, q_I_k, nI_add, pk_sub, pk_mul, nI_clamp, n_lt0, n_0lt, n_eq0, n_lt, n_le, n_eq, n_m1, n_m2, n_m9, n_12, n_19, n_10, n_01, n_1n1, n_0n1, n_1n0, n_0n0, n_dI, n_m1lt, q_inb, n_nar, n_nar0, n_nar1, n_bool, Bool.false_eq_true, Bool.true_eq_false, if_true, if_false, ↓reduceIte, Nat.reduceAdd, Nat.reduceMul, Nat.reduceSub, Nat.reduceLT, Nat.reduceLeDiff, Nat.reduceEqDiff, Nat.reduceMod, Nat.reduceDiv, q_R h.1, r_qd h, show x < k_m K by omega, h.2.2, h0]
        exact e'
      · rw [if_neg (by rw [e]; decide)]
        exact a'
theorem r_day (h : r_rl M K) : ∃ M', m_X12_day (d + 7) 412 M = ir_oI (k_tot K) M' ∧ q_eq [413, 418, 419, 420] M M' ∧ r_rl M' (k_day K) := by
  have hb := k_bds h.2.1
  obtain ⟨M1, e1, h1, a1, f1⟩ := r_laysToday (d := d) h
  have hr := r_rl_eq h h1 (by decide)
  have L := q_up (σ := ir_M) (V := fun x t => v_X12_day_11 (d + 6) 412 (k_tot K) (nI x) t) (N := k_m K) (I := fun x t => q_eq [413] M1 t ∧ ∀ k, ir_I t 413 k = k_dt K x k) (K := fun t => v_X12_day_59 (d + 6) 412 (k_tot K) (nI 0) (ir_sI t 413 44 (nI (k_m K)))) (by
    rintro x t hx ⟨he, ht⟩
    have hq := k_qn h.2.1 hx
    have ut : r_rl t (k_dt K x) := ⟨q_PI_eq he hr.1, k_dt_ok h.2.1 x, ht⟩
    obtain ⟨dm, dn, dg⟩ := k_dt_m (K := K) (x := x)
    have dq : k_q (k_dt K x) x = k_q K x := by unfold k_q; rw [k_dt_o (by omega)]
    have hx' : x < k_m (k_dt K x) := by omega
    have gd : k_gd (k_dt K x) (k_td K x) := by
      unfold k_gd
      rw [dg]
      exact k_td_gd h.2.1 hx
    have ef := r_fellTo (d := d + 4) (Fl := k_td K) ut hx' ((q_I_eq he (by decide) x).trans (f1 x hx)) gd
    rw [k_dt_fw h.2.1 hx] at ef
    have ew := r_wh (d := d + 5) ut hx'
    rw [dq] at ew
    have ek : ir_I t 413 (34 + k_q K x) = K (34 + k_q K x) := (ht _).trans (k_dt_q h.2.1 hx)
    have eqd := r_qd (d := d + 5) ut
    rw [dm] at eqd
    refine ⟨ir_sI t 413 (34 + k_q K x) (K (34 + k_q K x) + k_fw K (k_td K) x), ⟨he.tr (q_eq.sI (by decide)), fun k => ?_⟩, ?_⟩
    · rw [q_I_u, ht, k_dt_s h.2.1 hx]
      by_cases q : k = 34 + k_q K x
      · rw [if_pos q, if_pos q, q]
      · rw [if_neg q, if_neg q]
    · rw [L_X12_day_11]
      simp (disch := omega) only [q_ckt, q_lt, q_cI, q_cJ, q_cV, q_cP, q_xI, q_xV, q_xP, q_xJ, g_gk, g_ga, g_gw, g_gp, g_gq, g_P, g_J, q_I_s, q_I_n, q_I_k, nI_add, pk_sub, pk_mul, nI_clamp, n_lt0, n_0lt, n_eq0, n_lt, n_le, n_eq, n_m1, n_m2, n_m9, n_12, n_19, n_10, n_01, n_1n1, n_0n1, n_1n0, n_0n0, n_dI, n_m1lt, q_inb, n_nar, n_nar0, n_nar1, n_bool, Bool.false_eq_true, Bool.true_eq_false, if_true, if_false, ↓reduceIte, Nat.reduceAdd, Nat.reduceMul, Nat.reduceSub, Nat.reduceLT, Nat.reduceLeDiff, Nat.reduceEqDiff, Nat.reduceMod, Nat.reduceDiv, q_R ut.1, eqd, hx, ew, ef, ek]) (by
    rintro t ⟨he, ht⟩
    have ut : r_rl t (k_dt K (k_m K)) := ⟨q_PI_eq he hr.1, k_dt_ok h.2.1 _, ht⟩
    have eqd := r_qd (d := d + 5) ut
    rw [k_dt_m.1] at eqd
    rw [L_X12_day_11]
    simp (disch := omega) only [q_ckt, q_lt, q_cI, q_cJ, q_cV, q_cP, q_xI, q_xV, q_xP, q_xJ, g_gk, g_ga, g_gw, g_gp, g_gq, g_P, g_J, q_I_s, q_I_n, q_I_k, nI_add, pk_sub, pk_mul, nI_clamp, n_lt0, n_0lt, n_eq0, n_lt, n_le, n_eq, n_m1, n_m2, n_m9, n_12, n_19, n_10, n_01, n_1n1, n_0n1, n_1n0, n_0n0, n_dI, n_m1lt, q_inb, n_nar, n_nar0, n_nar1, n_bool, Bool.false_eq_true, Bool.true_eq_false, if_true, if_false, ↓reduceIte, Nat.reduceAdd, Nat.reduceMul, Nat.reduceSub, Nat.reduceLT, Nat.reduceLeDiff, Nat.reduceEqDiff, Nat.reduceMod, Nat.reduceDiv, q_R ut.1, eqd, Nat.lt_irrefl]) (i := 0) (t := M1) (by omega) ⟨q_eq.rf _ _, fun k => by
      rw [hr.2.2]
      unfold k_dt
      split
      · cases k_pl K (k - 34) <;> rfl
      · rfl⟩
  obtain ⟨t1, ⟨he1, ht1⟩, ee1⟩ := L
  have q2 : q_eq [413] M1 (ir_sI t1 413 44 (nI (k_m K))) := he1.tr (q_eq.sI (by decide))
  have L2 := q_up (σ := ir_M) (V := fun x t => v_X12_day_59 (d + 6) 412 (k_tot K) (nI x) t) (N := 8) (I := fun x t => q_eq [413] M1 t ∧ ∀ k, ir_I t 413 k = if k = 44 then nI (k_m K) else if 45 ≤ k ∧ k < 45 + x then (if k - 45 < k_m K then k_as K (k - 45) else 0) else k_dt K (k_m K) k) (K := fun t => v_X12_day_111 (d + 6) 412 (k_tot K) (nI 0) (ir_sI t 413 42 (K 42 + nI 1))) (by
    rintro x t hx ⟨he, ht⟩
    have hpt := q_PI_eq he hr.1
    have e9 : ir_I t 413 9 = nI (k_m K) := by rw [ht, if_neg (by omega), if_neg (by omega), k_dt_o (by omega), (k_use h.2.1).2.2.2.1]
    refine ⟨ir_sI t 413 (45 + x) (if x < k_m K then k_as K x else 0), ⟨he.tr (q_eq.sI (by decide)), fun k => ?_⟩, ?_⟩
    · rw [q_I_u, ht]
      by_cases q : k = 45 + x
      · rw [if_pos q, if_neg (show ¬ k = 44 by omega), if_pos (show 45 ≤ k ∧ k < 45 + (x + 1) by omega), q, show 45 + x - 45 = x by omega]
      · rw [if_neg q]
        by_cases q1 : k = 44
        · rw [if_pos q1, if_pos q1]
        · rw [if_neg q1, if_neg q1]
          by_cases q3 : 45 ≤ k ∧ k < 45 + x
          · rw [if_pos q3, if_pos (show 45 ≤ k ∧ k < 45 + (x + 1) by omega)]
          · rw [if_neg q3, if_neg (show ¬ (45 ≤ k ∧ k < 45 + (x + 1)) by omega)]
    · rw [L_X12_day_59]
      by_cases q : x < k_m K
      · have ea : ir_I t 419 x = k_as K x := (q_I_eq he (by decide) x).trans (a1 x q)
        simp (disch := omega) only [q_ckt, q_lt, q_cI, q_cJ, q_cV, q_cP, q_xI, q_xV, q_xP, q_xJ, g_gk, g_ga, g_gw, g_gp, g_gq, g_P, g_J, q_I_s, q_I_n, q_I_k, nI_add, pk_sub, pk_mul, nI_clamp, n_lt0, n_0lt, n_eq0, n_lt, n_le, n_eq, n_m1, n_m2, n_m9, n_12, n_19, n_10, n_01, n_1n1, n_0n1, n_1n0, n_0n0, n_dI, n_m1lt, q_inb, n_nar, n_nar0, n_nar1, n_bool, Bool.false_eq_true, Bool.true_eq_false, if_true, if_false, ↓reduceIte, Nat.reduceAdd, Nat.reduceMul, Nat.reduceSub, Nat.reduceLT, Nat.reduceLeDiff, Nat.reduceEqDiff, Nat.reduceMod, Nat.reduceDiv, q_R hpt, hx, E_X12_queued, e9, q, ea]
      · simp (disch := omega) only [q_ckt, q_lt, q_cI, q_cJ, q_cV, q_cP, q_xI, q_xV, q_xP, q_xJ, g_gk, g_ga, g_gw, g_gp, g_gq, g_P, g_J, q_I_s, q_I_n, q_I_k, nI_add, pk_sub, pk_mul, nI_clamp, n_lt0, n_0lt, n_eq0, n_lt, n_le, n_eq, n_m1, n_m2, n_m9, n_12, n_19, n_10, n_01, n_1n1, n_0n1, n_1n0, n_0n0, n_dI, n_m1lt, q_inb, n_nar, n_nar0, n_nar1, n_bool, Bool.false_eq_true, Bool.true_eq_false, if_true, if_false, ↓reduceIte, Nat.reduceAdd, Nat.reduceMul, Nat.reduceSub, Nat.reduceLT, Nat.reduceLeDiff, Nat.reduceEqDiff, Nat.reduceMod, Nat.reduceDiv, q_R hpt, hx, E_X12_queued, e9, q, n_00]) (by
    rintro t ⟨he, ht⟩
    have hpt := q_PI_eq he hr.1
    have e42 : ir_I t 413 42 = K 42 := by rw [ht, if_neg (by omega), if_neg (by omega), k_dt_o (by omega)]
    rw [L_X12_day_59]
    simp (disch := omega) only [q_ckt, q_lt, q_cI, q_cJ, q_cV, q_cP, q_xI, q_xV, q_xP, q_xJ, g_gk, g_ga, g_gw, g_gp, g_gq, g_P, g_J, q_I_s, q_I_n, q_I_k, nI_add, pk_sub, pk_mul, nI_clamp, n_lt0, n_0lt, n_eq0, n_lt, n_le, n_eq, n_m1, n_m2, n_m9, n_12, n_19, n_10, n_01, n_1n1, n_0n1, n_1n0, n_0n0, n_dI, n_m1lt, q_inb, n_nar, n_nar0, n_nar1, n_bool, Bool.false_eq_true, Bool.true_eq_false, if_true, if_false, ↓reduceIte, Nat.reduceAdd, Nat.reduceMul, Nat.reduceSub, Nat.reduceLT, Nat.reduceLeDiff, Nat.reduceEqDiff, Nat.reduceMod, Nat.reduceDiv, q_R hpt, e42]) (i := 0) (t := ir_sI t1 413 44 (nI (k_m K))) (by omega) ⟨q2, fun k => by
      rw [q_I_u, ht1]
      by_cases q1 : k = 44
      · rw [if_pos q1, if_pos q1]
      · rw [if_neg q1, if_neg q1, if_neg (by omega)]⟩
  obtain ⟨t2, ⟨he2, ht2⟩, ee2⟩ := L2
  have q3 : q_eq [413] M1 (ir_sI t2 413 42 (K 42 + nI 1)) := he2.tr (q_eq.sI (by decide))
  have em : k_m (k_d1 K) = k_m K := by unfold k_m; rw [k_d1_o (by omega)]
  obtain ⟨M', e', q', a'⟩ := r_ruin (d := d + 3) (v := k_tot K) (k_m K) (M := ir_sI t2 413 42 (K 42 + nI 1)) (K := k_d1 K) (x := 0) ⟨q_PI_eq q3 hr.1, k_d1_ok h.2.1, fun k => by
    rw [q_I_u, ht2]
    unfold k_d1
    by_cases q : k = 42
    · rw [if_pos q]
    · rw [if_neg q]⟩ (by omega)
  have qall : q_eq [413, 418, 419, 420] M M' := (h1.sub (by decide)).tr ((q3.sub (by decide)).tr (q'.sub (by decide)))
  refine ⟨M', ?_, qall, q_PI_eq qall h.1, (k_day_ok h.2.1).1, a'⟩
  rw [E_X12_day]
  simp (disch := omega) only [q_ckt, q_lt, q_cI, q_cJ, q_cV, q_cP, q_xI, q_xV, q_xP, q_xJ, g_gk, g_ga, g_gw, g_gp, g_gq, g_P, g_J, q_I_s, q_I_n, q_I_k, nI_add, pk_sub, pk_mul, nI_clamp, n_lt0, n_0lt, n_eq0, n_lt, n_le, n_eq, n_m1, n_m2, n_m9, n_12, n_19, n_10, n_01, n_1n1, n_0n1, n_1n0, n_0n0, n_dI, n_m1lt, q_inb, n_nar, n_nar0, n_nar1, n_bool, Bool.false_eq_true, Bool.true_eq_false, if_true, if_false, ↓reduceIte, Nat.reduceAdd, Nat.reduceMul, Nat.reduceSub, Nat.reduceLT, Nat.reduceLeDiff, Nat.reduceEqDiff, Nat.reduceMod, Nat.reduceDiv, q_R h.1, e1, q_R hr.1, r_fellToAll hr f1 (fun i hi => k_td_gd h.2.1 hi)]
  exact ee1.trans (ee2.trans e')
/-- the told alone is enough for a worth -/
theorem c_wt2 (hp : q_PI M) (hk : k_ok K) (ht : c_td M K) {p : Nat} {g : Int32} (hpn : p < k_n K) (hg : k_gd K g) : m_X9_worthTo (d + 1) 4 (nI p) g M = ir_oI (k_wt K p g) M := by
  have hb := k_bds hk
  rw [E_X9_worthTo]
  unfold k_wt
  rcases hg with rfl | ⟨j, hj, rfl⟩
  · simp (disch := omega) only [q_ckt, q_lt, q_cI, q_cJ, q_cV, q_cP, q_xI, q_xV, q_xP, q_xJ, g_gk, g_ga, g_gw, g_gp, g_gq, g_P, g_J, q_I_s, q_I_n, q_I_k, nI_add, pk_sub, pk_mul, nI_clamp, n_lt0, n_0lt, n_eq0, n_lt, n_le, n_eq, n_m1, n_m2, n_m9, n_12, n_19, n_10, n_01, n_1n1, n_0n1, n_1n0, n_0n0, n_dI, n_m1lt, q_inb, n_nar, n_nar0, n_nar1, n_bool, Bool.false_eq_true, Bool.true_eq_false, if_true, if_false, ↓reduceIte, Nat.reduceAdd, Nat.reduceMul, Nat.reduceSub, Nat.reduceLT, Nat.reduceLeDiff, Nat.reduceEqDiff, Nat.reduceMod, Nat.reduceDiv, n_00]
  · have e := ht.2.2.2.2.2.2.2.2.1 p j hpn hj
    simp (disch := omega) only [q_ckt, q_lt, q_cI, q_cJ, q_cV, q_cP, q_xI, q_xV, q_xP, q_xJ, g_gk, g_ga, g_gw, g_gp, g_gq, g_P, g_J, q_I_s, q_I_n, q_I_k, nI_add, pk_sub, pk_mul, nI_clamp, n_lt0, n_0lt, n_eq0, n_lt, n_le, n_eq, n_m1, n_m2, n_m9, n_12, n_19, n_10, n_01, n_1n1, n_0n1, n_1n0, n_0n0, n_dI, n_m1lt, q_inb, n_nar, n_nar0, n_nar1, n_bool, Bool.false_eq_true, Bool.true_eq_false, if_true, if_false, ↓reduceIte, Nat.reduceAdd, Nat.reduceMul, Nat.reduceSub, Nat.reduceLT, Nat.reduceLeDiff, Nat.reduceEqDiff, Nat.reduceMod, Nat.reduceDiv, q_T hp, Nat.mul_comm p 6, e]
/-- another state of the same told -/
theorem c_rl_st {M' : ir_M} {K' : Nat → Int32} {S : List Nat} (h : c_rl M s K) (he : q_eq S M M') (hS : (4 ∉ S ∧ 5 ∉ S ∧ 7 ∉ S ∧ 8 ∉ S ∧ 10 ∉ S ∧ 11 ∉ S)) (ho : ∀ k, ¬ (9 ≤ k ∧ k < 53) → K' k = K k) (hk : k_okS K') (hc : c_st M' s K') : c_rl M' s K' := by
  have hb := k_bds h.2.2.1
  refine ⟨q_PI_eq he h.1, h.2.1, ⟨k_okT_cg (fun k h1 _ => ho k (by omega)) (fun k h1 => ho k (by omega)) h.2.2.1.1, hk⟩, ?_, hc⟩
  have := c_td_eq he hS h.2.2.2.1
  exact c_tdT_cg (by omega) (by omega) (fun k hk _ => ho k (by omega)) (fun k h1 h2 => ho k (by omega)) (fun k hk => ho k (by omega)) this
theorem c_ruin {v : Int32} : ∀ (x : Nat) {M : ir_M} {K : Nat → Int32}, c_rl M s K → x ≤ k_m K → ∃ M', v_X0_passDay_106 (d + 3) 4 s v (nI x + (-1)) M = ir_oI v M' ∧ q_eq [s, s + 1] M M' ∧ c_rl M' s (k_rb x K) := by
  intro x
  induction x with
  | zero =>
    intro M K h hx
    refine ⟨M, ?_, q_eq.rf _ _, h⟩
    rw [L_X0_passDay_106, if_pos (show nI 0 + (-1) < 0 by decide +kernel)]
  | succ x ih =>
    intro M K h hx
    have hb := k_bds h.2.2.1
    have hu := c_use h
    have hS := q_S_r s h.2.1
    have hq := k_qn h.2.2.1 (i := x) (by omega)
    have e4 : ir_I M 4 5 = K 4 := hu.2.2.2.2.1
    rw [L_X0_passDay_106, n_dec (by omega), Nat.add_sub_cancel]
    unfold k_rb
    by_cases h0 : 0 < K 4
    · cases e : k_bad K (k_q K x)
      · have hn := k_bad_f e h0
        obtain ⟨M', e', q', a'⟩ := ih h (by omega)
        refine ⟨M', ?_, q', a'⟩
        simp (disch := omega) only [q_ckt, q_lt, q_cI, q_cJ, q_cV, q_cP, q_xI, q_xV, q_xP, q_xJ, g_gk, g_ga, g_gw, g_gp, g_gq, g_P, g_J, q_I_s, q_I_n, q_I_k, nI_add, pk_sub, pk_mul, nI_clamp, n_lt0, n_0lt, n_eq0, n_lt, n_le, n_eq, n_m1, n_m2, n_m9, n_12, n_19, n_10, n_01, n_1n1, n_0n1, n_1n0, n_0n0, n_dI, n_m1lt, q_inb, n_nar, n_nar0, n_nar1, n_bool, Bool.false_eq_true, Bool.true_eq_false, if_true, if_false, ↓reduceIte, Nat.reduceAdd, Nat.reduceMul, Nat.reduceSub, Nat.reduceLT, Nat.reduceLeDiff, Nat.reduceEqDiff, Nat.reduceMod, Nat.reduceDiv, q_T h.1, q_S h.1 h.2.1, e4, h0, hu, hn]
        exact e'
      · obtain ⟨-, hn⟩ := k_bad_t e
        obtain ⟨M1, e1, q1, a1⟩ := c_takeOut (d := d + 1) h (i := x) (by omega)
        obtain ⟨ok1, m1, -⟩ := k_out_ok h.2.2.1 (j := x) (by omega)
        have c1 : c_rl M1 s (k_out K x) := c_rl_st h q1 (by simp only [List.mem_cons, List.not_mem_nil, or_false]; omega) (fun k hk => k_out_o h.2.2.1 (by omega) (by omega)) ok1.2 a1
        obtain ⟨M', e', q', a'⟩ := ih c1 (by omega)
        refine ⟨M', ?_, q1.tr q', a'⟩
        simp (disch := omega) only [q_ckt, q_lt, q_cI, q_cJ, q_cV, q_cP, q_xI, q_xV, q_xP, q_xJ, g_gk, g_ga, g_gw, g_gp, g_gq, g_P, g_J, q_I_s, q_I_n, q_I_k, nI_add, pk_sub, pk_mul, nI_clamp, n_lt0, n_0lt, n_eq0, n_lt, n_le, n_eq, n_m1, n_m2, n_m9, n_12, n_19, n_10, n_01, n_1n1, n_0n1, n_1n0, n_0n0, n_dI, n_m1lt, q_inb, n_nar, n_nar0, n_nar1, n_bool, Bool.false_eq_true, Bool.true_eq_false, if_true, if_false, ↓reduceIte, Nat.reduceAdd, Nat.reduceMul, Nat.reduceSub, Nat.reduceLT, Nat.reduceLeDiff, Nat.reduceEqDiff, Nat.reduceMod, Nat.reduceDiv, q_T h.1, q_S h.1 h.2.1, e4, h0, hu, hn, e1]
        exact e'
    · have e : k_bad K (k_q K x) = false := by
        unfold k_bad
        rw [decide_eq_false h0]
        rfl
      obtain ⟨M', e', q', a'⟩ := ih h (by omega)
      refine ⟨M', ?_, q', ?_⟩
      · simp (disch := omega) only [q_ckt, q_lt, q_cI, q_cJ, q_cV, q_cP, q_xI, q_xV, q_xP, q_xJ, g_gk, g_ga, g_gw, g_gp, g_gq, g_P, g_J, q_I_s, q_I_n, q_I_k, nI_add, pk_sub, pk_mul, nI_clamp, n_lt0, n_0lt, n_eq0, n_lt, n_le, n_eq, n_m1, n_m2, n_m9, n_12, n_19, n_10, n_01, n_1n1, n_0n1, n_1n0, n_0n0, n_dI, n_m1lt, q_inb, n_nar, n_nar0, n_nar1, n_bool, Bool.false_eq_true, Bool.true_eq_false, if_true, if_false, ↓reduceIte, Nat.reduceAdd, Nat.reduceMul, Nat.reduceSub, Nat.reduceLT, Nat.reduceLeDiff, Nat.reduceEqDiff, Nat.reduceMod, Nat.reduceDiv, q_T h.1, e4, h0]
        exact e'
      · rw [if_neg (by rw [e]; decide)]
        exact a'
theorem c_day (h : c_rl M s K) : ∃ M', m_X0_passDay (d + 5) 116 4 s M = ir_oI (k_tot K) M' ∧ q_eq [s, s + 1, s + 4, s + 5, 9, 117, 118, 120] M M' ∧ c_rl M' s (k_day K) := by
  have hb := k_bds h.2.2.1
  have hS := q_S_r s h.2.1
  obtain ⟨M1, e1, h1, a1⟩ := c_la (d := d) h
  have hr := c_rl_eq h h1 (by decide)
  obtain ⟨M2, e2, h2, a2, f2⟩ := c_fb (d := d + 1) (A := k_as K) hr (y := k_y K) (by omega) (by omega) a1
  have hr2 := c_rl_eq hr h2 (by decide)
  have hu := c_use hr2
  have l2 : ∀ i, i < k_m K → ir_I M2 117 (3 + i) = k_as K i := fun i hi => (a2 (3 + i) (by omega)).trans (a1 i hi)
  have fr : ∀ {S : List Nat} {A B : ir_M} {a : Nat} (k : Nat), q_eq S A B → a ∉ S → ir_I B a k = ir_I A a k := fun k he ha => q_I_eq he ha k
  have L := q_up (σ := ir_M) (V := fun x t => v_X0_passDay_26 (d + 4) 116 4 s (k_tot K) (nI x) t) (N := k_m K) (I := fun x t => q_eq [s + 4, s + 5] M2 t ∧ (∀ p, p < k_n K → ir_I t (s + 4) p = k_dt K x (34 + p)) ∧ ∀ i, i < x → ir_I t (s + 5) i = k_as K i) (K := fun t => v_X0_passDay_106 (d + 4) 4 s (k_tot K) (nI (k_m K) + (-1)) (ir_sI (ir_sI t s 3 (nI (k_m K))) s 1 (K 42 + nI 1))) (by
    rintro x t hx ⟨he, ht, hw⟩
    have hpt := q_PI_eq he hr2.1
    have hq := k_qn h.2.2.1 hx
    have td := c_td_eq he (by simp only [List.mem_cons, List.not_mem_nil, or_false]; omega) hr2.2.2.2.1
    have n1 : ∀ a, a ≠ s + 4 → a ≠ s + 5 → ∀ k, ir_I t a k = ir_I M2 a k := fun a q1 q2 k => q_I_eq he (by simp only [List.mem_cons, List.not_mem_nil, or_false]; omega) k
    have e0 : ir_I t s 0 = nI (k_m K) := (n1 s (by omega) (by omega) 0).trans hu.2.2.2.2.2.1
    have eq : ir_I t (s + 1) x = nI (k_q K x) := (n1 (s + 1) (by omega) (by omega) x).trans (hu.2.2.2.2.2.2.2.2.2.1 x hx)
    have ef : ir_I t 118 x = k_td K x := (n1 118 (by omega) (by omega) x).trans (f2 x hx)
    have el : ir_I t 117 (3 + x) = k_as K x := (n1 117 (by omega) (by omega) _).trans (l2 x hx)
    have ek : ir_I t (s + 4) (k_q K x) = K (34 + k_q K x) := (ht _ hq).trans (k_dt_q h.2.2.1 hx)
    refine ⟨ir_sI (ir_sI t (s + 4) (k_q K x) (K (34 + k_q K x) + k_fw K (k_td K) x)) (s + 5) x (k_as K x), ⟨he.tr ((q_eq.sI (by simp)).tr (q_eq.sI (by simp))), fun p hp => ?_, fun i hi => ?_⟩, ?_⟩
    · rw [q_I_n (by omega), q_I_u, k_dt_s h.2.2.1 hx]
      by_cases q : p = k_q K x
      · rw [if_pos q, if_pos (by omega), q]
      · rw [if_neg q, if_neg (by omega)]
        exact ht p hp
    · rw [q_I_u]
      by_cases q : i = x
      · rw [if_pos q, q]
      · rw [if_neg q, q_I_n (by omega)]
        exact hw i (by omega)
    · rw [L_X0_passDay_26]
      simp (disch := omega) only [q_ckt, q_lt, q_cI, q_cJ, q_cV, q_cP, q_xI, q_xV, q_xP, q_xJ, g_gk, g_ga, g_gw, g_gp, g_gq, g_P, g_J, q_I_s, q_I_n, q_I_k, nI_add, pk_sub, pk_mul, nI_clamp, n_lt0, n_0lt, n_eq0, n_lt, n_le, n_eq, n_m1, n_m2, n_m9, n_12, n_19, n_10, n_01, n_1n1, n_0n1, n_1n0, n_0n0, n_dI, n_m1lt, q_inb, n_nar, n_nar0, n_nar1, n_bool, Bool.false_eq_true, Bool.true_eq_false, if_true, if_false, ↓reduceIte, Nat.reduceAdd, Nat.reduceMul, Nat.reduceSub, Nat.reduceLT, Nat.reduceLeDiff, Nat.reduceEqDiff, Nat.reduceMod, Nat.reduceDiv, q_S hpt h.2.1, q_F hpt, q_T hpt, e0, hx, eq, ek, E_X0_worthAt, ef, c_wt2 hpt h.2.2.1 td hq (k_td_gd h.2.2.1 hx), el]
      rfl) (by
    rintro t ⟨he, ht, hw⟩
    have hpt := q_PI_eq he hr2.1
    have n1 : ∀ a, a ≠ s + 4 → a ≠ s + 5 → ∀ k, ir_I t a k = ir_I M2 a k := fun a q1 q2 k => q_I_eq he (by simp only [List.mem_cons, List.not_mem_nil, or_false]; omega) k
    have e0 : ir_I t s 0 = nI (k_m K) := (n1 s (by omega) (by omega) 0).trans hu.2.2.2.2.2.1
    have e1 : ir_I t s 1 = K 42 := (n1 s (by omega) (by omega) 1).trans hu.2.2.2.2.2.2.1
    rw [L_X0_passDay_26]
    simp (disch := omega) only [q_ckt, q_lt, q_cI, q_cJ, q_cV, q_cP, q_xI, q_xV, q_xP, q_xJ, g_gk, g_ga, g_gw, g_gp, g_gq, g_P, g_J, q_I_s, q_I_n, q_I_k, nI_add, pk_sub, pk_mul, nI_clamp, n_lt0, n_0lt, n_eq0, n_lt, n_le, n_eq, n_m1, n_m2, n_m9, n_12, n_19, n_10, n_01, n_1n1, n_0n1, n_1n0, n_0n0, n_dI, n_m1lt, q_inb, n_nar, n_nar0, n_nar1, n_bool, Bool.false_eq_true, Bool.true_eq_false, if_true, if_false, ↓reduceIte, Nat.reduceAdd, Nat.reduceMul, Nat.reduceSub, Nat.reduceLT, Nat.reduceLeDiff, Nat.reduceEqDiff, Nat.reduceMod, Nat.reduceDiv, q_S hpt h.2.1, e0, e1, Nat.lt_irrefl]
    rw [show nI (k_m K) - nI 1 = nI (k_m K) + (-1) from Int32.sub_eq_add_neg _ _]) (i := 0) (t := M2) (by omega) ⟨q_eq.rf _ _, fun p hp => by
      rw [hu.2.2.2.2.2.2.2.2.2.2.2.2.1 p hp]
      unfold k_dt
      split
      · cases k_pl K (34 + p - 34) <;> rfl
      · rfl, fun i hi => by omega⟩
  obtain ⟨t, ⟨he, ht, hw⟩, ee⟩ := L
  have n1 : ∀ a, a ≠ s + 4 → a ≠ s + 5 → ∀ k, ir_I t a k = ir_I M2 a k := fun a q1 q2 k => q_I_eq he (by simp only [List.mem_cons, List.not_mem_nil, or_false]; omega) k
  have o1 : ∀ k, ¬ (9 ≤ k ∧ k < 53) → k_d1 K k = K k := fun k hk => k_d1_o (by omega)
  have em : k_m (k_d1 K) = k_m K := by unfold k_m; rw [k_d1_o (by omega)]
  have en : k_n (k_d1 K) = k_n K := by unfold k_n; rw [k_d1_o (by omega)]
  have e44 : k_d1 K 44 = nI (k_m K) := rfl
  have ew : k_w (k_d1 K) = k_m K := by
    show (k_d1 K 44).toNatClampNeg = _
    rw [e44, nI_clamp (by omega)]
  have q3 : q_eq [s, s + 4, s + 5] M2 (ir_sI (ir_sI t s 3 (nI (k_m K))) s 1 (K 42 + nI 1)) := (he.sub (fun a ha => by simp only [List.mem_cons, List.not_mem_nil, or_false] at ha ⊢; omega)).tr ((q_eq.sI (by simp)).tr (q_eq.sI (by simp)))
  obtain ⟨b0, b1, b2, b3, b4, b5, b6, b7, b8⟩ := hr2.2.2.2.2
  have st : c_st (ir_sI (ir_sI t s 3 (nI (k_m K))) s 1 (K 42 + nI 1)) s (k_d1 K) := by
    unfold c_st
    rw [em, en, ew, k_d1_o (k := 9) (by omega), k_d1_o (k := 43) (by omega), e44]
    refine ⟨?_, q_I_s, ?_, ?_, fun i hi => ?_, fun p hp => ?_, fun p hp => ?_, fun p hp => ?_, fun i hi => ?_⟩
    · rw [q_I_k (by omega), q_I_k (by omega), n1 s (by omega) (by omega)]; exact b0
    · rw [q_I_k (by omega), q_I_k (by omega), n1 s (by omega) (by omega)]; exact b2
    · rw [q_I_k (by omega), q_I_s]
    · rw [q_I_n (by omega), q_I_n (by omega), n1 _ (by omega) (by omega), k_d1_o (by omega)]; exact b4 i hi
    · rw [q_I_n (by omega), q_I_n (by omega), n1 _ (by omega) (by omega), k_d1_o (by omega)]; exact b5 p hp
    · rw [q_I_n (by omega), q_I_n (by omega), n1 _ (by omega) (by omega), k_d1_o (by omega)]; exact b6 p hp
    · rw [q_I_n (by omega), q_I_n (by omega), ht p hp]
      unfold k_d1
      rw [if_neg (by omega), if_neg (by omega), if_neg (by omega)]
    · rw [q_I_n (by omega), q_I_n (by omega), hw i hi]
      unfold k_d1
      rw [if_neg (by omega), if_neg (by omega), if_pos (by omega), if_pos (by omega), show 45 + i - 45 = i by omega]
  have c1 : c_rl _ s (k_d1 K) := c_rl_st hr2 q3 (by simp only [List.mem_cons, List.not_mem_nil, or_false]; omega) o1 (k_d1_ok h.2.2.1).2 st
  obtain ⟨M', e', q', a'⟩ := c_ruin (d := d + 1) (v := k_tot K) (k_m K) c1 (by omega)
  have hrb : k_rb (k_m K) (k_d1 K) = k_day K := by
    have := k_rfb (k_d1_ok h.2.2.1)
    rw [em] at this
    exact this
  rw [hrb] at a'
  refine ⟨M', ?_, (h1.sub (by simp)).tr ((h2.sub (by simp)).tr ((q3.sub (fun a ha => by simp only [List.mem_cons, List.not_mem_nil, or_false] at ha ⊢; omega)).tr (q'.sub (fun a ha => by simp only [List.mem_cons, List.not_mem_nil, or_false] at ha ⊢; omega)))), a'⟩
  rw [E_X0_passDay]
  simp (disch := omega) only [q_ckt, q_lt, q_cI, q_cJ, q_cV, q_cP, q_xI, q_xV, q_xP, q_xJ, g_gk, g_ga, g_gw, g_gp, g_gq, g_P, g_J, q_I_s, q_I_n, q_I_k, nI_add, pk_sub, pk_mul, nI_clamp, n_lt0, n_0lt, n_eq0, n_lt, n_le, n_eq, n_m1, n_m2, n_m9, n_12, n_19, n_10, n_01, n_1n1, n_0n1, n_1n0, n_0n0, n_dI, n_m1lt, q_inb, n_nar, n_nar0, n_nar1, n_bool, Bool.false_eq_true, Bool.true_eq_false, if_true, if_false, ↓reduceIte, Nat.reduceAdd, Nat.reduceMul, Nat.reduceSub, Nat.reduceLT, Nat.reduceLeDiff, Nat.reduceEqDiff, Nat.reduceMod, Nat.reduceDiv, q_F h.1, e1, q_F hr.1, q_T hr.1, c_use hr, e2, q_F hr2.1, c_woa hr2 f2 (fun i hi => k_td_gd h.2.2.1 hi)]
  exact ee.trans e'
end DY
