/-! kindest -/
section K2
variable {M : ir_M} {K A : Nat → Int32} {d i : Nat}
theorem r_ko (h : r_rl M K) (hi : i < k_m K) (kd : Bool) : ∃ M', m_X12_kindestOf (d + 8) 412 (nI (k_q K i)) (if kd = true then 1 else 0) M = ir_oI (k_on (k_ks K (k_as K) i kd (k_g K)).1) M' ∧ q_eq [418, 419, 420] M M' := by
  have hk := h.2.1
  have hb := k_bds hk
  have hq := k_qn hk hi
  have pl : ∀ v, k_pl (upd K (18 + k_q K i) v) (k_q K i) = some i := fun v => by
    rw [k_pl_cg (K := K) (by omega) (fun k h1 h2 => k_upd_n (by omega))]
    exact k_pl_q hk hi
  have L := q_up (σ := ir_M) (V := fun x t => v_X12_kindestOf_19 (d + 7) 412 (nI (k_q K i)) (if kd = true then 1 else 0) (K (18 + k_q K i)) (k_on (k_ks K (k_as K) i kd x).1) (k_ks K (k_as K) i kd x).2 (nI x) t) (N := k_g K) (I := fun _ t => q_eq [413, 418, 419, 420] M t ∧ ∃ v, v < k_g K ∧ r_rl t (upd K (18 + k_q K i) (nI v))) (K := fun t => ir_oI (k_on (k_ks K (k_as K) i kd (k_g K)).1) (ir_sI t 413 (18 + k_q K i) (K (18 + k_q K i)))) (by
    rintro x t hx ⟨hqe, v, hv, hr⟩
    have sa : k_sa K (upd K (18 + k_q K i) (nI v)) := k_sa_u (by omega)
    obtain ⟨n1, n2, n3, -, -⟩ := k_sa_n sa
    have go := r_go (d := d + 6) hr
    rw [n2] at go
    have po := r_placeOf (d := d + 5) hr (show k_q K i < 2 ^ 31 by omega)
    rw [pl] at po
    obtain ⟨t1, e1, q1⟩ := r_al (d := d + 3) hr (p := k_q K i) (g := nI x) (pl := nI i) (by omega) (k_gd_na (by omega))
    rw [k_sa_al sa] at e1
    have r1 := r_rl_eq hr q1 (by decide)
    have hlt := @k_ks_lt K (k_as K) i kd x
    obtain ⟨s, es⟩ : ∃ s, s = k_ks K (k_as K) i kd x := ⟨_, rfl⟩
    have e2 : k_ks K (k_as K) i kd (x + 1) = if k_al K (k_q K i) (nI x) (nI i) = true then (match s.1 with | none => (some x, k_ot K (upd (k_as K) i (nI x)) i) | some _ => if k_bt kd s.2 (k_ot K (upd (k_as K) i (nI x)) i) = true then (some x, k_ot K (upd (k_as K) i (nI x)) i) else s) else s := by rw [es]; rfl
    rw [e2]
    rw [← es] at hlt ⊢
    cases ea : k_al K (k_q K i) (nI x) (nI i)
    · rw [ea, if_neg (by decide)] at e1
      refine ⟨t1, ⟨hqe.tr (q1.sub (by decide)), v, hv, r1⟩, ?_⟩
      rw [L_X12_kindestOf_19]
      simp (disch := omega) only [q_ckt, q_lt, q_cI, q_cJ, q_cV, q_cP, q_xI, q_xV, q_xP, q_xJ, g_gk, g_ga, g_gw, g_gp, g_gq, g_P, g_J, q_I_s, q_I_n, q_I_k, nI_add, pk_sub, pk_mul, nI_clamp, n_lt0, n_0lt, n_eq0, n_lt, n_le, n_eq, n_m1, n_m2, n_m9, n_12, n_19, n_10, n_01, n_1n1, n_0n1, n_1n0, n_0n0, n_dI, n_m1lt, q_inb, n_nar, n_nar0, n_nar1, n_bool, Bool.false_eq_true, Bool.true_eq_false, if_true, if_false, ↓reduceIte, Nat.reduceAdd, Nat.reduceMul, Nat.reduceSub, Nat.reduceLT, Nat.reduceLeDiff, Nat.reduceEqDiff, Nat.reduceMod, Nat.reduceDiv, q_R hr.1, go, hx, po, k_on, e1]
    · rw [ea, if_pos rfl] at e1
      obtain ⟨t2, et2⟩ : ∃ N, N = ir_sI t1 413 (18 + k_q K i) (nI x) := ⟨_, rfl⟩
      have r2 : r_rl t2 (upd K (18 + k_q K i) (nI x)) := by
        refine ⟨by rw [et2]; exact r1.1, k_ask_k hk hq hx, fun k => ?_⟩
        rw [et2, q_I_u, r1.2.2]
        by_cases q : k = 18 + k_q K i
        · rw [if_pos q, q, k_upd_s]
        · rw [if_neg q, k_upd_n q, k_upd_n q]
      have sa2 : k_sa K (upd K (18 + k_q K i) (nI x)) := k_sa_u (by omega)
      obtain ⟨t3, e3, q3⟩ := r_fto (d := d) r2 (i := i) (by rw [(k_sa_n sa2).2.2.1]; exact hi)
      rw [k_ot_e hk hi hx ea, k_sa_q sa2 (by omega)] at e3
      have r3 := r_rl_eq r2 q3 (by decide)
      have q23 : q_eq [413, 418, 419, 420] t t3 := by
        refine (q1.sub (by decide)).tr (q_eq.tr ?_ (q3.sub (by decide)))
        rw [et2]
        exact q_eq.sI (by decide)
      refine ⟨t3, ⟨hqe.tr q23, x, hx, r3⟩, ?_⟩
      rw [L_X12_kindestOf_19]
      simp (disch := omega) only [q_ckt, q_lt, q_cI, q_cJ, q_cV, q_cP, q_xI, q_xV, q_xP, q_xJ, g_gk, g_ga, g_gw, g_gp, g_gq, g_P, g_J, q_I_s, q_I_n, q_I_k, nI_add, pk_sub, pk_mul, nI_clamp, n_lt0, n_0lt, n_eq0, n_lt, n_le, n_eq, n_m1, n_m2, n_m9, n_12, n_19, n_10, n_01, n_1n1, n_0n1, n_1n0, n_0n0, n_dI, n_m1lt, q_inb, n_nar, n_nar0, n_nar1, n_bool, Bool.false_eq_true, Bool.true_eq_false, if_true, if_false, ↓reduceIte, Nat.reduceAdd, Nat.reduceMul, Nat.reduceSub, Nat.reduceLT, Nat.reduceLeDiff, Nat.reduceEqDiff, Nat.reduceMod, Nat.reduceDiv, q_R hr.1, go, hx, po, k_on, e1, q_R r1.1]
      rw [← et2]
      simp (disch := omega) only [q_ckt, q_lt, q_cI, q_cJ, q_cV, q_cP, q_xI, q_xV, q_xP, q_xJ, g_gk, g_ga, g_gw, g_gp, g_gq, g_P, g_J, q_I_s, q_I_n, q_I_k, nI_add, pk_sub, pk_mul, nI_clamp, n_lt0, n_0lt, n_eq0, n_lt, n_le, n_eq, n_m1, n_m2, n_m9, n_12, n_19, n_10, n_01, n_1n1, n_0n1, n_1n0, n_0n0, n_dI, n_m1lt, q_inb, n_nar, n_nar0, n_nar1, n_bool, Bool.false_eq_true, Bool.true_eq_false, if_true, if_false, ↓reduceIte, Nat.reduceAdd, Nat.reduceMul, Nat.reduceSub, Nat.reduceLT, Nat.reduceLeDiff, Nat.reduceEqDiff, Nat.reduceMod, Nat.reduceDiv, q_R r2.1, e3]
      cases es1 : s.1 with
      | none => simp (disch := omega) only [q_ckt, q_lt, q_cI, q_cJ, q_cV, q_cP, q_xI, q_xV, q_xP, q_xJ, g_gk, g_ga, g_gw, g_gp, g_gq, g_P, g_J, q_I_s, q_I_n, q_I_k, nI_add, pk_sub, pk_mul, nI_clamp, n_lt0, n_0lt, n_eq0, n_lt, n_le, n_eq, n_m1, n_m2, n_m9, n_12, n_19, n_10, n_01, n_1n1, n_0n1, n_1n0, n_0n0, n_dI, n_m1lt, q_inb, n_nar, n_nar0, n_nar1, n_bool, Bool.false_eq_true, Bool.true_eq_false, if_true, if_false, ↓reduceIte, Nat.reduceAdd, Nat.reduceMul, Nat.reduceSub, Nat.reduceLT, Nat.reduceLeDiff, Nat.reduceEqDiff, Nat.reduceMod, Nat.reduceDiv, k_on]
      | some z =>
        have := (hlt es1).1
        simp (disch := omega) only [q_ckt, q_lt, q_cI, q_cJ, q_cV, q_cP, q_xI, q_xV, q_xP, q_xJ, g_gk, g_ga, g_gw, g_gp, g_gq, g_P, g_J, q_I_s, q_I_n, q_I_k, nI_add, pk_sub, pk_mul, nI_clamp, n_lt0, n_0lt, n_eq0, n_lt, n_le, n_eq, n_m1, n_m2, n_m9, n_12, n_19, n_10, n_01, n_1n1, n_0n1, n_1n0, n_0n0, n_dI, n_m1lt, q_inb, n_nar, n_nar0, n_nar1, n_bool, Bool.false_eq_true, Bool.true_eq_false, if_true, if_false, ↓reduceIte, Nat.reduceAdd, Nat.reduceMul, Nat.reduceSub, Nat.reduceLT, Nat.reduceLeDiff, Nat.reduceEqDiff, Nat.reduceMod, Nat.reduceDiv, k_on]
        unfold k_bt
        cases kd
        · simp (disch := omega) only [q_ckt, q_lt, q_cI, q_cJ, q_cV, q_cP, q_xI, q_xV, q_xP, q_xJ, g_gk, g_ga, g_gw, g_gp, g_gq, g_P, g_J, q_I_s, q_I_n, q_I_k, nI_add, pk_sub, pk_mul, nI_clamp, n_lt0, n_0lt, n_eq0, n_lt, n_le, n_eq, n_m1, n_m2, n_m9, n_12, n_19, n_10, n_01, n_1n1, n_0n1, n_1n0, n_0n0, n_dI, n_m1lt, q_inb, n_nar, n_nar0, n_nar1, n_bool, Bool.false_eq_true, Bool.true_eq_false, if_true, if_false, ↓reduceIte, Nat.reduceAdd, Nat.reduceMul, Nat.reduceSub, Nat.reduceLT, Nat.reduceLeDiff, Nat.reduceEqDiff, Nat.reduceMod, Nat.reduceDiv]
          by_cases qc : k_ot K (upd (k_as K) i (nI x)) i < s.2
          · rw [if_pos qc, decide_eq_true qc]
            simp (disch := omega) only [q_ckt, q_lt, q_cI, q_cJ, q_cV, q_cP, q_xI, q_xV, q_xP, q_xJ, g_gk, g_ga, g_gw, g_gp, g_gq, g_P, g_J, q_I_s, q_I_n, q_I_k, nI_add, pk_sub, pk_mul, nI_clamp, n_lt0, n_0lt, n_eq0, n_lt, n_le, n_eq, n_m1, n_m2, n_m9, n_12, n_19, n_10, n_01, n_1n1, n_0n1, n_1n0, n_0n0, n_dI, n_m1lt, q_inb, n_nar, n_nar0, n_nar1, n_bool, Bool.false_eq_true, Bool.true_eq_false, if_true, if_false, ↓reduceIte, Nat.reduceAdd, Nat.reduceMul, Nat.reduceSub, Nat.reduceLT, Nat.reduceLeDiff, Nat.reduceEqDiff, Nat.reduceMod, Nat.reduceDiv, k_on]
          · rw [if_neg qc, decide_eq_false qc]
            simp (disch := omega) only [q_ckt, q_lt, q_cI, q_cJ, q_cV, q_cP, q_xI, q_xV, q_xP, q_xJ, g_gk, g_ga, g_gw, g_gp, g_gq, g_P, g_J, q_I_s, q_I_n, q_I_k, nI_add, pk_sub, pk_mul, nI_clamp, n_lt0, n_0lt, n_eq0, n_lt, n_le, n_eq, n_m1, n_m2, n_m9, n_12, n_19, n_10, n_01, n_1n1, n_0n1, n_1n0, n_0n0, n_dI, n_m1lt, q_inb, n_nar, n_nar0, n_nar1, n_bool, Bool.false_eq_true, Bool.true_eq_false, if_true, if_false, ↓reduceIte, Nat.reduceAdd, Nat.reduceMul, Nat.reduceSub, Nat.reduceLT, Nat.reduceLeDiff, Nat.reduceEqDiff, Nat.reduceMod, Nat.reduceDiv, es1, k_on]
        · simp (disch := omega) only [q_ckt, q_lt, q_cI, q_cJ, q_cV, q_cP, q_xI, q_xV, q_xP, q_xJ, g_gk, g_ga, g_gw, g_gp, g_gq, g_P, g_J, q_I_s, q_I_n, q_I_k, nI_add, pk_sub, pk_mul, nI_clamp, n_lt0, n_0lt, n_eq0, n_lt, n_le, n_eq, n_m1, n_m2, n_m9, n_12, n_19, n_10, n_01, n_1n1, n_0n1, n_1n0, n_0n0, n_dI, n_m1lt, q_inb, n_nar, n_nar0, n_nar1, n_bool, Bool.false_eq_true, Bool.true_eq_false, if_true, if_false, ↓reduceIte, Nat.reduceAdd, Nat.reduceMul, Nat.reduceSub, Nat.reduceLT, Nat.reduceLeDiff, Nat.reduceEqDiff, Nat.reduceMod, Nat.reduceDiv]
          by_cases qc : s.2 < k_ot K (upd (k_as K) i (nI x)) i
          · rw [if_pos qc, decide_eq_true qc]
            simp (disch := omega) only [q_ckt, q_lt, q_cI, q_cJ, q_cV, q_cP, q_xI, q_xV, q_xP, q_xJ, g_gk, g_ga, g_gw, g_gp, g_gq, g_P, g_J, q_I_s, q_I_n, q_I_k, nI_add, pk_sub, pk_mul, nI_clamp, n_lt0, n_0lt, n_eq0, n_lt, n_le, n_eq, n_m1, n_m2, n_m9, n_12, n_19, n_10, n_01, n_1n1, n_0n1, n_1n0, n_0n0, n_dI, n_m1lt, q_inb, n_nar, n_nar0, n_nar1, n_bool, Bool.false_eq_true, Bool.true_eq_false, if_true, if_false, ↓reduceIte, Nat.reduceAdd, Nat.reduceMul, Nat.reduceSub, Nat.reduceLT, Nat.reduceLeDiff, Nat.reduceEqDiff, Nat.reduceMod, Nat.reduceDiv, k_on]
          · rw [if_neg qc, decide_eq_false qc]
            simp (disch := omega) only [q_ckt, q_lt, q_cI, q_cJ, q_cV, q_cP, q_xI, q_xV, q_xP, q_xJ, g_gk, g_ga, g_gw, g_gp, g_gq, g_P, g_J, q_I_s, q_I_n, q_I_k, nI_add, pk_sub, pk_mul, nI_clamp, n_lt0, n_0lt, n_eq0, n_lt, n_le, n_eq, n_m1, n_m2, n_m9, n_12, n_19, n_10, n_01, n_1n1, n_0n1, n_1n0, n_0n0, n_dI, n_m1lt, q_inb, n_nar, n_nar0, n_nar1, n_bool, Bool.false_eq_true, Bool.true_eq_false, if_true, if_false, ↓reduceIte, Nat.reduceAdd, Nat.reduceMul, Nat.reduceSub, Nat.reduceLT, Nat.reduceLeDiff, Nat.reduceEqDiff, Nat.reduceMod, Nat.reduceDiv, es1, k_on]) (by
    rintro t ⟨hqe, v, hv, hr⟩
    have sa : k_sa K (upd K (18 + k_q K i) (nI v)) := k_sa_u (by omega)
    have go := r_go (d := d + 6) hr
    rw [(k_sa_n sa).2.1] at go
    rw [L_X12_kindestOf_19]
    simp (disch := omega) only [q_ckt, q_lt, q_cI, q_cJ, q_cV, q_cP, q_xI, q_xV, q_xP, q_xJ, g_gk, g_ga, g_gw, g_gp, g_gq, g_P, g_J, q_I_s, q_I_n, q_I_k, nI_add, pk_sub, pk_mul, nI_clamp, n_lt0, n_0lt, n_eq0, n_lt, n_le, n_eq, n_m1, n_m2, n_m9, n_12, n_19, n_10, n_01, n_1n1, n_0n1, n_1n0, n_0n0, n_dI, n_m1lt, q_inb, n_nar, n_nar0, n_nar1, n_bool, Bool.false_eq_true, Bool.true_eq_false, if_true, if_false, ↓reduceIte, Nat.reduceAdd, Nat.reduceMul, Nat.reduceSub, Nat.reduceLT, Nat.reduceLeDiff, Nat.reduceEqDiff, Nat.reduceMod, Nat.reduceDiv, q_R hr.1, go, Nat.lt_irrefl]) (i := 0) (t := M) (by omega) ⟨q_eq.rf _ _, k_a K (k_q K i), k_ag hk hq, by rw [k_upd_self hk hq]; exact h⟩
  obtain ⟨t, ⟨hqe, v, hv, hr⟩, ee⟩ := L
  refine ⟨ir_sI t 413 (18 + k_q K i) (K (18 + k_q K i)), ?_, q_eq.dr (a := 413) (hqe.tr (q_eq.sI (by decide))) (funext fun k => ?_)⟩
  · rw [E_X12_kindestOf]
    simp (disch := omega) only [q_ckt, q_lt, q_cI, q_cJ, q_cV, q_cP, q_xI, q_xV, q_xP, q_xJ, g_gk, g_ga, g_gw, g_gp, g_gq, g_P, g_J, q_I_s, q_I_n, q_I_k, nI_add, pk_sub, pk_mul, nI_clamp, n_lt0, n_0lt, n_eq0, n_lt, n_le, n_eq, n_m1, n_m2, n_m9, n_12, n_19, n_10, n_01, n_1n1, n_0n1, n_1n0, n_0n0, n_dI, n_m1lt, q_inb, n_nar, n_nar0, n_nar1, n_bool, Bool.false_eq_true, Bool.true_eq_false, if_true, if_false, ↓reduceIte, Nat.reduceAdd, Nat.reduceMul, Nat.reduceSub, Nat.reduceLT, Nat.reduceLeDiff, Nat.reduceEqDiff, Nat.reduceMod, Nat.reduceDiv, q_R h.1, h.2.2]
    exact ee
  · show ir_I (ir_sI t 413 (18 + k_q K i) (K (18 + k_q K i))) 413 k = ir_I M 413 k
    rw [q_I_u, hr.2.2, h.2.2]
    by_cases q : k = 18 + k_q K i
    · rw [if_pos q, q]
    · rw [if_neg q, k_upd_n q]
theorem r_bfr (h : r_rl M K) (hi : i < k_m K) : ∃ M', m_X12_betterFor (d + 8) 412 (nI (k_q K i)) M = ir_oI (k_on (k_bs K (k_as K) i (k_g K)).1) M' ∧ q_eq [418, 419, 420] M M' := by
  have hk := h.2.1
  have hb := k_bds hk
  have hq := k_qn hk hi
  have pl : ∀ v, k_pl (upd K (18 + k_q K i) v) (k_q K i) = some i := fun v => by
    rw [k_pl_cg (K := K) (by omega) (fun k h1 h2 => k_upd_n (by omega))]
    exact k_pl_q hk hi
  obtain ⟨M1, e0, q0⟩ := r_likingOf (d := d) h hi
  have u1 := r_rl_eq h q0 (by decide)
  have L := q_up (σ := ir_M) (V := fun x t => v_X12_betterFor_22 (d + 7) 412 (nI (k_q K i)) (K (18 + k_q K i)) (k_bs K (k_as K) i x).2 (k_on (k_bs K (k_as K) i x).1) (nI x) t) (N := k_g K) (I := fun _ t => q_eq [413, 418, 419, 420] M t ∧ ∃ v, v < k_g K ∧ r_rl t (upd K (18 + k_q K i) (nI v))) (K := fun t => ir_oI (k_on (k_bs K (k_as K) i (k_g K)).1) (ir_sI t 413 (18 + k_q K i) (K (18 + k_q K i)))) (by
    rintro x t hx ⟨hqe, v, hv, hr⟩
    have sa : k_sa K (upd K (18 + k_q K i) (nI v)) := k_sa_u (by omega)
    obtain ⟨n1, n2, n3, -, -⟩ := k_sa_n sa
    have go := r_go (d := d + 6) hr
    rw [n2] at go
    have po := r_placeOf (d := d + 5) hr (show k_q K i < 2 ^ 31 by omega)
    rw [pl] at po
    obtain ⟨t1, e1, q1⟩ := r_al (d := d + 3) hr (p := k_q K i) (g := nI x) (pl := nI i) (by omega) (k_gd_na (by omega))
    rw [k_sa_al sa] at e1
    have r1 := r_rl_eq hr q1 (by decide)
    rw [show k_bs K (k_as K) i (x + 1) = if k_al K (k_q K i) (nI x) (nI i) = true then (if (k_bs K (k_as K) i x).2 < k_kl K (upd (k_as K) i (nI x)) i then (some x, k_kl K (upd (k_as K) i (nI x)) i) else k_bs K (k_as K) i x) else k_bs K (k_as K) i x from rfl]
    cases ea : k_al K (k_q K i) (nI x) (nI i)
    · rw [ea, if_neg (by decide)] at e1
      refine ⟨t1, ⟨hqe.tr (q1.sub (by decide)), v, hv, r1⟩, ?_⟩
      rw [L_X12_betterFor_22]
      simp (disch := omega) only [q_ckt, q_lt, q_cI, q_cJ, q_cV, q_cP, q_xI, q_xV, q_xP, q_xJ, g_gk, g_ga, g_gw, g_gp, g_gq, g_P, g_J, q_I_s, q_I_n, q_I_k, nI_add, pk_sub, pk_mul, nI_clamp, n_lt0, n_0lt, n_eq0, n_lt, n_le, n_eq, n_m1, n_m2, n_m9, n_12, n_19, n_10, n_01, n_1n1, n_0n1, n_1n0, n_0n0, n_dI, n_m1lt, q_inb, n_nar, n_nar0, n_nar1, n_bool, Bool.false_eq_true, Bool.true_eq_false, if_true, if_false, ↓reduceIte, Nat.reduceAdd, Nat.reduceMul, Nat.reduceSub, Nat.reduceLT, Nat.reduceLeDiff, Nat.reduceEqDiff, Nat.reduceMod, Nat.reduceDiv, q_R hr.1, go, hx, po, k_on, e1]
    · rw [ea, if_pos rfl] at e1
      obtain ⟨t2, et2⟩ : ∃ N, N = ir_sI t1 413 (18 + k_q K i) (nI x) := ⟨_, rfl⟩
      have r2 : r_rl t2 (upd K (18 + k_q K i) (nI x)) := by
        refine ⟨by rw [et2]; exact r1.1, k_ask_k hk hq hx, fun k => ?_⟩
        rw [et2, q_I_u, r1.2.2]
        by_cases q : k = 18 + k_q K i
        · rw [if_pos q, q, k_upd_s]
        · rw [if_neg q, k_upd_n q, k_upd_n q]
      have sa2 : k_sa K (upd K (18 + k_q K i) (nI x)) := k_sa_u (by omega)
      obtain ⟨t3, e3, q3⟩ := r_likingOf (d := d) r2 (i := i) (by rw [(k_sa_n sa2).2.2.1]; exact hi)
      rw [k_kl_e hk hi hx ea, k_sa_q sa2 (by omega)] at e3
      have r3 := r_rl_eq r2 q3 (by decide)
      have q23 : q_eq [413, 418, 419, 420] t t3 := by
        refine (q1.sub (by decide)).tr (q_eq.tr ?_ (q3.sub (by decide)))
        rw [et2]
        exact q_eq.sI (by decide)
      refine ⟨t3, ⟨hqe.tr q23, x, hx, r3⟩, ?_⟩
      rw [L_X12_betterFor_22]
      simp (disch := omega) only [q_ckt, q_lt, q_cI, q_cJ, q_cV, q_cP, q_xI, q_xV, q_xP, q_xJ, g_gk, g_ga, g_gw, g_gp, g_gq, g_P, g_J, q_I_s, q_I_n, q_I_k, nI_add, pk_sub, pk_mul, nI_clamp, n_lt0, n_0lt, n_eq0, n_lt, n_le, n_eq, n_m1, n_m2, n_m9, n_12, n_19, n_10, n_01, n_1n1, n_0n1, n_1n0, n_0n0, n_dI, n_m1lt, q_inb, n_nar, n_nar0, n_nar1, n_bool, Bool.false_eq_true, Bool.true_eq_false, if_true, if_false, ↓reduceIte, Nat.reduceAdd, Nat.reduceMul, Nat.reduceSub, Nat.reduceLT, Nat.reduceLeDiff, Nat.reduceEqDiff, Nat.reduceMod, Nat.reduceDiv, q_R hr.1, go, hx, po, k_on, e1, q_R r1.1]
      rw [← et2]
      simp (disch := omega) only [q_ckt, q_lt, q_cI, q_cJ, q_cV, q_cP, q_xI, q_xV, q_xP, q_xJ, g_gk, g_ga, g_gw, g_gp, g_gq, g_P, g_J, q_I_s, q_I_n, q_I_k, nI_add, pk_sub, pk_mul, nI_clamp, n_lt0, n_0lt, n_eq0, n_lt, n_le, n_eq, n_m1, n_m2, n_m9, n_12, n_19, n_10, n_01, n_1n1, n_0n1, n_1n0, n_0n0, n_dI, n_m1lt, q_inb, n_nar, n_nar0, n_nar1, n_bool, Bool.false_eq_true, Bool.true_eq_false, if_true, if_false, ↓reduceIte, Nat.reduceAdd, Nat.reduceMul, Nat.reduceSub, Nat.reduceLT, Nat.reduceLeDiff, Nat.reduceEqDiff, Nat.reduceMod, Nat.reduceDiv, q_R r2.1, e3]
      by_cases qc : (k_bs K (k_as K) i x).2 < k_kl K (upd (k_as K) i (nI x)) i
      · rw [if_pos qc, if_pos qc]
      · rw [if_neg qc, if_neg qc]) (by
    rintro t ⟨hqe, v, hv, hr⟩
    have sa : k_sa K (upd K (18 + k_q K i) (nI v)) := k_sa_u (by omega)
    have go := r_go (d := d + 6) hr
    rw [(k_sa_n sa).2.1] at go
    rw [L_X12_betterFor_22]
    simp (disch := omega) only [q_ckt, q_lt, q_cI, q_cJ, q_cV, q_cP, q_xI, q_xV, q_xP, q_xJ, g_gk, g_ga, g_gw, g_gp, g_gq, g_P, g_J, q_I_s, q_I_n, q_I_k, nI_add, pk_sub, pk_mul, nI_clamp, n_lt0, n_0lt, n_eq0, n_lt, n_le, n_eq, n_m1, n_m2, n_m9, n_12, n_19, n_10, n_01, n_1n1, n_0n1, n_1n0, n_0n0, n_dI, n_m1lt, q_inb, n_nar, n_nar0, n_nar1, n_bool, Bool.false_eq_true, Bool.true_eq_false, if_true, if_false, ↓reduceIte, Nat.reduceAdd, Nat.reduceMul, Nat.reduceSub, Nat.reduceLT, Nat.reduceLeDiff, Nat.reduceEqDiff, Nat.reduceMod, Nat.reduceDiv, q_R hr.1, go, Nat.lt_irrefl]) (i := 0) (t := M1) (by omega) ⟨q0.sub (by decide), k_a K (k_q K i), k_ag hk hq, by rw [k_upd_self hk hq]; exact u1⟩
  obtain ⟨t, ⟨hqe, v, hv, hr⟩, ee⟩ := L
  refine ⟨ir_sI t 413 (18 + k_q K i) (K (18 + k_q K i)), ?_, q_eq.dr (a := 413) (hqe.tr (q_eq.sI (by decide))) (funext fun k => ?_)⟩
  · rw [E_X12_betterFor]
    simp (disch := omega) only [q_ckt, q_lt, q_cI, q_cJ, q_cV, q_cP, q_xI, q_xV, q_xP, q_xJ, g_gk, g_ga, g_gw, g_gp, g_gq, g_P, g_J, q_I_s, q_I_n, q_I_k, nI_add, pk_sub, pk_mul, nI_clamp, n_lt0, n_0lt, n_eq0, n_lt, n_le, n_eq, n_m1, n_m2, n_m9, n_12, n_19, n_10, n_01, n_1n1, n_0n1, n_1n0, n_0n0, n_dI, n_m1lt, q_inb, n_nar, n_nar0, n_nar1, n_bool, Bool.false_eq_true, Bool.true_eq_false, if_true, if_false, ↓reduceIte, Nat.reduceAdd, Nat.reduceMul, Nat.reduceSub, Nat.reduceLT, Nat.reduceLeDiff, Nat.reduceEqDiff, Nat.reduceMod, Nat.reduceDiv, q_R h.1, h.2.2, e0]
    exact ee
  · show ir_I (ir_sI t 413 (18 + k_q K i) (K (18 + k_q K i))) 413 k = ir_I M 413 k
    rw [q_I_u, hr.2.2, h.2.2]
    by_cases q : k = 18 + k_q K i
    · rw [if_pos q, q]
    · rw [if_neg q, k_upd_n q]
end K2
section K3
variable {L : Nat} {xs : Nat → Int32}
theorem S_kindest (a b : Int32) (hb01 : b = 0 ∨ b = 1) : q_St L xs (q_Iv L xs) (m_L_kindest 200 1 a b 436) (m_X12_kindest 200 412 a b) := by
  obtain ⟨kd, rfl⟩ : ∃ kd : Bool, b = if kd = true then 1 else 0 := by
    rcases hb01 with rfl | rfl
    · exact ⟨false, rfl⟩
    · exact ⟨true, rfl⟩
  refine q_St_mk (x := m_X11_kindest 199 1 a (if kd = true then 1 else 0)) (fun M => E_L_kindest 199 1 a (if kd = true then 1 else 0) 436 M) fun M hp hI => ?_
  have hc := c_I_c hp hI.1
  have hr := c_I_r hp hI.1
  have hwf := hI.1.1
  generalize M.1 413 = K at hc hr hwf
  have hb := k_bds hc.2.2.1
  by_cases ha : k_rng a (k_n K)
  · obtain ⟨p, hpn, rfl⟩ := k_rng_of ha (by omega)
    cases e : k_pl K p with
    | none =>
      refine Or.inr ⟨2, 2, by omega, by omega, ?_, fun _ => rfl, fun M' s => ⟨nI 0, _, ?_, q_st_4 s.1.1 (k := 4) (v := nI 2) rfl, rfl, q_I_s⟩⟩
      · rw [E_X11_kindest 198]
        simp (disch := omega) only [q_ckt, q_lt, q_cI, q_cJ, q_cV, q_cP, q_xI, q_xV, q_xP, q_xJ, g_gk, g_ga, g_gw, g_gp, g_gq, g_P, g_J, q_I_s, q_I_n, q_I_k, nI_add, pk_sub, pk_mul, nI_clamp, n_lt0, n_0lt, n_eq0, n_lt, n_le, n_eq, n_m1, n_m2, n_m9, n_12, n_19, n_10, n_01, n_1n1, n_0n1, n_1n0, n_0n0, n_dI, n_m1lt, q_inb, n_nar, n_nar0, n_nar1, n_bool, Bool.false_eq_true, Bool.true_eq_false, if_true, if_false, ↓reduceIte, Nat.reduceAdd, Nat.reduceMul, Nat.reduceSub, Nat.reduceLT, Nat.reduceLeDiff, Nat.reduceEqDiff, Nat.reduceMod, Nat.reduceDiv, q_W hp, c_np hc, ha, c_ns hc hpn, e]
      · have hr' := q_st_r s hr
        rw [E_X12_kindest 199]
        simp (disch := omega) only [q_ckt, q_lt, q_cI, q_cJ, q_cV, q_cP, q_xI, q_xV, q_xP, q_xJ, g_gk, g_ga, g_gw, g_gp, g_gq, g_P, g_J, q_I_s, q_I_n, q_I_k, nI_add, pk_sub, pk_mul, nI_clamp, n_lt0, n_0lt, n_eq0, n_lt, n_le, n_eq, n_m1, n_m2, n_m9, n_12, n_19, n_10, n_01, n_1n1, n_0n1, n_1n0, n_0n0, n_dI, n_m1lt, q_inb, n_nar, n_nar0, n_nar1, n_bool, Bool.false_eq_true, Bool.true_eq_false, if_true, if_false, ↓reduceIte, Nat.reduceAdd, Nat.reduceMul, Nat.reduceSub, Nat.reduceLT, Nat.reduceLeDiff, Nat.reduceEqDiff, Nat.reduceMod, Nat.reduceDiv, q_R hr'.1, r_bf1 hr' hpn, e]
    | some i =>
      obtain ⟨him, hqi⟩ := k_pl_some e
      refine Or.inl ⟨k_on (k_ks K (k_as K) i kd (k_g K)).1, ?_, fun M' s => ?_⟩
      · obtain ⟨M1, e1, q1, r1, h1⟩ := c_layCh (d := 193) hc
        have c1 := c_rl_eq hc q1 (by decide)
        obtain ⟨M2, e2, q2, r2⟩ := c_ka (d := 194) c1 hwf r1 (fun j hj => k_as_gd hc.2.2.1 hj) h1 him kd
        refine ⟨M2, ?_, q_st_eq hp ((q1.sub (T := [9, 117, 118, 119, 120]) (by decide)).tr (q2.sub (by decide))) (by decide)⟩
        rw [E_X11_kindest 198]
        simp (disch := omega) only [q_ckt, q_lt, q_cI, q_cJ, q_cV, q_cP, q_xI, q_xV, q_xP, q_xJ, g_gk, g_ga, g_gw, g_gp, g_gq, g_P, g_J, q_I_s, q_I_n, q_I_k, nI_add, pk_sub, pk_mul, nI_clamp, n_lt0, n_0lt, n_eq0, n_lt, n_le, n_eq, n_m1, n_m2, n_m9, n_12, n_19, n_10, n_01, n_1n1, n_0n1, n_1n0, n_0n0, n_dI, n_m1lt, q_inb, n_nar, n_nar0, n_nar1, n_bool, Bool.false_eq_true, Bool.true_eq_false, if_true, if_false, ↓reduceIte, Nat.reduceAdd, Nat.reduceMul, Nat.reduceSub, Nat.reduceLT, Nat.reduceLeDiff, Nat.reduceEqDiff, Nat.reduceMod, Nat.reduceDiv, q_W hp, c_np hc, ha, c_ns hc hpn, e, e1, q_W c1.1, e2]
      · have hr' := q_st_r s hr
        have h4 := r_4 (v := nI 0) hr'
        obtain ⟨N1, f1, t1⟩ := r_ko (d := 191) h4 him kd
        rw [hqi] at f1
        refine ⟨N1, ?_, (q_st_4 hr'.1 rfl).tr (q_st_eq h4.1 t1 (by decide)), by rw [t1.2]; rfl, (q_I_eq t1 (by decide) 4).trans q_I_s⟩
        rw [E_X12_kindest 199]
        simp (disch := omega) only [q_ckt, q_lt, q_cI, q_cJ, q_cV, q_cP, q_xI, q_xV, q_xP, q_xJ, g_gk, g_ga, g_gw, g_gp, g_gq, g_P, g_J, q_I_s, q_I_n, q_I_k, nI_add, pk_sub, pk_mul, nI_clamp, n_lt0, n_0lt, n_eq0, n_lt, n_le, n_eq, n_m1, n_m2, n_m9, n_12, n_19, n_10, n_01, n_1n1, n_0n1, n_1n0, n_0n0, n_dI, n_m1lt, q_inb, n_nar, n_nar0, n_nar1, n_bool, Bool.false_eq_true, Bool.true_eq_false, if_true, if_false, ↓reduceIte, Nat.reduceAdd, Nat.reduceMul, Nat.reduceSub, Nat.reduceLT, Nat.reduceLeDiff, Nat.reduceEqDiff, Nat.reduceMod, Nat.reduceDiv, q_R hr'.1, r_bf1 hr' hpn, e, f1]
  · refine Or.inr ⟨1, 1, by omega, by omega, ?_, fun _ => rfl, fun M' s => ⟨nI 0, _, ?_, q_st_4 s.1.1 (k := 4) (v := nI 1) rfl, rfl, q_I_s⟩⟩
    · rw [E_X11_kindest 198]
      simp (disch := omega) only [q_ckt, q_lt, q_cI, q_cJ, q_cV, q_cP, q_xI, q_xV, q_xP, q_xJ, g_gk, g_ga, g_gw, g_gp, g_gq, g_P, g_J, q_I_s, q_I_n, q_I_k, nI_add, pk_sub, pk_mul, nI_clamp, n_lt0, n_0lt, n_eq0, n_lt, n_le, n_eq, n_m1, n_m2, n_m9, n_12, n_19, n_10, n_01, n_1n1, n_0n1, n_1n0, n_0n0, n_dI, n_m1lt, q_inb, n_nar, n_nar0, n_nar1, n_bool, Bool.false_eq_true, Bool.true_eq_false, if_true, if_false, ↓reduceIte, Nat.reduceAdd, Nat.reduceMul, Nat.reduceSub, Nat.reduceLT, Nat.reduceLeDiff, Nat.reduceEqDiff, Nat.reduceMod, Nat.reduceDiv, q_W hp, c_np hc, ha]
    · have hr' := q_st_r s hr
      rw [E_X12_kindest 199]
      simp (disch := omega) only [q_ckt, q_lt, q_cI, q_cJ, q_cV, q_cP, q_xI, q_xV, q_xP, q_xJ, g_gk, g_ga, g_gw, g_gp, g_gq, g_P, g_J, q_I_s, q_I_n, q_I_k, nI_add, pk_sub, pk_mul, nI_clamp, n_lt0, n_0lt, n_eq0, n_lt, n_le, n_eq, n_m1, n_m2, n_m9, n_12, n_19, n_10, n_01, n_1n1, n_0n1, n_1n0, n_0n0, n_dI, n_m1lt, q_inb, n_nar, n_nar0, n_nar1, n_bool, Bool.false_eq_true, Bool.true_eq_false, if_true, if_false, ↓reduceIte, Nat.reduceAdd, Nat.reduceMul, Nat.reduceSub, Nat.reduceLT, Nat.reduceLeDiff, Nat.reduceEqDiff, Nat.reduceMod, Nat.reduceDiv, q_R hr'.1, r_bf0 hr' ha]
end K3
