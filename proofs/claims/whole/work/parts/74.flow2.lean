/-! what is asked and what falls, in the class -/
theorem q_S_r : ∀ a ∈ q_S_l, 12 ≤ a ∧ a + 5 ≤ 403 ∧ (a + 5 ≤ 114 ∨ 140 ≤ a) := by decide +kernel
section FC
variable {M : ir_M} {K A Fl : Nat → Int32} {d s : Nat}
theorem c_wt (h : c_rl M s K) {p : Nat} {g : Int32} (hp : p < k_n K) (hg : k_gd K g) : m_X9_worthTo (d + 1) 4 (nI p) g M = ir_oI (k_wt K p g) M := by
  have hb := k_bds h.2.2.1
  rw [E_X9_worthTo]
  unfold k_wt
  rcases hg with rfl | ⟨j, hj, rfl⟩
  · simp (disch := omega) only [q_ckt, q_lt, q_cI, q_cJ, q_cV, q_cP, q_xI, q_xV, q_xP, q_xJ, g_gk, g_ga, g_gw, g_gp, g_gq, g_P, g_J, q_I_s, q_I_n, q_I_k, nI_add, pk_sub, pk_mul, nI_clamp, n_lt0, n_0lt, n_eq0, n_lt, n_le, n_eq, n_m1, n_m2, n_m9, n_12, n_19, n_10, n_01, n_1n1, n_0n1, n_1n0, n_0n0, n_dI, n_m1lt, q_inb, n_nar, n_nar0, n_nar1, n_bool, Bool.false_eq_true, Bool.true_eq_false, if_true, if_false, ↓reduceIte, Nat.reduceAdd, Nat.reduceMul, Nat.reduceSub, Nat.reduceLT, Nat.reduceLeDiff, Nat.reduceEqDiff, Nat.reduceMod, Nat.reduceDiv, n_00]
  · have e := h.2.2.2.1.2.2.2.2.2.2.2.2.1 p j hp hj
    simp (disch := omega) only [q_ckt, q_lt, q_cI, q_cJ, q_cV, q_cP, q_xI, q_xV, q_xP, q_xJ, g_gk, g_ga, g_gw, g_gp, g_gq, g_P, g_J, q_I_s, q_I_n, q_I_k, nI_add, pk_sub, pk_mul, nI_clamp, n_lt0, n_0lt, n_eq0, n_lt, n_le, n_eq, n_m1, n_m2, n_m9, n_12, n_19, n_10, n_01, n_1n1, n_0n1, n_1n0, n_0n0, n_dI, n_m1lt, q_inb, n_nar, n_nar0, n_nar1, n_bool, Bool.false_eq_true, Bool.true_eq_false, if_true, if_false, ↓reduceIte, Nat.reduceAdd, Nat.reduceMul, Nat.reduceSub, Nat.reduceLT, Nat.reduceLeDiff, Nat.reduceEqDiff, Nat.reduceMod, Nat.reduceDiv, q_T h.1, Nat.mul_comm p 6, e]
theorem c_lk (h : c_rl M s K) {p q : Nat} (hp : p < k_n K) (hq : q < k_n K) : m_X9_likesOf (d + 1) 4 (nI p) (nI q) M = ir_oI (K (109 + 8 * p + q)) M := by
  have hb := k_bds h.2.2.1
  have e := h.2.2.2.1.2.2.2.2.2.2.2.2.2.1 p q hp hq
  rw [E_X9_likesOf]
  simp (disch := omega) only [q_ckt, q_lt, q_cI, q_cJ, q_cV, q_cP, q_xI, q_xV, q_xP, q_xJ, g_gk, g_ga, g_gw, g_gp, g_gq, g_P, g_J, q_I_s, q_I_n, q_I_k, nI_add, pk_sub, pk_mul, nI_clamp, n_lt0, n_0lt, n_eq0, n_lt, n_le, n_eq, n_m1, n_m2, n_m9, n_12, n_19, n_10, n_01, n_1n1, n_0n1, n_1n0, n_0n0, n_dI, n_m1lt, q_inb, n_nar, n_nar0, n_nar1, n_bool, Bool.false_eq_true, Bool.true_eq_false, if_true, if_false, ↓reduceIte, Nat.reduceAdd, Nat.reduceMul, Nat.reduceSub, Nat.reduceLT, Nat.reduceLeDiff, Nat.reduceEqDiff, Nat.reduceMod, Nat.reduceDiv, q_T h.1, Nat.mul_comm p 8, e]
theorem c_lf (h : c_rl M s K) {p : Nat} {g pl : Int32} (hp : p < k_n K) (hg : k_gd K g) : ∃ M', m_X0_lawfulFor (d + 3) 116 4 s (nI p) pl g M = ir_oI (if k_al K p g pl = true then 1 else 0) M' ∧ q_eq [9, 120] M M' := by
  have hb := k_bds h.2.2.1
  have hr := q_S_r s h.2.1
  have hu := c_use h
  have h1 : c_rl (ir_sI M 120 0 g) s K := c_rl_eq h (q_eq.sI (S := [120]) (by decide)) (by decide)
  obtain ⟨N, eN⟩ : ∃ N, N = ir_sI (ir_sI (ir_sI (ir_sI (ir_sI (ir_sI (ir_sI (ir_sI M 120 0 g) 120 1 (k_wt K p g)) 120 2 (K (53 + p))) 120 3 (K (26 + p))) 120 4 pl) 120 5 (nI (k_m K) - nI 1 - pl)) 120 6 (K (34 + p))) 120 7 (K 42 - K 42 / nI 10 * nI 10) := ⟨_, rfl⟩
  have E : m_X0_lawfulFor (d + 3) 116 4 s (nI p) pl g M = ir_cI (m_X1_holds (d + 2) 7 120 N) (fun r M' => ir_ck (ir_nar 1 r) (ir_oI r M')) := by
    rw [E_X0_lawfulFor, eN]
    simp (disch := omega) only [q_ckt, q_lt, q_cI, q_cJ, q_cV, q_cP, q_xI, q_xV, q_xP, q_xJ, g_gk, g_ga, g_gw, g_gp, g_gq, g_P, g_J, q_I_s, q_I_n, q_I_k, nI_add, pk_sub, pk_mul, nI_clamp, n_lt0, n_0lt, n_eq0, n_lt, n_le, n_eq, n_m1, n_m2, n_m9, n_12, n_19, n_10, n_01, n_1n1, n_0n1, n_1n0, n_0n0, n_dI, n_m1lt, q_inb, n_nar, n_nar0, n_nar1, n_bool, Bool.false_eq_true, Bool.true_eq_false, if_true, if_false, ↓reduceIte, Nat.reduceAdd, Nat.reduceMul, Nat.reduceSub, Nat.reduceLT, Nat.reduceLeDiff, Nat.reduceEqDiff, Nat.reduceMod, Nat.reduceDiv, q_F h.1, q_T h.1, q_S h.1 h.2.1, c_wt h1 hp hg, hu, hp]
  have eq : q_eq [120] M N := by
    rw [eN]
    exact ((((((((q_eq.sI (by decide)).tr (q_eq.sI (by decide))).tr (q_eq.sI (by decide))).tr (q_eq.sI (by decide))).tr (q_eq.sI (by decide))).tr (q_eq.sI (by decide))).tr (q_eq.sI (by decide))).tr (q_eq.sI (by decide)))
  have hN := c_rl_eq h eq (by decide)
  obtain ⟨M', e', he'⟩ := c_holds (d := d) (wd := k_wd K p g pl) hN.1 h.2.2.1.1.2.2.2.2.2.2.2.2 hN.2.2.2.1.2.2.2.2.2.2.2.2.2.2 (fun w hw => by
    have : w = 0 ∨ w = 1 ∨ w = 2 ∨ w = 3 ∨ w = 4 ∨ w = 5 ∨ w = 6 ∨ w = 7 := by omega
    show ir_I N 120 w = _
    rw [eN]
    have k9 := (k_use h.2.2.1).2.2.2.1
    rcases this with rfl | rfl | rfl | rfl | rfl | rfl | rfl | rfl
    · simp (disch := omega) only [q_ckt, q_lt, q_cI, q_cJ, q_cV, q_cP, q_xI, q_xV, q_xP, q_xJ, g_gk, g_ga, g_gw, g_gp, g_gq, g_P, g_J, q_I_s, q_I_n, q_I_k, nI_add, pk_sub, pk_mul, nI_clamp, n_lt0, n_0lt, n_eq0, n_lt, n_le, n_eq, n_m1, n_m2, n_m9, n_12, n_19, n_10, n_01, n_1n1, n_0n1, n_1n0, n_0n0, n_dI, n_m1lt, q_inb, n_nar, n_nar0, n_nar1, n_bool, Bool.false_eq_true, Bool.true_eq_false, if_true, if_false, ↓reduceIte, Nat.reduceAdd, Nat.reduceMul, Nat.reduceSub, Nat.reduceLT, Nat.reduceLeDiff, Nat.reduceEqDiff, Nat.reduceMod, Nat.reduceDiv, k_wd]
    · simp (disch := omega) only [q_ckt, q_lt, q_cI, q_cJ, q_cV, q_cP, q_xI, q_xV, q_xP, q_xJ, g_gk, g_ga, g_gw, g_gp, g_gq, g_P, g_J, q_I_s, q_I_n, q_I_k, nI_add, pk_sub, pk_mul, nI_clamp, n_lt0, n_0lt, n_eq0, n_lt, n_le, n_eq, n_m1, n_m2, n_m9, n_12, n_19, n_10, n_01, n_1n1, n_0n1, n_1n0, n_0n0, n_dI, n_m1lt, q_inb, n_nar, n_nar0, n_nar1, n_bool, Bool.false_eq_true, Bool.true_eq_false, if_true, if_false, ↓reduceIte, Nat.reduceAdd, Nat.reduceMul, Nat.reduceSub, Nat.reduceLT, Nat.reduceLeDiff, Nat.reduceEqDiff, Nat.reduceMod, Nat.reduceDiv, k_wd]
    · simp (disch := omega) only [q_ckt, q_lt, q_cI, q_cJ, q_cV, q_cP, q_xI, q_xV, q_xP, q_xJ, g_gk, g_ga, g_gw, g_gp, g_gq, g_P, g_J, q_I_s, q_I_n, q_I_k, nI_add, pk_sub, pk_mul, nI_clamp, n_lt0, n_0lt, n_eq0, n_lt, n_le, n_eq, n_m1, n_m2, n_m9, n_12, n_19, n_10, n_01, n_1n1, n_0n1, n_1n0, n_0n0, n_dI, n_m1lt, q_inb, n_nar, n_nar0, n_nar1, n_bool, Bool.false_eq_true, Bool.true_eq_false, if_true, if_false, ↓reduceIte, Nat.reduceAdd, Nat.reduceMul, Nat.reduceSub, Nat.reduceLT, Nat.reduceLeDiff, Nat.reduceEqDiff, Nat.reduceMod, Nat.reduceDiv, k_wd]
    · simp (disch := omega) only [q_ckt, q_lt, q_cI, q_cJ, q_cV, q_cP, q_xI, q_xV, q_xP, q_xJ, g_gk, g_ga, g_gw, g_gp, g_gq, g_P, g_J, q_I_s, q_I_n, q_I_k, nI_add, pk_sub, pk_mul, nI_clamp, n_lt0, n_0lt, n_eq0, n_lt, n_le, n_eq, n_m1, n_m2, n_m9, n_12, n_19, n_10, n_01, n_1n1, n_0n1, n_1n0, n_0n0, n_dI, n_m1lt, q_inb, n_nar, n_nar0, n_nar1, n_bool, Bool.false_eq_true, Bool.true_eq_false, if_true, if_false, ↓reduceIte, Nat.reduceAdd, Nat.reduceMul, Nat.reduceSub, Nat.reduceLT, Nat.reduceLeDiff, Nat.reduceEqDiff, Nat.reduceMod, Nat.reduceDiv, k_wd]
    · simp (disch := omega) only [q_ckt, q_lt, q_cI, q_cJ, q_cV, q_cP, q_xI, q_xV, q_xP, q_xJ, g_gk, g_ga, g_gw, g_gp, g_gq, g_P, g_J, q_I_s, q_I_n, q_I_k, nI_add, pk_sub, pk_mul, nI_clamp, n_lt0, n_0lt, n_eq0, n_lt, n_le, n_eq, n_m1, n_m2, n_m9, n_12, n_19, n_10, n_01, n_1n1, n_0n1, n_1n0, n_0n0, n_dI, n_m1lt, q_inb, n_nar, n_nar0, n_nar1, n_bool, Bool.false_eq_true, Bool.true_eq_false, if_true, if_false, ↓reduceIte, Nat.reduceAdd, Nat.reduceMul, Nat.reduceSub, Nat.reduceLT, Nat.reduceLeDiff, Nat.reduceEqDiff, Nat.reduceMod, Nat.reduceDiv, k_wd]
    · simp (disch := omega) only [q_ckt, q_lt, q_cI, q_cJ, q_cV, q_cP, q_xI, q_xV, q_xP, q_xJ, g_gk, g_ga, g_gw, g_gp, g_gq, g_P, g_J, q_I_s, q_I_n, q_I_k, nI_add, pk_sub, pk_mul, nI_clamp, n_lt0, n_0lt, n_eq0, n_lt, n_le, n_eq, n_m1, n_m2, n_m9, n_12, n_19, n_10, n_01, n_1n1, n_0n1, n_1n0, n_0n0, n_dI, n_m1lt, q_inb, n_nar, n_nar0, n_nar1, n_bool, Bool.false_eq_true, Bool.true_eq_false, if_true, if_false, ↓reduceIte, Nat.reduceAdd, Nat.reduceMul, Nat.reduceSub, Nat.reduceLT, Nat.reduceLeDiff, Nat.reduceEqDiff, Nat.reduceMod, Nat.reduceDiv, k_wd, k9]
      rfl
    · simp (disch := omega) only [q_ckt, q_lt, q_cI, q_cJ, q_cV, q_cP, q_xI, q_xV, q_xP, q_xJ, g_gk, g_ga, g_gw, g_gp, g_gq, g_P, g_J, q_I_s, q_I_n, q_I_k, nI_add, pk_sub, pk_mul, nI_clamp, n_lt0, n_0lt, n_eq0, n_lt, n_le, n_eq, n_m1, n_m2, n_m9, n_12, n_19, n_10, n_01, n_1n1, n_0n1, n_1n0, n_0n0, n_dI, n_m1lt, q_inb, n_nar, n_nar0, n_nar1, n_bool, Bool.false_eq_true, Bool.true_eq_false, if_true, if_false, ↓reduceIte, Nat.reduceAdd, Nat.reduceMul, Nat.reduceSub, Nat.reduceLT, Nat.reduceLeDiff, Nat.reduceEqDiff, Nat.reduceMod, Nat.reduceDiv, k_wd]
    · simp (disch := omega) only [q_ckt, q_lt, q_cI, q_cJ, q_cV, q_cP, q_xI, q_xV, q_xP, q_xJ, g_gk, g_ga, g_gw, g_gp, g_gq, g_P, g_J, q_I_s, q_I_n, q_I_k, nI_add, pk_sub, pk_mul, nI_clamp, n_lt0, n_0lt, n_eq0, n_lt, n_le, n_eq, n_m1, n_m2, n_m9, n_12, n_19, n_10, n_01, n_1n1, n_0n1, n_1n0, n_0n0, n_dI, n_m1lt, q_inb, n_nar, n_nar0, n_nar1, n_bool, Bool.false_eq_true, Bool.true_eq_false, if_true, if_false, ↓reduceIte, Nat.reduceAdd, Nat.reduceMul, Nat.reduceSub, Nat.reduceLT, Nat.reduceLeDiff, Nat.reduceEqDiff, Nat.reduceMod, Nat.reduceDiv, k_wd]
      rfl)
  refine ⟨M', ?_, (eq.sub (by decide)).tr (he'.sub (by decide))⟩
  rw [E, show m_X1_holds (d + 2) 7 120 N = ir_oI (if k_al K p g pl = true then 1 else 0) M' from e']
  simp (disch := omega) only [q_ckt, q_lt, q_cI, q_cJ, q_cV, q_cP, q_xI, q_xV, q_xP, q_xJ, g_gk, g_ga, g_gw, g_gp, g_gq, g_P, g_J, q_I_s, q_I_n, q_I_k, nI_add, pk_sub, pk_mul, nI_clamp, n_lt0, n_0lt, n_eq0, n_lt, n_le, n_eq, n_m1, n_m2, n_m9, n_12, n_19, n_10, n_01, n_1n1, n_0n1, n_1n0, n_0n0, n_dI, n_m1lt, q_inb, n_nar, n_nar0, n_nar1, n_bool, Bool.false_eq_true, Bool.true_eq_false, if_true, if_false, ↓reduceIte, Nat.reduceAdd, Nat.reduceMul, Nat.reduceSub, Nat.reduceLT, Nat.reduceLeDiff, Nat.reduceEqDiff, Nat.reduceMod, Nat.reduceDiv]
theorem c_la (h : c_rl M s K) : ∃ M', m_X0_layAsked (d + 4) 116 4 s M = ir_oV M' ∧ q_eq [9, 117, 120] M M' ∧ ∀ i, i < k_m K → ir_I M' 117 (3 + i) = k_as K i := by
  rw [E_X0_layAsked]
  have hb := k_bds h.2.2.1
  have L := q_up (σ := ir_M) (V := fun i t => v_X0_layAsked_2 (d + 3) 116 4 s (nI i) t) (N := k_m K) (I := fun i t => q_eq [9, 117, 120] M t ∧ ∀ k, k < i → ir_I t 117 (3 + k) = k_as K k) (K := ir_oV) (by
    rintro i t hi ⟨he, ha⟩
    have ht := c_rl_eq h he (by decide)
    have hq := k_qn h.2.2.1 hi
    obtain ⟨M2, e2, he2⟩ := c_lf (d := d) (pl := nI i) ht hq (k_gd_na (k_ag h.2.2.1 hq))
    have h2 := c_rl_eq ht he2 (by decide)
    refine ⟨ir_sI M2 117 (3 + i) (k_as K i), ⟨he.tr ((he2.sub (by decide)).tr (q_eq.sI (by decide))), fun k hk => ?_⟩, ?_⟩
    · by_cases q : k = i
      · rw [q, q_I_s]
      · rw [q_I_k (by omega), q_I_eq he2 (by decide)]
        exact ha k (by omega)
    · rw [L_X0_layAsked_2]
      unfold k_as
      cases hal : k_al K (k_q K i) (nI (k_a K (k_q K i))) (nI i) <;> simp (disch := omega) only [q_ckt, q_lt, q_cI, q_cJ, q_cV, q_cP, q_xI, q_xV, q_xP, q_xJ, g_gk, g_ga, g_gw, g_gp, g_gq, g_P, g_J, q_I_s, q_I_n, q_I_k, nI_add, pk_sub, pk_mul, nI_clamp, n_lt0, n_0lt, n_eq0, n_lt, n_le, n_eq, n_m1, n_m2, n_m9, n_12, n_19, n_10, n_01, n_1n1, n_0n1, n_1n0, n_0n0, n_dI, n_m1lt, q_inb, n_nar, n_nar0, n_nar1, n_bool, Bool.false_eq_true, Bool.true_eq_false, if_true, if_false, ↓reduceIte, Nat.reduceAdd, Nat.reduceMul, Nat.reduceSub, Nat.reduceLT, Nat.reduceLeDiff, Nat.reduceEqDiff, Nat.reduceMod, Nat.reduceDiv, q_F ht.1, q_S ht.1 ht.2.1, c_use ht, e2, hal, hq, q_F h2.1, hi, Bool.false_eq_true]) (by
    rintro t ⟨he, ha⟩
    have ht := c_rl_eq h he (by decide)
    rw [L_X0_layAsked_2]
    simp (disch := omega) only [q_ckt, q_lt, q_cI, q_cJ, q_cV, q_cP, q_xI, q_xV, q_xP, q_xJ, g_gk, g_ga, g_gw, g_gp, g_gq, g_P, g_J, q_I_s, q_I_n, q_I_k, nI_add, pk_sub, pk_mul, nI_clamp, n_lt0, n_0lt, n_eq0, n_lt, n_le, n_eq, n_m1, n_m2, n_m9, n_12, n_19, n_10, n_01, n_1n1, n_0n1, n_1n0, n_0n0, n_dI, n_m1lt, q_inb, n_nar, n_nar0, n_nar1, n_bool, Bool.false_eq_true, Bool.true_eq_false, if_true, if_false, ↓reduceIte, Nat.reduceAdd, Nat.reduceMul, Nat.reduceSub, Nat.reduceLT, Nat.reduceLeDiff, Nat.reduceEqDiff, Nat.reduceMod, Nat.reduceDiv, q_S ht.1 ht.2.1, c_use ht, Nat.lt_irrefl]) (i := 0) (t := M) (by omega) ⟨q_eq.rf _ _, fun k hk => by omega⟩
  obtain ⟨M', ⟨he, ha⟩, e⟩ := L
  exact ⟨M', e, he, ha⟩
/-- those ahead of the first one -/
def k_bk (K : Nat → Int32) (A : Nat → Int32) (b : Nat) : Int32 := if K 43 = 1 then A ((3 * k_m K - b) % k_m K) else if K 5 = 1 ∧ b ≤ k_w K then K (45 + (k_w K - b)) else -2
theorem c_lh (h : c_rl M s K) (hA : ∀ j, j < k_m K → ir_I M 117 (3 + j) = A j) : ∃ M', m_X0_layAhead (d + 2) 116 4 s M = ir_oV M' ∧ q_eq [117] M M' ∧ (∀ j, 3 ≤ j → ir_I M' 117 j = ir_I M 117 j) ∧ (0 < k_m K → ∀ b, 1 ≤ b → b ≤ 3 → ir_I M' 117 (3 - b) = k_bk K A b) := by
  rw [E_X0_layAhead]
  have hb := k_bds h.2.2.1
  have L := q_up (σ := ir_M) (V := fun i t => v_X0_layAhead_2 (d + 1) 116 4 s (nI i) t) (N := 4) (I := fun i t => 1 ≤ i ∧ q_eq [117] M t ∧ (∀ j, 3 ≤ j → ir_I t 117 j = ir_I M 117 j) ∧ (0 < k_m K → ∀ b, 1 ≤ b → b < i → ir_I t 117 (3 - b) = k_bk K A b)) (K := ir_oV) (by
    rintro i t hi ⟨h1, he, ha, hbk⟩
    have ht := c_rl_eq h he (by decide)
    have hu := c_use ht
    have st : ∀ v, (0 < k_m K → v = k_bk K A i) → ∃ t', (1 ≤ i + 1 ∧ q_eq [117] M t' ∧ (∀ j, 3 ≤ j → ir_I t' 117 j = ir_I M 117 j) ∧ (0 < k_m K → ∀ b, 1 ≤ b → b < i + 1 → ir_I t' 117 (3 - b) = k_bk K A b)) ∧ v_X0_layAhead_80 (d + 1) 116 4 s (nI i) v t = v_X0_layAhead_2 (d + 1) 116 4 s (nI (i + 1)) t' := fun v hv => by
      refine ⟨ir_sI t 117 (3 - i) v, ⟨by omega, he.tr (q_eq.sI (by decide)), fun j hj => ?_, fun h0 b hb1 hb2 => ?_⟩, ?_⟩
      · rw [q_I_k (by omega)]
        exact ha j hj
      · by_cases q : b = i
        · rw [q, q_I_s]
          exact hv h0
        · rw [q_I_k (by omega)]
          exact hbk h0 b hb1 (by omega)
      · rw [L_X0_layAhead_80]
        simp (disch := omega) only [q_ckt, q_lt, q_cI, q_cJ, q_cV, q_cP, q_xI, q_xV, q_xP, q_xJ, g_gk, g_ga, g_gw, g_gp, g_gq, g_P, g_J, q_I_s, q_I_n, q_I_k, nI_add, pk_sub, pk_mul, nI_clamp, n_lt0, n_0lt, n_eq0, n_lt, n_le, n_eq, n_m1, n_m2, n_m9, n_12, n_19, n_10, n_01, n_1n1, n_0n1, n_1n0, n_0n0, n_dI, n_m1lt, q_inb, n_nar, n_nar0, n_nar1, n_bool, Bool.false_eq_true, Bool.true_eq_false, if_true, if_false, ↓reduceIte, Nat.reduceAdd, Nat.reduceMul, Nat.reduceSub, Nat.reduceLT, Nat.reduceLeDiff, Nat.reduceEqDiff, Nat.reduceMod, Nat.reduceDiv, q_F ht.1]
    have W : ∀ v, v_X0_layAhead_2 (d + 1) 116 4 s (nI i) t = v_X0_layAhead_80 (d + 1) 116 4 s (nI i) v t → (0 < k_m K → v = k_bk K A i) → ∃ t', (1 ≤ i + 1 ∧ q_eq [117] M t' ∧ (∀ j, 3 ≤ j → ir_I t' 117 j = ir_I M 117 j) ∧ (0 < k_m K → ∀ b, 1 ≤ b → b < i + 1 → ir_I t' 117 (3 - b) = k_bk K A b)) ∧ v_X0_layAhead_2 (d + 1) 116 4 s (nI i) t = v_X0_layAhead_2 (d + 1) 116 4 s (nI (i + 1)) t' := fun v e hv => by
      rw [e]
      exact st v hv
    by_cases h43 : K 43 = 1
    · by_cases hm : 0 < k_m K
      · have hmod : (3 * k_m K - i) % k_m K < k_m K := Nat.mod_lt _ hm
        have hA1 := (ha (3 + (3 * k_m K - i) % k_m K) (by omega)).trans (hA _ hmod)
        refine W _ ?_ (fun _ => by unfold k_bk; rw [if_pos h43])
        rw [L_X0_layAhead_2]
        simp (disch := omega) only [q_ckt, q_lt, q_cI, q_cJ, q_cV, q_cP, q_xI, q_xV, q_xP, q_xJ, g_gk, g_ga, g_gw, g_gp, g_gq, g_P, g_J, q_I_s, q_I_n, q_I_k, nI_add, pk_sub, pk_mul, nI_clamp, n_lt0, n_0lt, n_eq0, n_lt, n_le, n_eq, n_m1, n_m2, n_m9, n_12, n_19, n_10, n_01, n_1n1, n_0n1, n_1n0, n_0n0, n_dI, n_m1lt, q_inb, n_nar, n_nar0, n_nar1, n_bool, Bool.false_eq_true, Bool.true_eq_false, if_true, if_false, ↓reduceIte, Nat.reduceAdd, Nat.reduceMul, Nat.reduceSub, Nat.reduceLT, Nat.reduceLeDiff, Nat.reduceEqDiff, Nat.reduceMod, Nat.reduceDiv, show ¬ (3 < i) by omega, q_S ht.1 ht.2.1, q_F ht.1, hu, h43, hm, E_X0_placeRound, pk_rem, hA1]
      · refine W (-2) ?_ (fun q => absurd q hm)
        rw [L_X0_layAhead_2]
        simp (disch := omega) only [q_ckt, q_lt, q_cI, q_cJ, q_cV, q_cP, q_xI, q_xV, q_xP, q_xJ, g_gk, g_ga, g_gw, g_gp, g_gq, g_P, g_J, q_I_s, q_I_n, q_I_k, nI_add, pk_sub, pk_mul, nI_clamp, n_lt0, n_0lt, n_eq0, n_lt, n_le, n_eq, n_m1, n_m2, n_m9, n_12, n_19, n_10, n_01, n_1n1, n_0n1, n_1n0, n_0n0, n_dI, n_m1lt, q_inb, n_nar, n_nar0, n_nar1, n_bool, Bool.false_eq_true, Bool.true_eq_false, if_true, if_false, ↓reduceIte, Nat.reduceAdd, Nat.reduceMul, Nat.reduceSub, Nat.reduceLT, Nat.reduceLeDiff, Nat.reduceEqDiff, Nat.reduceMod, Nat.reduceDiv, show ¬ (3 < i) by omega, q_S ht.1 ht.2.1, q_F ht.1, hu, h43, hm]
        rw [L_X0_layAhead_45]
        simp (disch := omega) only [q_ckt, q_lt, q_cI, q_cJ, q_cV, q_cP, q_xI, q_xV, q_xP, q_xJ, g_gk, g_ga, g_gw, g_gp, g_gq, g_P, g_J, q_I_s, q_I_n, q_I_k, nI_add, pk_sub, pk_mul, nI_clamp, n_lt0, n_0lt, n_eq0, n_lt, n_le, n_eq, n_m1, n_m2, n_m9, n_12, n_19, n_10, n_01, n_1n1, n_0n1, n_1n0, n_0n0, n_dI, n_m1lt, q_inb, n_nar, n_nar0, n_nar1, n_bool, Bool.false_eq_true, Bool.true_eq_false, if_true, if_false, ↓reduceIte, Nat.reduceAdd, Nat.reduceMul, Nat.reduceSub, Nat.reduceLT, Nat.reduceLeDiff, Nat.reduceEqDiff, Nat.reduceMod, Nat.reduceDiv, q_S ht.1 ht.2.1, hu, h43]
    · have e43 : K 43 = 0 := h.2.2.1.2.2.2.2.2.2.2.2.1.resolve_right h43
      by_cases h5 : K 5 = 1
      · by_cases hw : i ≤ k_w K
        · refine W _ ?_ (fun _ => by unfold k_bk; rw [if_neg h43, if_pos ⟨h5, hw⟩])
          rw [L_X0_layAhead_2]
          simp (disch := omega) only [q_ckt, q_lt, q_cI, q_cJ, q_cV, q_cP, q_xI, q_xV, q_xP, q_xJ, g_gk, g_ga, g_gw, g_gp, g_gq, g_P, g_J, q_I_s, q_I_n, q_I_k, nI_add, pk_sub, pk_mul, nI_clamp, n_lt0, n_0lt, n_eq0, n_lt, n_le, n_eq, n_m1, n_m2, n_m9, n_12, n_19, n_10, n_01, n_1n1, n_0n1, n_1n0, n_0n0, n_dI, n_m1lt, q_inb, n_nar, n_nar0, n_nar1, n_bool, Bool.false_eq_true, Bool.true_eq_false, if_true, if_false, ↓reduceIte, Nat.reduceAdd, Nat.reduceMul, Nat.reduceSub, Nat.reduceLT, Nat.reduceLeDiff, Nat.reduceEqDiff, Nat.reduceMod, Nat.reduceDiv, show ¬ (3 < i) by omega, q_S ht.1 ht.2.1, hu, e43]
          rw [L_X0_layAhead_45]
          simp (disch := omega) only [q_ckt, q_lt, q_cI, q_cJ, q_cV, q_cP, q_xI, q_xV, q_xP, q_xJ, g_gk, g_ga, g_gw, g_gp, g_gq, g_P, g_J, q_I_s, q_I_n, q_I_k, nI_add, pk_sub, pk_mul, nI_clamp, n_lt0, n_0lt, n_eq0, n_lt, n_le, n_eq, n_m1, n_m2, n_m9, n_12, n_19, n_10, n_01, n_1n1, n_0n1, n_1n0, n_0n0, n_dI, n_m1lt, q_inb, n_nar, n_nar0, n_nar1, n_bool, Bool.false_eq_true, Bool.true_eq_false, if_true, if_false, ↓reduceIte, Nat.reduceAdd, Nat.reduceMul, Nat.reduceSub, Nat.reduceLT, Nat.reduceLeDiff, Nat.reduceEqDiff, Nat.reduceMod, Nat.reduceDiv, q_S ht.1 ht.2.1, q_T ht.1, hu, e43, h5, show ¬ (k_w K < i) by omega]
        · refine W _ ?_ (fun _ => by unfold k_bk; rw [if_neg h43, if_neg (fun q => hw q.2)])
          rw [L_X0_layAhead_2]
          simp (disch := omega) only [q_ckt, q_lt, q_cI, q_cJ, q_cV, q_cP, q_xI, q_xV, q_xP, q_xJ, g_gk, g_ga, g_gw, g_gp, g_gq, g_P, g_J, q_I_s, q_I_n, q_I_k, nI_add, pk_sub, pk_mul, nI_clamp, n_lt0, n_0lt, n_eq0, n_lt, n_le, n_eq, n_m1, n_m2, n_m9, n_12, n_19, n_10, n_01, n_1n1, n_0n1, n_1n0, n_0n0, n_dI, n_m1lt, q_inb, n_nar, n_nar0, n_nar1, n_bool, Bool.false_eq_true, Bool.true_eq_false, if_true, if_false, ↓reduceIte, Nat.reduceAdd, Nat.reduceMul, Nat.reduceSub, Nat.reduceLT, Nat.reduceLeDiff, Nat.reduceEqDiff, Nat.reduceMod, Nat.reduceDiv, show ¬ (3 < i) by omega, q_S ht.1 ht.2.1, hu, e43]
          rw [L_X0_layAhead_45]
          simp (disch := omega) only [q_ckt, q_lt, q_cI, q_cJ, q_cV, q_cP, q_xI, q_xV, q_xP, q_xJ, g_gk, g_ga, g_gw, g_gp, g_gq, g_P, g_J, q_I_s, q_I_n, q_I_k, nI_add, pk_sub, pk_mul, nI_clamp, n_lt0, n_0lt, n_eq0, n_lt, n_le, n_eq, n_m1, n_m2, n_m9, n_12, n_19, n_10, n_01, n_1n1, n_0n1, n_1n0, n_0n0, n_dI, n_m1lt, q_inb, n_nar, n_nar0, n_nar1, n_bool, Bool.false_eq_true, Bool.true_eq_false, if_true, if_false, ↓reduceIte, Nat.reduceAdd, Nat.reduceMul, Nat.reduceSub, Nat.reduceLT, Nat.reduceLeDiff, Nat.reduceEqDiff, Nat.reduceMod, Nat.reduceDiv, q_S ht.1 ht.2.1, q_T ht.1, hu, e43, h5, show (k_w K < i) by omega]
      · have e5 : K 5 = 0 := h.2.2.1.1.2.2.2.2.2.2.2.1.resolve_right h5
        refine W _ ?_ (fun _ => by unfold k_bk; rw [if_neg h43, if_neg (fun q => h5 q.1)])
        rw [L_X0_layAhead_2]
        simp (disch := omega) only [q_ckt, q_lt, q_cI, q_cJ, q_cV, q_cP, q_xI, q_xV, q_xP, q_xJ, g_gk, g_ga, g_gw, g_gp, g_gq, g_P, g_J, q_I_s, q_I_n, q_I_k, nI_add, pk_sub, pk_mul, nI_clamp, n_lt0, n_0lt, n_eq0, n_lt, n_le, n_eq, n_m1, n_m2, n_m9, n_12, n_19, n_10, n_01, n_1n1, n_0n1, n_1n0, n_0n0, n_dI, n_m1lt, q_inb, n_nar, n_nar0, n_nar1, n_bool, Bool.false_eq_true, Bool.true_eq_false, if_true, if_false, ↓reduceIte, Nat.reduceAdd, Nat.reduceMul, Nat.reduceSub, Nat.reduceLT, Nat.reduceLeDiff, Nat.reduceEqDiff, Nat.reduceMod, Nat.reduceDiv, show ¬ (3 < i) by omega, q_S ht.1 ht.2.1, hu, e43]
        rw [L_X0_layAhead_45]
        simp (disch := omega) only [q_ckt, q_lt, q_cI, q_cJ, q_cV, q_cP, q_xI, q_xV, q_xP, q_xJ, g_gk, g_ga, g_gw, g_gp, g_gq, g_P, g_J, q_I_s, q_I_n, q_I_k, nI_add, pk_sub, pk_mul, nI_clamp, n_lt0, n_0lt, n_eq0, n_lt, n_le, n_eq, n_m1, n_m2, n_m9, n_12, n_19, n_10, n_01, n_1n1, n_0n1, n_1n0, n_0n0, n_dI, n_m1lt, q_inb, n_nar, n_nar0, n_nar1, n_bool, Bool.false_eq_true, Bool.true_eq_false, if_true, if_false, ↓reduceIte, Nat.reduceAdd, Nat.reduceMul, Nat.reduceSub, Nat.reduceLT, Nat.reduceLeDiff, Nat.reduceEqDiff, Nat.reduceMod, Nat.reduceDiv, q_S ht.1 ht.2.1, q_T ht.1, hu, e43, e5]) (by
    rintro t ⟨-, he, ha, -⟩
    rw [L_X0_layAhead_2]
    simp (disch := omega) only [q_ckt, q_lt, q_cI, q_cJ, q_cV, q_cP, q_xI, q_xV, q_xP, q_xJ, g_gk, g_ga, g_gw, g_gp, g_gq, g_P, g_J, q_I_s, q_I_n, q_I_k, nI_add, pk_sub, pk_mul, nI_clamp, n_lt0, n_0lt, n_eq0, n_lt, n_le, n_eq, n_m1, n_m2, n_m9, n_12, n_19, n_10, n_01, n_1n1, n_0n1, n_1n0, n_0n0, n_dI, n_m1lt, q_inb, n_nar, n_nar0, n_nar1, n_bool, Bool.false_eq_true, Bool.true_eq_false, if_true, if_false, ↓reduceIte, Nat.reduceAdd, Nat.reduceMul, Nat.reduceSub, Nat.reduceLT, Nat.reduceLeDiff, Nat.reduceEqDiff, Nat.reduceMod, Nat.reduceDiv]) (i := 1) (t := M) (by omega) ⟨by omega, q_eq.rf _ _, fun j hj => rfl, fun _ b h1 h2 => by omega⟩
  obtain ⟨M', ⟨-, he, ha, hbk⟩, e⟩ := L
  exact ⟨M', e, he, ha, fun h0 b h1 h2 => hbk h0 b h1 (by omega)⟩
theorem k_ln_ah {L : Nat → Int32} {i n : Nat} (hi : i < k_m K) (hn1 : 1 ≤ n) (hn3 : n ≤ 3) (hA : ∀ j, j < k_m K → L (3 + j) = A j) (hB : ∀ b, 1 ≤ b → b ≤ 3 → L (3 - b) = k_bk K A b) : L (i + (3 - n)) = k_ah K false (k_m K) A i n := by
  unfold k_ah
  by_cases h1 : n ≤ i
  · rw [if_pos h1, show i + (3 - n) = 3 + (i - n) by omega]
    exact hA _ (by omega)
  · rw [if_neg h1, if_neg (by decide), show i + (3 - n) = 3 - (n - i) by omega, hB (n - i) (by omega) (by omega)]
    rfl
theorem c_fo {y : Nat} {a b c : Int32} (hy : y < 2 ^ 31) : m_X0_fallOf (d + 1) (nI y) c b a M = ir_oI (k_fo y c b a) M := by
  rw [E_X0_fallOf]
  unfold k_fo k_md
  simp (disch := omega) only [q_ckt, q_lt, q_cI, q_cJ, q_cV, q_cP, q_xI, q_xV, q_xP, q_xJ, g_gk, g_ga, g_gw, g_gp, g_gq, g_P, g_J, q_I_s, q_I_n, q_I_k, nI_add, pk_sub, pk_mul, nI_clamp, n_lt0, n_0lt, n_eq0, n_lt, n_le, n_eq, n_m1, n_m2, n_m9, n_12, n_19, n_10, n_01, n_1n1, n_0n1, n_1n0, n_0n0, n_dI, n_m1lt, q_inb, n_nar, n_nar0, n_nar1, n_bool, Bool.false_eq_true, Bool.true_eq_false, if_true, if_false, ↓reduceIte, Nat.reduceAdd, Nat.reduceMul, Nat.reduceSub, Nat.reduceLT, Nat.reduceLeDiff, Nat.reduceEqDiff, Nat.reduceMod, Nat.reduceDiv]
  repeat' split
  all_goals rfl
theorem c_fb (h : c_rl M s K) {y : Nat} (hy1 : 1 ≤ y) (hy3 : y ≤ 3) (hA : ∀ j, j < k_m K → ir_I M 117 (3 + j) = A j) : ∃ M', m_X0_fallBy (d + 3) 116 4 s (nI y) M = ir_oV M' ∧ q_eq [117, 118] M M' ∧ (∀ j, 3 ≤ j → ir_I M' 117 j = ir_I M 117 j) ∧ ∀ i, i < k_m K → ir_I M' 118 i = k_fe K false (k_m K) A y i := by
  rw [E_X0_fallBy]
  have hb := k_bds h.2.2.1
  obtain ⟨M1, e1, he1, ha1, hbk1⟩ := c_lh (d := d) h hA
  have h1 := c_rl_eq h he1 (by decide)
  have L := q_up (σ := ir_M) (V := fun i t => v_X0_fallBy_9 (d + 2) 116 s (nI y) (nI i) t) (N := k_m K) (I := fun i t => q_eq [118] M1 t ∧ ∀ k, k < i → ir_I t 118 k = k_fe K false (k_m K) A y k) (K := ir_oV) (by
    rintro i t hi ⟨he, ha⟩
    have ht := c_rl_eq h1 he (by decide)
    have hl : ∀ n, 1 ≤ n → n ≤ 3 → ir_I t 117 (i + (3 - n)) = k_ah K false (k_m K) A i n := fun n n1 n3 => by
      rw [q_I_eq he (by decide)]
      exact k_ln_ah (L := fun k => ir_I M1 117 k) hi n1 n3 (fun j hj => (ha1 (3 + j) (by omega)).trans (hA j hj)) (hbk1 (by omega))
    have l3 : ir_I t 117 i = k_ah K false (k_m K) A i 3 := hl 3 (by omega) (by omega)
    have l2 : ir_I t 117 (i + 1) = k_ah K false (k_m K) A i 2 := hl 2 (by omega) (by omega)
    have l1 : ir_I t 117 (i + 2) = k_ah K false (k_m K) A i 1 := hl 1 (by omega) (by omega)
    refine ⟨ir_sI t 118 i (k_fe K false (k_m K) A y i), ⟨he.tr (q_eq.sI (by decide)), fun k hk => ?_⟩, ?_⟩
    · by_cases q : k = i
      · rw [q, q_I_s]
      · rw [q_I_k (by omega)]
        exact ha k (by omega)
    · rw [L_X0_fallBy_9]
      simp (disch := omega) only [q_ckt, q_lt, q_cI, q_cJ, q_cV, q_cP, q_xI, q_xV, q_xP, q_xJ, g_gk, g_ga, g_gw, g_gp, g_gq, g_P, g_J, q_I_s, q_I_n, q_I_k, nI_add, pk_sub, pk_mul, nI_clamp, n_lt0, n_0lt, n_eq0, n_lt, n_le, n_eq, n_m1, n_m2, n_m9, n_12, n_19, n_10, n_01, n_1n1, n_0n1, n_1n0, n_0n0, n_dI, n_m1lt, q_inb, n_nar, n_nar0, n_nar1, n_bool, Bool.false_eq_true, Bool.true_eq_false, if_true, if_false, ↓reduceIte, Nat.reduceAdd, Nat.reduceMul, Nat.reduceSub, Nat.reduceLT, Nat.reduceLeDiff, Nat.reduceEqDiff, Nat.reduceMod, Nat.reduceDiv, q_F ht.1, q_S ht.1 ht.2.1, c_use ht, hi, l1, l2, l3, c_fo, k_fe]) (by
    rintro t ⟨he, ha⟩
    have ht := c_rl_eq h1 he (by decide)
    rw [L_X0_fallBy_9]
    simp (disch := omega) only [q_ckt, q_lt, q_cI, q_cJ, q_cV, q_cP, q_xI, q_xV, q_xP, q_xJ, g_gk, g_ga, g_gw, g_gp, g_gq, g_P, g_J, q_I_s, q_I_n, q_I_k, nI_add, pk_sub, pk_mul, nI_clamp, n_lt0, n_0lt, n_eq0, n_lt, n_le, n_eq, n_m1, n_m2, n_m9, n_12, n_19, n_10, n_01, n_1n1, n_0n1, n_1n0, n_0n0, n_dI, n_m1lt, q_inb, n_nar, n_nar0, n_nar1, n_bool, Bool.false_eq_true, Bool.true_eq_false, if_true, if_false, ↓reduceIte, Nat.reduceAdd, Nat.reduceMul, Nat.reduceSub, Nat.reduceLT, Nat.reduceLeDiff, Nat.reduceEqDiff, Nat.reduceMod, Nat.reduceDiv, q_S ht.1 ht.2.1, c_use ht, Nat.lt_irrefl]) (i := 0) (t := M1) (by omega) ⟨q_eq.rf _ _, fun k hk => by omega⟩
  obtain ⟨M', ⟨he, ha⟩, e⟩ := L
  refine ⟨M', ?_, (he1.sub (by decide)).tr (he.sub (by decide)), fun j hj => (q_I_eq he (by decide) j).trans (ha1 j hj), ha⟩
  simp (disch := omega) only [q_ckt, q_lt, q_cI, q_cJ, q_cV, q_cP, q_xI, q_xV, q_xP, q_xJ, g_gk, g_ga, g_gw, g_gp, g_gq, g_P, g_J, q_I_s, q_I_n, q_I_k, nI_add, pk_sub, pk_mul, nI_clamp, n_lt0, n_0lt, n_eq0, n_lt, n_le, n_eq, n_m1, n_m2, n_m9, n_12, n_19, n_10, n_01, n_1n1, n_0n1, n_1n0, n_0n0, n_dI, n_m1lt, q_inb, n_nar, n_nar0, n_nar1, n_bool, Bool.false_eq_true, Bool.true_eq_false, if_true, if_false, ↓reduceIte, Nat.reduceAdd, Nat.reduceMul, Nat.reduceSub, Nat.reduceLT, Nat.reduceLeDiff, Nat.reduceEqDiff, Nat.reduceMod, Nat.reduceDiv, q_F h.1, e1]
  exact e
theorem c_run (h : c_rl M s K) : ∃ M', m_X0_run (d + 5) 116 4 s M = ir_oV M' ∧ q_eq [9, 117, 118, 120] M M' ∧ (∀ i, i < k_m K → ir_I M' 117 (3 + i) = k_as K i) ∧ ∀ i, i < k_m K → ir_I M' 118 i = k_td K i := by
  have hb := k_bds h.2.2.1
  obtain ⟨M1, e1, h1, a1⟩ := c_la (d := d) h
  have hr := c_rl_eq h h1 (by decide)
  obtain ⟨M2, e2, h2, a2, f2⟩ := c_fb (d := d + 1) (A := k_as K) hr (y := k_y K) (by omega) (by omega) a1
  refine ⟨M2, ?_, (h1.sub (by decide)).tr (h2.sub (by decide)), fun i hi => (a2 (3 + i) (by omega)).trans (a1 i hi), f2⟩
  rw [E_X0_run]
  simp (disch := omega) only [q_ckt, q_lt, q_cI, q_cJ, q_cV, q_cP, q_xI, q_xV, q_xP, q_xJ, g_gk, g_ga, g_gw, g_gp, g_gq, g_P, g_J, q_I_s, q_I_n, q_I_k, nI_add, pk_sub, pk_mul, nI_clamp, n_lt0, n_0lt, n_eq0, n_lt, n_le, n_eq, n_m1, n_m2, n_m9, n_12, n_19, n_10, n_01, n_1n1, n_0n1, n_1n0, n_0n0, n_dI, n_m1lt, q_inb, n_nar, n_nar0, n_nar1, n_bool, Bool.false_eq_true, Bool.true_eq_false, if_true, if_false, ↓reduceIte, Nat.reduceAdd, Nat.reduceMul, Nat.reduceSub, Nat.reduceLT, Nat.reduceLeDiff, Nat.reduceEqDiff, Nat.reduceMod, Nat.reduceDiv, q_F h.1, e1, q_F hr.1, q_T hr.1, c_use hr, e2]
theorem c_wa (h : c_rl M s K) {i : Nat} (hi : i < k_m K) (hF : ir_I M 118 i = Fl i) (hg : k_gd K (Fl i)) : m_X0_worthAt (d + 2) 116 4 s (nI i) M = ir_oI (k_fw K Fl i) M := by
  have hb := k_bds h.2.2.1
  rw [E_X0_worthAt]
  simp (disch := omega) only [q_ckt, q_lt, q_cI, q_cJ, q_cV, q_cP, q_xI, q_xV, q_xP, q_xJ, g_gk, g_ga, g_gw, g_gp, g_gq, g_P, g_J, q_I_s, q_I_n, q_I_k, nI_add, pk_sub, pk_mul, nI_clamp, n_lt0, n_0lt, n_eq0, n_lt, n_le, n_eq, n_m1, n_m2, n_m9, n_12, n_19, n_10, n_01, n_1n1, n_0n1, n_1n0, n_0n0, n_dI, n_m1lt, q_inb, n_nar, n_nar0, n_nar1, n_bool, Bool.false_eq_true, Bool.true_eq_false, if_true, if_false, ↓reduceIte, Nat.reduceAdd, Nat.reduceMul, Nat.reduceSub, Nat.reduceLT, Nat.reduceLeDiff, Nat.reduceEqDiff, Nat.reduceMod, Nat.reduceDiv, q_F h.1, q_S h.1 h.2.1, q_T h.1, c_use h, hF, c_wt h (k_qn h.2.2.1 hi) hg]
  rfl
theorem c_woa (h : c_rl M s K) (hF : ∀ i, i < k_m K → ir_I M 118 i = Fl i) (hg : ∀ i, i < k_m K → k_gd K (Fl i)) : m_X0_worthOfAll (d + 3) 116 4 s M = ir_oI (k_sm (k_fw K Fl) (k_m K)) M := by
  have hb := k_bds h.2.2.1
  rw [E_X0_worthOfAll]
  have L := q_up (σ := Int32) (V := fun i x => v_X0_worthOfAll_5 (d + 2) 116 4 s x (nI i) M) (N := k_m K) (I := fun i x => x = k_sm (k_fw K Fl) i) (K := fun x => ir_oI x M) (by
    rintro i x hi rfl
    refine ⟨_, rfl, ?_⟩
    rw [L_X0_worthOfAll_5]
    simp (disch := omega) only [q_ckt, q_lt, q_cI, q_cJ, q_cV, q_cP, q_xI, q_xV, q_xP, q_xJ, g_gk, g_ga, g_gw, g_gp, g_gq, g_P, g_J, q_I_s, q_I_n, q_I_k, nI_add, pk_sub, pk_mul, nI_clamp, n_lt0, n_0lt, n_eq0, n_lt, n_le, n_eq, n_m1, n_m2, n_m9, n_12, n_19, n_10, n_01, n_1n1, n_0n1, n_1n0, n_0n0, n_dI, n_m1lt, q_inb, n_nar, n_nar0, n_nar1, n_bool, Bool.false_eq_true, Bool.true_eq_false, if_true, if_false, ↓reduceIte, Nat.reduceAdd, Nat.reduceMul, Nat.reduceSub, Nat.reduceLT, Nat.reduceLeDiff, Nat.reduceEqDiff, Nat.reduceMod, Nat.reduceDiv, q_F h.1, q_S h.1 h.2.1, c_use h, hi, c_wa h hi (hF i hi) (hg i hi), k_sm]) (by
    rintro x rfl
    rw [L_X0_worthOfAll_5]
    simp (disch := omega) only [q_ckt, q_lt, q_cI, q_cJ, q_cV, q_cP, q_xI, q_xV, q_xP, q_xJ, g_gk, g_ga, g_gw, g_gp, g_gq, g_P, g_J, q_I_s, q_I_n, q_I_k, nI_add, pk_sub, pk_mul, nI_clamp, n_lt0, n_0lt, n_eq0, n_lt, n_le, n_eq, n_m1, n_m2, n_m9, n_12, n_19, n_10, n_01, n_1n1, n_0n1, n_1n0, n_0n0, n_dI, n_m1lt, q_inb, n_nar, n_nar0, n_nar1, n_bool, Bool.false_eq_true, Bool.true_eq_false, if_true, if_false, ↓reduceIte, Nat.reduceAdd, Nat.reduceMul, Nat.reduceSub, Nat.reduceLT, Nat.reduceLeDiff, Nat.reduceEqDiff, Nat.reduceMod, Nat.reduceDiv, q_S h.1 h.2.1, c_use h, Nat.lt_irrefl]) (i := 0) (t := 0) (by omega) rfl
  obtain ⟨x, rfl, e⟩ := L
  exact e
theorem c_pl (h : c_rl M s K) {p : Nat} (hp : p < 2 ^ 31) : m_X8_placeOf (d + 1) s (nI p) M = ir_oI (k_on (k_pl K p)) M := by
  have hb := k_bds h.2.2.1
  rw [E_X8_placeOf]
  unfold k_pl
  have L : ∀ k i, i + k = k_m K → v_X8_placeOf_2 d s (nI p) (nI i) M = ir_oI (k_on (k_pf (k_q K) p k i)) M := by
    intro k
    induction k with
    | zero =>
      intro i hi
      rw [L_X8_placeOf_2]
      simp (disch := omega) only [q_ckt, q_lt, q_cI, q_cJ, q_cV, q_cP, q_xI, q_xV, q_xP, q_xJ, g_gk, g_ga, g_gw, g_gp, g_gq, g_P, g_J, q_I_s, q_I_n, q_I_k, nI_add, pk_sub, pk_mul, nI_clamp, n_lt0, n_0lt, n_eq0, n_lt, n_le, n_eq, n_m1, n_m2, n_m9, n_12, n_19, n_10, n_01, n_1n1, n_0n1, n_1n0, n_0n0, n_dI, n_m1lt, q_inb, n_nar, n_nar0, n_nar1, n_bool, Bool.false_eq_true, Bool.true_eq_false, if_true, if_false, ↓reduceIte, Nat.reduceAdd, Nat.reduceMul, Nat.reduceSub, Nat.reduceLT, Nat.reduceLeDiff, Nat.reduceEqDiff, Nat.reduceMod, Nat.reduceDiv, q_S h.1 h.2.1, c_use h, show ¬ i < k_m K by omega, k_pf, k_on]
    | succ k ih =>
      intro i hi
      have hq := k_qn h.2.2.1 (i := i) (by omega)
      rw [L_X8_placeOf_2]
      unfold k_pf
      by_cases q : k_q K i = p
      · simp (disch := omega) only [q_ckt, q_lt, q_cI, q_cJ, q_cV, q_cP, q_xI, q_xV, q_xP, q_xJ, g_gk, g_ga, g_gw, g_gp, g_gq, g_P, g_J, q_I_s, q_I_n, q_I_k, nI_add, pk_sub, pk_mul, nI_clamp, n_lt0, n_0lt, n_eq0, n_lt, n_le, n_eq, n_m1, n_m2, n_m9, n_12, n_19, n_10, n_01, n_1n1, n_0n1, n_1n0, n_0n0, n_dI, n_m1lt, q_inb, n_nar, n_nar0, n_nar1, n_bool, Bool.false_eq_true, Bool.true_eq_false, if_true, if_false, ↓reduceIte, Nat.reduceAdd, Nat.reduceMul, Nat.reduceSub, Nat.reduceLT, Nat.reduceLeDiff, Nat.reduceEqDiff, Nat.reduceMod, Nat.reduceDiv, q_S h.1 h.2.1, c_use h, show i < k_m K by omega, q, k_on]
      · simp (disch := omega) only [q_ckt, q_lt, q_cI, q_cJ, q_cV, q_cP, q_xI, q_xV, q_xP, q_xJ, g_gk, g_ga, g_gw, g_gp, g_gq, g_P, g_J, q_I_s, q_I_n, q_I_k, nI_add, pk_sub, pk_mul, nI_clamp, n_lt0, n_0lt, n_eq0, n_lt, n_le, n_eq, n_m1, n_m2, n_m9, n_12, n_19, n_10, n_01, n_1n1, n_0n1, n_1n0, n_0n0, n_dI, n_m1lt, q_inb, n_nar, n_nar0, n_nar1, n_bool, Bool.false_eq_true, Bool.true_eq_false, if_true, if_false, ↓reduceIte, Nat.reduceAdd, Nat.reduceMul, Nat.reduceSub, Nat.reduceLT, Nat.reduceLeDiff, Nat.reduceEqDiff, Nat.reduceMod, Nat.reduceDiv, q_S h.1 h.2.1, c_use h, show i < k_m K by omega, q, ih (i + 1) (by omega)]
  exact L (k_m K) 0 (by omega)
end FC
