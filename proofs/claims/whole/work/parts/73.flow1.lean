/-! what is asked and what falls, in the reference -/
theorem k_use {K : Nat → Int32} (h : k_ok K) : K 1 = nI (k_g K) ∧ K 2 = nI (k_n K) ∧ K 3 = nI (k_y K) ∧ K 9 = nI (k_m K) ∧ K 44 = nI (k_w K) ∧ (∀ i, i < k_m K → K (10 + i) = nI (k_q K i)) ∧ (∀ p, p < k_n K → K (18 + p) = nI (k_a K p)) := by
  obtain ⟨⟨t1, t2, t3, t4, t5, t6, t7, t8, t9⟩, s1, s2, s3, s4, s5, s6, s7, s8, s9, s10, s11⟩ := h
  exact ⟨t1, t3, t5, s1, s9, s3, s6⟩
def r_rl (M : ir_M) (K : Nat → Int32) : Prop := q_PI M ∧ k_ok K ∧ ∀ k, ir_I M 413 k = K k
theorem r_rl_eq {S : List Nat} {M M' : ir_M} {K : Nat → Int32} (h : r_rl M K) (he : q_eq S M M') (hS : 413 ∉ S) : r_rl M' K := ⟨q_PI_eq he h.1, h.2.1, fun k => (q_I_eq he hS k).trans (h.2.2 k)⟩
section FR
variable {M : ir_M} {K A : Nat → Int32} {d : Nat}
theorem r_pe (h : r_rl M K) : m_X12_people (d + 1) 412 M = ir_oI (nI (k_n K)) M := by
  rw [E_X12_people]
  simp (disch := omega) only [q_ckt, q_lt, q_cI, q_cJ, q_cV, q_cP, q_xI, q_xV, q_xP, q_xJ, g_gk, g_ga, g_gw, g_gp, g_gq, g_P, g_J, q_I_s, q_I_n, q_I_k, nI_add, pk_sub, pk_mul, nI_clamp, n_lt0, n_0lt, n_eq0, n_lt, n_le, n_eq, n_m1, n_m2, n_m9, n_12, n_19, n_10, n_01, n_1n1, n_0n1, n_1n0, n_0n0, n_dI, n_m1lt, q_inb, n_nar, n_nar0, n_nar1, n_bool, Bool.false_eq_true, Bool.true_eq_false, if_true, if_false, ↓reduceIte, Nat.reduceAdd, Nat.reduceMul, Nat.reduceSub, Nat.reduceLT, Nat.reduceLeDiff, Nat.reduceEqDiff, Nat.reduceMod, Nat.reduceDiv, q_R h.1, h.2.2, k_use h.2.1]
theorem r_go (h : r_rl M K) : m_X12_goods (d + 1) 412 M = ir_oI (nI (k_g K)) M := by
  rw [E_X12_goods]
  simp (disch := omega) only [q_ckt, q_lt, q_cI, q_cJ, q_cV, q_cP, q_xI, q_xV, q_xP, q_xJ, g_gk, g_ga, g_gw, g_gp, g_gq, g_P, g_J, q_I_s, q_I_n, q_I_k, nI_add, pk_sub, pk_mul, nI_clamp, n_lt0, n_0lt, n_eq0, n_lt, n_le, n_eq, n_m1, n_m2, n_m9, n_12, n_19, n_10, n_01, n_1n1, n_0n1, n_1n0, n_0n0, n_dI, n_m1lt, q_inb, n_nar, n_nar0, n_nar1, n_bool, Bool.false_eq_true, Bool.true_eq_false, if_true, if_false, ↓reduceIte, Nat.reduceAdd, Nat.reduceMul, Nat.reduceSub, Nat.reduceLT, Nat.reduceLeDiff, Nat.reduceEqDiff, Nat.reduceMod, Nat.reduceDiv, q_R h.1, h.2.2, k_use h.2.1]
theorem r_qd (h : r_rl M K) : m_X12_queued (d + 1) 412 M = ir_oI (nI (k_m K)) M := by
  rw [E_X12_queued]
  simp (disch := omega) only [q_ckt, q_lt, q_cI, q_cJ, q_cV, q_cP, q_xI, q_xV, q_xP, q_xJ, g_gk, g_ga, g_gw, g_gp, g_gq, g_P, g_J, q_I_s, q_I_n, q_I_k, nI_add, pk_sub, pk_mul, nI_clamp, n_lt0, n_0lt, n_eq0, n_lt, n_le, n_eq, n_m1, n_m2, n_m9, n_12, n_19, n_10, n_01, n_1n1, n_0n1, n_1n0, n_0n0, n_dI, n_m1lt, q_inb, n_nar, n_nar0, n_nar1, n_bool, Bool.false_eq_true, Bool.true_eq_false, if_true, if_false, ↓reduceIte, Nat.reduceAdd, Nat.reduceMul, Nat.reduceSub, Nat.reduceLT, Nat.reduceLeDiff, Nat.reduceEqDiff, Nat.reduceMod, Nat.reduceDiv, q_R h.1, h.2.2, k_use h.2.1]
theorem r_wh (h : r_rl M K) {i : Nat} (hi : i < k_m K) : m_X12_who (d + 1) 412 (nI i) M = ir_oI (nI (k_q K i)) M := by
  have hb := k_bds h.2.1
  rw [E_X12_who]
  simp (disch := omega) only [q_ckt, q_lt, q_cI, q_cJ, q_cV, q_cP, q_xI, q_xV, q_xP, q_xJ, g_gk, g_ga, g_gw, g_gp, g_gq, g_P, g_J, q_I_s, q_I_n, q_I_k, nI_add, pk_sub, pk_mul, nI_clamp, n_lt0, n_0lt, n_eq0, n_lt, n_le, n_eq, n_m1, n_m2, n_m9, n_12, n_19, n_10, n_01, n_1n1, n_0n1, n_1n0, n_0n0, n_dI, n_m1lt, q_inb, n_nar, n_nar0, n_nar1, n_bool, Bool.false_eq_true, Bool.true_eq_false, if_true, if_false, ↓reduceIte, Nat.reduceAdd, Nat.reduceMul, Nat.reduceSub, Nat.reduceLT, Nat.reduceLeDiff, Nat.reduceEqDiff, Nat.reduceMod, Nat.reduceDiv, q_R h.1, h.2.2, k_use h.2.1]
theorem r_wt (h : r_rl M K) {p : Nat} {g : Int32} (hp : p < k_n K) (hg : k_gd K g) : m_X12_worthTo (d + 1) 412 (nI p) g M = ir_oI (k_wt K p g) M := by
  have hb := k_bds h.2.1
  exact r_worthTo h.1 (fun k _ => h.2.2 k) (by omega) (k_gd6 h.2.1 hg)
theorem r_al (h : r_rl M K) {p : Nat} {g pl : Int32} (hp : p < k_n K) (hg : k_gd K g) : ∃ M', m_X12_isAllowed (d + 4) 412 (nI p) g pl M = ir_oI (if k_al K p g pl = true then 1 else 0) M' ∧ q_eq [418] M M' := by
  have hb := k_bds h.2.1
  exact r_allowed h.1 (fun k _ => h.2.2 k) h.2.1.1.2.2.2.2.2.2.2.2 (by omega) (k_gd6 h.2.1 hg)
theorem r_laysAsked (h : r_rl M K) : ∃ M', m_X12_laysAsked (d + 5) 412 M = ir_oV M' ∧ q_eq [418, 419] M M' ∧ ∀ i, i < k_m K → ir_I M' 419 i = k_as K i := by
  rw [E_X12_laysAsked]
  have hb := k_bds h.2.1
  have L := q_up (σ := ir_M) (V := fun i t => v_X12_laysAsked_2 (d + 4) 412 (nI i) t) (N := k_m K) (I := fun i t => q_eq [418, 419] M t ∧ ∀ k, k < i → ir_I t 419 k = k_as K k) (K := ir_oV) (by
    rintro i t hi ⟨he, ha⟩
    have ht := r_rl_eq h he (by decide)
    have hq := k_qn h.2.1 hi
    obtain ⟨M2, e2, he2⟩ := r_al (d := d) (pl := nI i) ht hq (k_gd_na (k_ag h.2.1 hq))
    have h2 := r_rl_eq ht he2 (by decide)
    refine ⟨ir_sI M2 419 i (k_as K i), ⟨he.tr ((he2.sub (by decide)).tr (q_eq.sI (by decide))), fun k hk => ?_⟩, ?_⟩
    · by_cases q : k = i
      · rw [q, q_I_s]
      · rw [q_I_k q, q_I_eq he2 (by decide)]
        exact ha k (by omega)
    · rw [L_X12_laysAsked_2]
      unfold k_as
      cases hal : k_al K (k_q K i) (nI (k_a K (k_q K i))) (nI i) <;> simp (disch := omega) only [q_ckt, q_lt, q_cI, q_cJ, q_cV, q_cP, q_xI, q_xV, q_xP, q_xJ, g_gk, g_ga, g_gw, g_gp, g_gq, g_P, g_J, q_I_s, q_I_n, q_I_k, nI_add, pk_sub, pk_mul, nI_clamp, n_lt0, n_0lt, n_eq0, n_lt, n_le, n_eq, n_m1, n_m2, n_m9, n_12, n_19, n_10, n_01, n_1n1, n_0n1, n_1n0, n_0n0, n_dI, n_m1lt, q_inb, n_nar, n_nar0, n_nar1, n_bool, Bool.false_eq_true, Bool.true_eq_false, if_true, if_false, ↓reduceIte, Nat.reduceAdd, Nat.reduceMul, Nat.reduceSub, Nat.reduceLT, Nat.reduceLeDiff, Nat.reduceEqDiff, Nat.reduceMod, Nat.reduceDiv, q_R ht.1, r_qd ht, r_wh ht hi, ht.2.2, k_use ht.2.1, e2, hal, q_R h2.1, h2.2.2, hi, Bool.false_eq_true]) (by
    rintro t ⟨he, ha⟩
    have ht := r_rl_eq h he (by decide)
    rw [L_X12_laysAsked_2]
    simp (disch := omega) only [q_ckt, q_lt, q_cI, q_cJ, q_cV, q_cP, q_xI, q_xV, q_xP, q_xJ, g_gk, g_ga, g_gw, g_gp, g_gq, g_P, g_J, q_I_s, q_I_n, q_I_k, nI_add, pk_sub, pk_mul, nI_clamp, n_lt0, n_0lt, n_eq0, n_lt, n_le, n_eq, n_m1, n_m2, n_m9, n_12, n_19, n_10, n_01, n_1n1, n_0n1, n_1n0, n_0n0, n_dI, n_m1lt, q_inb, n_nar, n_nar0, n_nar1, n_bool, Bool.false_eq_true, Bool.true_eq_false, if_true, if_false, ↓reduceIte, Nat.reduceAdd, Nat.reduceMul, Nat.reduceSub, Nat.reduceLT, Nat.reduceLeDiff, Nat.reduceEqDiff, Nat.reduceMod, Nat.reduceDiv, q_R ht.1, r_qd ht, Nat.lt_irrefl]) (i := 0) (t := M) (by omega) ⟨q_eq.rf _ _, fun k hk => by omega⟩
  obtain ⟨M', ⟨he, ha⟩, e⟩ := L
  exact ⟨M', e, he, ha⟩
def k_m9 (x : Int32) : Int32 := if x = -2 then -9 else x
theorem k_m9_gd {x : Int32} (h : k_ok K) (hx : x = -2 ∨ k_gd K x) : (k_m9 x = -9) = (x = -2) := by
  have hb := k_bds h
  unfold k_m9
  rcases hx with rfl | rfl | ⟨j, hj, rfl⟩
  · decide +kernel
  · decide +kernel
  · simp (disch := omega) only [q_ckt, q_lt, q_cI, q_cJ, q_cV, q_cP, q_xI, q_xV, q_xP, q_xJ, g_gk, g_ga, g_gw, g_gp, g_gq, g_P, g_J, q_I_s, q_I_n, q_I_k, nI_add, pk_sub, pk_mul, nI_clamp, n_lt0, n_0lt, n_eq0, n_lt, n_le, n_eq, n_m1, n_m2, n_m9, n_12, n_19, n_10, n_01, n_1n1, n_0n1, n_1n0, n_0n0, n_dI, n_m1lt, q_inb, n_nar, n_nar0, n_nar1, n_bool, Bool.false_eq_true, Bool.true_eq_false, if_true, if_false, ↓reduceIte, Nat.reduceAdd, Nat.reduceMul, Nat.reduceSub, Nat.reduceLT, Nat.reduceLeDiff, Nat.reduceEqDiff, Nat.reduceMod, Nat.reduceDiv]
theorem k_m9_n {x : Int32} (hx : ¬ x = -2) : k_m9 x = x := if_neg hx
theorem k_ring : ∀ i, i < 3 → ∀ n, n < 4 → ∀ m, m < 9 → i < n → 0 < m → ((((nI i - nI n) - (nI i - nI n) / nI m * nI m) + nI m) - (((nI i - nI n) - (nI i - nI n) / nI m * nI m) + nI m) / nI m * nI m) = nI ((3 * m - (n - i)) % m) := by decide +kernel
theorem k_nt1 : ∀ w, w < 9 → ∀ i, i < 3 → ∀ n, n < 4 → i < n → n - i ≤ w → nI w + (nI i - nI n) = nI (w - (n - i)) := by decide +kernel
theorem k_nt2 : ∀ w, w < 9 → ∀ i, i < 3 → ∀ n, n < 4 → i < n → w < n - i → nI w + (nI i - nI n) < 0 := by decide +kernel
theorem r_ahead (h : r_rl M K) {m i n : Nat} (hm : m ≤ 8) (hA : ∀ j, j < m → ir_I M 419 j = A j) (hg : ∀ j, j < m → k_gd K (A j)) (hi : i < m) (hn : 1 ≤ n) (hn3 : n ≤ 3) (al : Bool) : m_X12_ahead (d + 1) 412 (nI i) (nI n) (nI m) (if al = true then 1 else 0) M = ir_oI (k_m9 (k_ah K al m A i n)) M := by
  have hb := k_bds h.2.1
  have hgd : ∀ j, j < m → ¬ A j = -2 := fun j hj => by
    rcases hg j hj with q | ⟨x, hx, q⟩
    · rw [q]; decide +kernel
    · rw [q]; simp (disch := omega) only [q_ckt, q_lt, q_cI, q_cJ, q_cV, q_cP, q_xI, q_xV, q_xP, q_xJ, g_gk, g_ga, g_gw, g_gp, g_gq, g_P, g_J, q_I_s, q_I_n, q_I_k, nI_add, pk_sub, pk_mul, nI_clamp, n_lt0, n_0lt, n_eq0, n_lt, n_le, n_eq, n_m1, n_m2, n_m9, n_12, n_19, n_10, n_01, n_1n1, n_0n1, n_1n0, n_0n0, n_dI, n_m1lt, q_inb, n_nar, n_nar0, n_nar1, n_bool, Bool.false_eq_true, Bool.true_eq_false, if_true, if_false, ↓reduceIte, Nat.reduceAdd, Nat.reduceMul, Nat.reduceSub, Nat.reduceLT, Nat.reduceLeDiff, Nat.reduceEqDiff, Nat.reduceMod, Nat.reduceDiv, not_false_eq_true]
  rw [E_X12_ahead]
  unfold k_ah
  by_cases h1 : n ≤ i
  · have h0 := hgd (i - n) (by omega)
    simp (disch := omega) only [q_ckt, q_lt, q_cI, q_cJ, q_cV, q_cP, q_xI, q_xV, q_xP, q_xJ, g_gk, g_ga, g_gw, g_gp, g_gq, g_P, g_J, q_I_s, q_I_n, q_I_k, nI_add, pk_sub, pk_mul, nI_clamp, n_lt0, n_0lt, n_eq0, n_lt, n_le, n_eq, n_m1, n_m2, n_m9, n_12, n_19, n_10, n_01, n_1n1, n_0n1, n_1n0, n_0n0, n_dI, n_m1lt, q_inb, n_nar, n_nar0, n_nar1, n_bool, Bool.false_eq_true, Bool.true_eq_false, if_true, if_false, ↓reduceIte, Nat.reduceAdd, Nat.reduceMul, Nat.reduceSub, Nat.reduceLT, Nat.reduceLeDiff, Nat.reduceEqDiff, Nat.reduceMod, Nat.reduceDiv, q_R h.1, h1, hA, k_m9_n h0]
  · have hlt : (nI i - nI n) < 0 := pk_sneg (by omega) (by omega)
    cases al
    · by_cases h2 : K 43 = 1
      · have hr := k_ring i (by omega) n (by omega) m (by omega) (by omega) (by omega)
        have hmod : (3 * m - (n - i)) % m < m := Nat.mod_lt _ (by omega)
        have h0 := hgd _ hmod
        simp (disch := omega) only [q_ckt, q_lt, q_cI, q_cJ, q_cV, q_cP, q_xI, q_xV, q_xP, q_xJ, g_gk, g_ga, g_gw, g_gp, g_gq, g_P, g_J, q_I_s, q_I_n, q_I_k, nI_add, pk_sub, pk_mul, nI_clamp, n_lt0, n_0lt, n_eq0, n_lt, n_le, n_eq, n_m1, n_m2, n_m9, n_12, n_19, n_10, n_01, n_1n1, n_0n1, n_1n0, n_0n0, n_dI, n_m1lt, q_inb, n_nar, n_nar0, n_nar1, n_bool, Bool.false_eq_true, Bool.true_eq_false, if_true, if_false, ↓reduceIte, Nat.reduceAdd, Nat.reduceMul, Nat.reduceSub, Nat.reduceLT, Nat.reduceLeDiff, Nat.reduceEqDiff, Nat.reduceMod, Nat.reduceDiv, q_R h.1, h1, hlt, h.2.2, h2, hr, hA, Bool.false_eq_true, k_m9_n h0]
      · have h43 : K 43 = 0 := h.2.1.2.2.2.2.2.2.2.2.1.resolve_right h2
        have e9 : k_m9 (-2) = -9 := by decide +kernel
        by_cases h3 : K 5 = 1
        · by_cases h4 : n - i ≤ k_w K
          · have hr := k_nt1 (k_w K) (by omega) i (by omega) n (by omega) (by omega) h4
            have h0 : ¬ K (45 + (k_w K - (n - i))) = -2 := by
              rcases h.2.1.2.2.2.2.2.2.2.2.2.2.2 (k_w K - (n - i)) (by omega) with q | ⟨x, hx, q⟩
              · rw [q]; decide +kernel
              · rw [q]; simp (disch := omega) only [q_ckt, q_lt, q_cI, q_cJ, q_cV, q_cP, q_xI, q_xV, q_xP, q_xJ, g_gk, g_ga, g_gw, g_gp, g_gq, g_P, g_J, q_I_s, q_I_n, q_I_k, nI_add, pk_sub, pk_mul, nI_clamp, n_lt0, n_0lt, n_eq0, n_lt, n_le, n_eq, n_m1, n_m2, n_m9, n_12, n_19, n_10, n_01, n_1n1, n_0n1, n_1n0, n_0n0, n_dI, n_m1lt, q_inb, n_nar, n_nar0, n_nar1, n_bool, Bool.false_eq_true, Bool.true_eq_false, if_true, if_false, ↓reduceIte, Nat.reduceAdd, Nat.reduceMul, Nat.reduceSub, Nat.reduceLT, Nat.reduceLeDiff, Nat.reduceEqDiff, Nat.reduceMod, Nat.reduceDiv, not_false_eq_true]
            simp (disch := omega) only [q_ckt, q_lt, q_cI, q_cJ, q_cV, q_cP, q_xI, q_xV, q_xP, q_xJ, g_gk, g_ga, g_gw, g_gp, g_gq, g_P, g_J, q_I_s, q_I_n, q_I_k, nI_add, pk_sub, pk_mul, nI_clamp, n_lt0, n_0lt, n_eq0, n_lt, n_le, n_eq, n_m1, n_m2, n_m9, n_12, n_19, n_10, n_01, n_1n1, n_0n1, n_1n0, n_0n0, n_dI, n_m1lt, q_inb, n_nar, n_nar0, n_nar1, n_bool, Bool.false_eq_true, Bool.true_eq_false, if_true, if_false, ↓reduceIte, Nat.reduceAdd, Nat.reduceMul, Nat.reduceSub, Nat.reduceLT, Nat.reduceLeDiff, Nat.reduceEqDiff, Nat.reduceMod, Nat.reduceDiv, q_R h.1, h1, hlt, h.2.2, h43, k_use h.2.1, h3, hr, h4, and_self, Bool.false_eq_true, k_m9_n h0]
          · have hr := k_nt2 (k_w K) (by omega) i (by omega) n (by omega) (by omega) (by omega)
            simp (disch := omega) only [q_ckt, q_lt, q_cI, q_cJ, q_cV, q_cP, q_xI, q_xV, q_xP, q_xJ, g_gk, g_ga, g_gw, g_gp, g_gq, g_P, g_J, q_I_s, q_I_n, q_I_k, nI_add, pk_sub, pk_mul, nI_clamp, n_lt0, n_0lt, n_eq0, n_lt, n_le, n_eq, n_m1, n_m2, n_m9, n_12, n_19, n_10, n_01, n_1n1, n_0n1, n_1n0, n_0n0, n_dI, n_m1lt, q_inb, n_nar, n_nar0, n_nar1, n_bool, Bool.false_eq_true, Bool.true_eq_false, if_true, if_false, ↓reduceIte, Nat.reduceAdd, Nat.reduceMul, Nat.reduceSub, Nat.reduceLT, Nat.reduceLeDiff, Nat.reduceEqDiff, Nat.reduceMod, Nat.reduceDiv, q_R h.1, h1, hlt, h.2.2, h43, k_use h.2.1, h3, hr, h4, and_false, Bool.false_eq_true, e9]
        · have h5 : K 5 = 0 := h.2.1.1.2.2.2.2.2.2.2.1.resolve_right h3
          simp (disch := omega) only [q_ckt, q_lt, q_cI, q_cJ, q_cV, q_cP, q_xI, q_xV, q_xP, q_xJ, g_gk, g_ga, g_gw, g_gp, g_gq, g_P, g_J, q_I_s, q_I_n, q_I_k, nI_add, pk_sub, pk_mul, nI_clamp, n_lt0, n_0lt, n_eq0, n_lt, n_le, n_eq, n_m1, n_m2, n_m9, n_12, n_19, n_10, n_01, n_1n1, n_0n1, n_1n0, n_0n0, n_dI, n_m1lt, q_inb, n_nar, n_nar0, n_nar1, n_bool, Bool.false_eq_true, Bool.true_eq_false, if_true, if_false, ↓reduceIte, Nat.reduceAdd, Nat.reduceMul, Nat.reduceSub, Nat.reduceLT, Nat.reduceLeDiff, Nat.reduceEqDiff, Nat.reduceMod, Nat.reduceDiv, q_R h.1, h1, hlt, h.2.2, h43, k_use h.2.1, h5, false_and, Bool.false_eq_true, e9]
    · have e9 : k_m9 (-2) = -9 := by decide +kernel
      simp (disch := omega) only [q_ckt, q_lt, q_cI, q_cJ, q_cV, q_cP, q_xI, q_xV, q_xP, q_xJ, g_gk, g_ga, g_gw, g_gp, g_gq, g_P, g_J, q_I_s, q_I_n, q_I_k, nI_add, pk_sub, pk_mul, nI_clamp, n_lt0, n_0lt, n_eq0, n_lt, n_le, n_eq, n_m1, n_m2, n_m9, n_12, n_19, n_10, n_01, n_1n1, n_0n1, n_1n0, n_0n0, n_dI, n_m1lt, q_inb, n_nar, n_nar0, n_nar1, n_bool, Bool.false_eq_true, Bool.true_eq_false, if_true, if_false, ↓reduceIte, Nat.reduceAdd, Nat.reduceMul, Nat.reduceSub, Nat.reduceLT, Nat.reduceLeDiff, Nat.reduceEqDiff, Nat.reduceMod, Nat.reduceDiv, q_R h.1, h1, hlt, e9]
/-- what falls to one, from those ahead as the reference calls them -/
theorem r_laysFall (h : r_rl M K) {m y : Nat} (hm : m ≤ 8) (hA : ∀ j, j < m → ir_I M 419 j = A j) (hg : ∀ j, j < m → k_gd K (A j)) (hy1 : 1 ≤ y) (hy3 : y ≤ 3) (al : Bool) : ∃ M', m_X12_laysFall (d + 2) 412 (nI m) (nI y) (if al = true then 1 else 0) M = ir_oV M' ∧ q_eq [420] M M' ∧ ∀ i, i < m → ir_I M' 420 i = k_fe K al m A y i := by
  rw [E_X12_laysFall]
  have hb := k_bds h.2.1
  have L := q_up (σ := ir_M) (V := fun i t => v_X12_laysFall_3 (d + 1) 412 (nI m) (nI y) (if al = true then 1 else 0) (nI i) t) (N := m) (I := fun i t => q_eq [420] M t ∧ ∀ k, k < i → ir_I t 420 k = k_fe K al m A y k) (K := ir_oV) (by
    rintro i t hi ⟨he, ha⟩
    have ht := r_rl_eq h he (by decide)
    have hA2 : ∀ j, j < m → ir_I t 419 j = A j := fun j hj => (q_I_eq he (by decide) j).trans (hA j hj)
    have a1 := r_ahead (d := d) ht hm hA2 hg hi (n := 1) (by decide) (by decide) al
    have a2 := r_ahead (d := d) ht hm hA2 hg hi (n := 2) (by decide) (by decide) al
    have a3 := r_ahead (d := d) ht hm hA2 hg hi (n := 3) (by decide) (by decide) al
    have g1 := k_m9_gd h.2.1 (k_ah_gd h.2.1 (al := al) hg hi (n := 1) (by decide))
    have g2 := k_m9_gd h.2.1 (k_ah_gd h.2.1 (al := al) hg hi (n := 2) (by decide))
    have g3 := k_m9_gd h.2.1 (k_ah_gd h.2.1 (al := al) hg hi (n := 3) (by decide))
    refine ⟨ir_sI t 420 i (k_fe K al m A y i), ⟨he.tr (q_eq.sI (by decide)), fun k hk => ?_⟩, ?_⟩
    · by_cases q : k = i
      · rw [q, q_I_s]
      · rw [q_I_k q]
        exact ha k (by omega)
    · rw [L_X12_laysFall_3]
      unfold k_fe k_fo
      generalize k_ah K al m A i 1 = x1 at *
      generalize k_ah K al m A i 2 = x2 at *
      generalize k_ah K al m A i 3 = x3 at *
      have : y = 1 ∨ y = 2 ∨ y = 3 := by omega
      rcases this with rfl | rfl | rfl
      · simp (disch := omega) only [q_ckt, q_lt, q_cI, q_cJ, q_cV, q_cP, q_xI, q_xV, q_xP, q_xJ, g_gk, g_ga, g_gw, g_gp, g_gq, g_P, g_J, q_I_s, q_I_n, q_I_k, nI_add, pk_sub, pk_mul, nI_clamp, n_lt0, n_0lt, n_eq0, n_lt, n_le, n_eq, n_m1, n_m2, n_m9, n_12, n_19, n_10, n_01, n_1n1, n_0n1, n_1n0, n_0n0, n_dI, n_m1lt, q_inb, n_nar, n_nar0, n_nar1, n_bool, Bool.false_eq_true, Bool.true_eq_false, if_true, if_false, ↓reduceIte, Nat.reduceAdd, Nat.reduceMul, Nat.reduceSub, Nat.reduceLT, Nat.reduceLeDiff, Nat.reduceEqDiff, Nat.reduceMod, Nat.reduceDiv, hi, L_X12_laysFall_22, a1, q_R ht.1]
        rw [L_X12_laysFall_47]
        simp (disch := omega) only [q_ckt, q_lt, q_cI, q_cJ, q_cV, q_cP, q_xI, q_xV, q_xP, q_xJ, g_gk, g_ga, g_gw, g_gp, g_gq, g_P, g_J, q_I_s, q_I_n, q_I_k, nI_add, pk_sub, pk_mul, nI_clamp, n_lt0, n_0lt, n_eq0, n_lt, n_le, n_eq, n_m1, n_m2, n_m9, n_12, n_19, n_10, n_01, n_1n1, n_0n1, n_1n0, n_0n0, n_dI, n_m1lt, q_inb, n_nar, n_nar0, n_nar1, n_bool, Bool.false_eq_true, Bool.true_eq_false, if_true, if_false, ↓reduceIte, Nat.reduceAdd, Nat.reduceMul, Nat.reduceSub, Nat.reduceLT, Nat.reduceLeDiff, Nat.reduceEqDiff, Nat.reduceMod, Nat.reduceDiv]
        rw [L_X12_laysFall_67]
        simp (disch := omega) only [q_ckt, q_lt, q_cI, q_cJ, q_cV, q_cP, q_xI, q_xV, q_xP, q_xJ, g_gk, g_ga, g_gw, g_gp, g_gq, g_P, g_J, q_I_s, q_I_n, q_I_k, nI_add, pk_sub, pk_mul, nI_clamp, n_lt0, n_0lt, n_eq0, n_lt, n_le, n_eq, n_m1, n_m2, n_m9, n_12, n_19, n_10, n_01, n_1n1, n_0n1, n_1n0, n_0n0, n_dI, n_m1lt, q_inb, n_nar, n_nar0, n_nar1, n_bool, Bool.false_eq_true, Bool.true_eq_false, if_true, if_false, ↓reduceIte, Nat.reduceAdd, Nat.reduceMul, Nat.reduceSub, Nat.reduceLT, Nat.reduceLeDiff, Nat.reduceEqDiff, Nat.reduceMod, Nat.reduceDiv, g1]
        by_cases q : x1 = -2
        · simp (disch := omega) only [q_ckt, q_lt, q_cI, q_cJ, q_cV, q_cP, q_xI, q_xV, q_xP, q_xJ, g_gk, g_ga, g_gw, g_gp, g_gq, g_P, g_J, q_I_s, q_I_n, q_I_k, nI_add, pk_sub, pk_mul, nI_clamp, n_lt0, n_0lt, n_eq0, n_lt, n_le, n_eq, n_m1, n_m2, n_m9, n_12, n_19, n_10, n_01, n_1n1, n_0n1, n_1n0, n_0n0, n_dI, n_m1lt, q_inb, n_nar, n_nar0, n_nar1, n_bool, Bool.false_eq_true, Bool.true_eq_false, if_true, if_false, ↓reduceIte, Nat.reduceAdd, Nat.reduceMul, Nat.reduceSub, Nat.reduceLT, Nat.reduceLeDiff, Nat.reduceEqDiff, Nat.reduceMod, Nat.reduceDiv, q, L_X12_laysFall_95, q_R ht.1]
        · simp (disch := omega) only [q_ckt, q_lt, q_cI, q_cJ, q_cV, q_cP, q_xI, q_xV, q_xP, q_xJ, g_gk, g_ga, g_gw, g_gp, g_gq, g_P, g_J, q_I_s, q_I_n, q_I_k, nI_add, pk_sub, pk_mul, nI_clamp, n_lt0, n_0lt, n_eq0, n_lt, n_le, n_eq, n_m1, n_m2, n_m9, n_12, n_19, n_10, n_01, n_1n1, n_0n1, n_1n0, n_0n0, n_dI, n_m1lt, q_inb, n_nar, n_nar0, n_nar1, n_bool, Bool.false_eq_true, Bool.true_eq_false, if_true, if_false, ↓reduceIte, Nat.reduceAdd, Nat.reduceMul, Nat.reduceSub, Nat.reduceLT, Nat.reduceLeDiff, Nat.reduceEqDiff, Nat.reduceMod, Nat.reduceDiv, q, k_m9_n q, L_X12_laysFall_95, q_R ht.1]
      · simp (disch := omega) only [q_ckt, q_lt, q_cI, q_cJ, q_cV, q_cP, q_xI, q_xV, q_xP, q_xJ, g_gk, g_ga, g_gw, g_gp, g_gq, g_P, g_J, q_I_s, q_I_n, q_I_k, nI_add, pk_sub, pk_mul, nI_clamp, n_lt0, n_0lt, n_eq0, n_lt, n_le, n_eq, n_m1, n_m2, n_m9, n_12, n_19, n_10, n_01, n_1n1, n_0n1, n_1n0, n_0n0, n_dI, n_m1lt, q_inb, n_nar, n_nar0, n_nar1, n_bool, Bool.false_eq_true, Bool.true_eq_false, if_true, if_false, ↓reduceIte, Nat.reduceAdd, Nat.reduceMul, Nat.reduceSub, Nat.reduceLT, Nat.reduceLeDiff, Nat.reduceEqDiff, Nat.reduceMod, Nat.reduceDiv, hi, L_X12_laysFall_22, a2, q_R ht.1]
        rw [L_X12_laysFall_47]
        simp (disch := omega) only [q_ckt, q_lt, q_cI, q_cJ, q_cV, q_cP, q_xI, q_xV, q_xP, q_xJ, g_gk, g_ga, g_gw, g_gp, g_gq, g_P, g_J, q_I_s, q_I_n, q_I_k, nI_add, pk_sub, pk_mul, nI_clamp, n_lt0, n_0lt, n_eq0, n_lt, n_le, n_eq, n_m1, n_m2, n_m9, n_12, n_19, n_10, n_01, n_1n1, n_0n1, n_1n0, n_0n0, n_dI, n_m1lt, q_inb, n_nar, n_nar0, n_nar1, n_bool, Bool.false_eq_true, Bool.true_eq_false, if_true, if_false, ↓reduceIte, Nat.reduceAdd, Nat.reduceMul, Nat.reduceSub, Nat.reduceLT, Nat.reduceLeDiff, Nat.reduceEqDiff, Nat.reduceMod, Nat.reduceDiv]
        rw [L_X12_laysFall_67]
        simp (disch := omega) only [q_ckt, q_lt, q_cI, q_cJ, q_cV, q_cP, q_xI, q_xV, q_xP, q_xJ, g_gk, g_ga, g_gw, g_gp, g_gq, g_P, g_J, q_I_s, q_I_n, q_I_k, nI_add, pk_sub, pk_mul, nI_clamp, n_lt0, n_0lt, n_eq0, n_lt, n_le, n_eq, n_m1, n_m2, n_m9, n_12, n_19, n_10, n_01, n_1n1, n_0n1, n_1n0, n_0n0, n_dI, n_m1lt, q_inb, n_nar, n_nar0, n_nar1, n_bool, Bool.false_eq_true, Bool.true_eq_false, if_true, if_false, ↓reduceIte, Nat.reduceAdd, Nat.reduceMul, Nat.reduceSub, Nat.reduceLT, Nat.reduceLeDiff, Nat.reduceEqDiff, Nat.reduceMod, Nat.reduceDiv, g2]
        by_cases q : x2 = -2
        · simp (disch := omega) only [q_ckt, q_lt, q_cI, q_cJ, q_cV, q_cP, q_xI, q_xV, q_xP, q_xJ, g_gk, g_ga, g_gw, g_gp, g_gq, g_P, g_J, q_I_s, q_I_n, q_I_k, nI_add, pk_sub, pk_mul, nI_clamp, n_lt0, n_0lt, n_eq0, n_lt, n_le, n_eq, n_m1, n_m2, n_m9, n_12, n_19, n_10, n_01, n_1n1, n_0n1, n_1n0, n_0n0, n_dI, n_m1lt, q_inb, n_nar, n_nar0, n_nar1, n_bool, Bool.false_eq_true, Bool.true_eq_false, if_true, if_false, ↓reduceIte, Nat.reduceAdd, Nat.reduceMul, Nat.reduceSub, Nat.reduceLT, Nat.reduceLeDiff, Nat.reduceEqDiff, Nat.reduceMod, Nat.reduceDiv, q, L_X12_laysFall_95, q_R ht.1]
        · simp (disch := omega) only [q_ckt, q_lt, q_cI, q_cJ, q_cV, q_cP, q_xI, q_xV, q_xP, q_xJ, g_gk, g_ga, g_gw, g_gp, g_gq, g_P, g_J, q_I_s, q_I_n, q_I_k, nI_add, pk_sub, pk_mul, nI_clamp, n_lt0, n_0lt, n_eq0, n_lt, n_le, n_eq, n_m1, n_m2, n_m9, n_12, n_19, n_10, n_01, n_1n1, n_0n1, n_1n0, n_0n0, n_dI, n_m1lt, q_inb, n_nar, n_nar0, n_nar1, n_bool, Bool.false_eq_true, Bool.true_eq_false, if_true, if_false, ↓reduceIte, Nat.reduceAdd, Nat.reduceMul, Nat.reduceSub, Nat.reduceLT, Nat.reduceLeDiff, Nat.reduceEqDiff, Nat.reduceMod, Nat.reduceDiv, q, k_m9_n q, L_X12_laysFall_95, q_R ht.1]
      · simp (disch := omega) only [q_ckt, q_lt, q_cI, q_cJ, q_cV, q_cP, q_xI, q_xV, q_xP, q_xJ, g_gk, g_ga, g_gw, g_gp, g_gq, g_P, g_J, q_I_s, q_I_n, q_I_k, nI_add, pk_sub, pk_mul, nI_clamp, n_lt0, n_0lt, n_eq0, n_lt, n_le, n_eq, n_m1, n_m2, n_m9, n_12, n_19, n_10, n_01, n_1n1, n_0n1, n_1n0, n_0n0, n_dI, n_m1lt, q_inb, n_nar, n_nar0, n_nar1, n_bool, Bool.false_eq_true, Bool.true_eq_false, if_true, if_false, ↓reduceIte, Nat.reduceAdd, Nat.reduceMul, Nat.reduceSub, Nat.reduceLT, Nat.reduceLeDiff, Nat.reduceEqDiff, Nat.reduceMod, Nat.reduceDiv, hi, L_X12_laysFall_22, a1, a2, q_R ht.1]
        rw [L_X12_laysFall_47]
        simp (disch := omega) only [q_ckt, q_lt, q_cI, q_cJ, q_cV, q_cP, q_xI, q_xV, q_xP, q_xJ, g_gk, g_ga, g_gw, g_gp, g_gq, g_P, g_J, q_I_s, q_I_n, q_I_k, nI_add, pk_sub, pk_mul, nI_clamp, n_lt0, n_0lt, n_eq0, n_lt, n_le, n_eq, n_m1, n_m2, n_m9, n_12, n_19, n_10, n_01, n_1n1, n_0n1, n_1n0, n_0n0, n_dI, n_m1lt, q_inb, n_nar, n_nar0, n_nar1, n_bool, Bool.false_eq_true, Bool.true_eq_false, if_true, if_false, ↓reduceIte, Nat.reduceAdd, Nat.reduceMul, Nat.reduceSub, Nat.reduceLT, Nat.reduceLeDiff, Nat.reduceEqDiff, Nat.reduceMod, Nat.reduceDiv, a3, q_R ht.1]
        rw [L_X12_laysFall_67]
        simp (disch := omega) only [q_ckt, q_lt, q_cI, q_cJ, q_cV, q_cP, q_xI, q_xV, q_xP, q_xJ, g_gk, g_ga, g_gw, g_gp, g_gq, g_P, g_J, q_I_s, q_I_n, q_I_k, nI_add, pk_sub, pk_mul, nI_clamp, n_lt0, n_0lt, n_eq0, n_lt, n_le, n_eq, n_m1, n_m2, n_m9, n_12, n_19, n_10, n_01, n_1n1, n_0n1, n_1n0, n_0n0, n_dI, n_m1lt, q_inb, n_nar, n_nar0, n_nar1, n_bool, Bool.false_eq_true, Bool.true_eq_false, if_true, if_false, ↓reduceIte, Nat.reduceAdd, Nat.reduceMul, Nat.reduceSub, Nat.reduceLT, Nat.reduceLeDiff, Nat.reduceEqDiff, Nat.reduceMod, Nat.reduceDiv, g1, g2, g3]
        by_cases q : x1 = -2
        · simp (disch := omega) only [q_ckt, q_lt, q_cI, q_cJ, q_cV, q_cP, q_xI, q_xV, q_xP, q_xJ, g_gk, g_ga, g_gw, g_gp, g_gq, g_P, g_J, q_I_s, q_I_n, q_I_k, nI_add, pk_sub, pk_mul, nI_clamp, n_lt0, n_0lt, n_eq0, n_lt, n_le, n_eq, n_m1, n_m2, n_m9, n_12, n_19, n_10, n_01, n_1n1, n_0n1, n_1n0, n_0n0, n_dI, n_m1lt, q_inb, n_nar, n_nar0, n_nar1, n_bool, Bool.false_eq_true, Bool.true_eq_false, if_true, if_false, ↓reduceIte, Nat.reduceAdd, Nat.reduceMul, Nat.reduceSub, Nat.reduceLT, Nat.reduceLeDiff, Nat.reduceEqDiff, Nat.reduceMod, Nat.reduceDiv, q, ite_self, L_X12_laysFall_95, q_R ht.1]
        · by_cases q2 : x2 = -2
          · simp (disch := omega) only [q_ckt, q_lt, q_cI, q_cJ, q_cV, q_cP, q_xI, q_xV, q_xP, q_xJ, g_gk, g_ga, g_gw, g_gp, g_gq, g_P, g_J, q_I_s, q_I_n, q_I_k, nI_add, pk_sub, pk_mul, nI_clamp, n_lt0, n_0lt, n_eq0, n_lt, n_le, n_eq, n_m1, n_m2, n_m9, n_12, n_19, n_10, n_01, n_1n1, n_0n1, n_1n0, n_0n0, n_dI, n_m1lt, q_inb, n_nar, n_nar0, n_nar1, n_bool, Bool.false_eq_true, Bool.true_eq_false, if_true, if_false, ↓reduceIte, Nat.reduceAdd, Nat.reduceMul, Nat.reduceSub, Nat.reduceLT, Nat.reduceLeDiff, Nat.reduceEqDiff, Nat.reduceMod, Nat.reduceDiv, q, q2, ite_self, L_X12_laysFall_95, q_R ht.1]
          · by_cases q3 : x3 = -2
            · simp (disch := omega) only [q_ckt, q_lt, q_cI, q_cJ, q_cV, q_cP, q_xI, q_xV, q_xP, q_xJ, g_gk, g_ga, g_gw, g_gp, g_gq, g_P, g_J, q_I_s, q_I_n, q_I_k, nI_add, pk_sub, pk_mul, nI_clamp, n_lt0, n_0lt, n_eq0, n_lt, n_le, n_eq, n_m1, n_m2, n_m9, n_12, n_19, n_10, n_01, n_1n1, n_0n1, n_1n0, n_0n0, n_dI, n_m1lt, q_inb, n_nar, n_nar0, n_nar1, n_bool, Bool.false_eq_true, Bool.true_eq_false, if_true, if_false, ↓reduceIte, Nat.reduceAdd, Nat.reduceMul, Nat.reduceSub, Nat.reduceLT, Nat.reduceLeDiff, Nat.reduceEqDiff, Nat.reduceMod, Nat.reduceDiv, q, q2, q3, L_X12_laysFall_95, q_R ht.1]
            · simp (disch := omega) only [q_ckt, q_lt, q_cI, q_cJ, q_cV, q_cP, q_xI, q_xV, q_xP, q_xJ, g_gk, g_ga, g_gw, g_gp, g_gq, g_P, g_J, q_I_s, q_I_n, q_I_k, nI_add, pk_sub, pk_mul, nI_clamp, n_lt0, n_0lt, n_eq0, n_lt, n_le, n_eq, n_m1, n_m2, n_m9, n_12, n_19, n_10, n_01, n_1n1, n_0n1, n_1n0, n_0n0, n_dI, n_m1lt, q_inb, n_nar, n_nar0, n_nar1, n_bool, Bool.false_eq_true, Bool.true_eq_false, if_true, if_false, ↓reduceIte, Nat.reduceAdd, Nat.reduceMul, Nat.reduceSub, Nat.reduceLT, Nat.reduceLeDiff, Nat.reduceEqDiff, Nat.reduceMod, Nat.reduceDiv, q, q2, q3, k_m9_n q, k_m9_n q2, k_m9_n q3, L_X12_laysFall_95, q_R ht.1, E_X12_middleOf]
              rw [k_md_sw]
              rfl) (by
    rintro t ⟨he, ha⟩
    rw [L_X12_laysFall_3]
    simp (disch := omega) only [q_ckt, q_lt, q_cI, q_cJ, q_cV, q_cP, q_xI, q_xV, q_xP, q_xJ, g_gk, g_ga, g_gw, g_gp, g_gq, g_P, g_J, q_I_s, q_I_n, q_I_k, nI_add, pk_sub, pk_mul, nI_clamp, n_lt0, n_0lt, n_eq0, n_lt, n_le, n_eq, n_m1, n_m2, n_m9, n_12, n_19, n_10, n_01, n_1n1, n_0n1, n_1n0, n_0n0, n_dI, n_m1lt, q_inb, n_nar, n_nar0, n_nar1, n_bool, Bool.false_eq_true, Bool.true_eq_false, if_true, if_false, ↓reduceIte, Nat.reduceAdd, Nat.reduceMul, Nat.reduceSub, Nat.reduceLT, Nat.reduceLeDiff, Nat.reduceEqDiff, Nat.reduceMod, Nat.reduceDiv, Nat.lt_irrefl]) (i := 0) (t := M) (by omega) ⟨q_eq.rf _ _, fun k hk => by omega⟩
  obtain ⟨M', ⟨he, ha⟩, e⟩ := L
  exact ⟨M', e, he, ha⟩
/-- what falls today -/
def k_td (K : Nat → Int32) (i : Nat) : Int32 := k_fe K false (k_m K) (k_as K) (k_y K) i
theorem k_td_gd (h : k_ok K) {i : Nat} (hi : i < k_m K) : k_gd K (k_td K i) := k_fe_gd h (fun _ hj => k_as_gd h hj) hi
theorem r_laysToday (h : r_rl M K) : ∃ M', m_X12_laysToday (d + 6) 412 M = ir_oV M' ∧ q_eq [418, 419, 420] M M' ∧ (∀ i, i < k_m K → ir_I M' 419 i = k_as K i) ∧ ∀ i, i < k_m K → ir_I M' 420 i = k_td K i := by
  have hb := k_bds h.2.1
  obtain ⟨M1, e1, h1, a1⟩ := r_laysAsked (d := d) h
  have hr := r_rl_eq h h1 (by decide)
  obtain ⟨M2, e2, h2, a2⟩ := r_laysFall (d := d + 3) (A := k_as K) hr (m := k_m K) (y := k_y K) (by omega) a1 (fun _ hj => k_as_gd h.2.1 hj) (by omega) (by omega) false
  refine ⟨M2, ?_, (h1.sub (by decide)).tr (h2.sub (by decide)), fun i hi => (q_I_eq h2 (by decide) i).trans (a1 i hi), a2⟩
  rw [E_X12_laysToday]
  simp only [Bool.false_eq_true, if_false] at e2
  simp (disch := omega) only [q_ckt, q_lt, q_cI, q_cJ, q_cV, q_cP, q_xI, q_xV, q_xP, q_xJ, g_gk, g_ga, g_gw, g_gp, g_gq, g_P, g_J, q_I_s, q_I_n, q_I_k, nI_add, pk_sub, pk_mul, nI_clamp, n_lt0, n_0lt, n_eq0, n_lt, n_le, n_eq, n_m1, n_m2, n_m9, n_12, n_19, n_10, n_01, n_1n1, n_0n1, n_1n0, n_0n0, n_dI, n_m1lt, q_inb, n_nar, n_nar0, n_nar1, n_bool, Bool.false_eq_true, Bool.true_eq_false, if_true, if_false, ↓reduceIte, Nat.reduceAdd, Nat.reduceMul, Nat.reduceSub, Nat.reduceLT, Nat.reduceLeDiff, Nat.reduceEqDiff, Nat.reduceMod, Nat.reduceDiv, q_R h.1, e1, q_R hr.1, r_qd hr, hr.2.2, k_use h.2.1, n_00, e2]
/-- sums -/
def k_sm (f : Nat → Int32) : Nat → Int32
  | 0 => 0
  | i + 1 => k_sm f i + f i
/-- what falls to all -/
def k_fw (K : Nat → Int32) (Fl : Nat → Int32) (i : Nat) : Int32 := k_wt K (k_q K i) (Fl i)
theorem r_fellTo (h : r_rl M K) {Fl : Nat → Int32} {i : Nat} (hi : i < k_m K) (hF : ir_I M 420 i = Fl i) (hg : k_gd K (Fl i)) : m_X12_fellTo (d + 2) 412 (nI i) M = ir_oI (k_fw K Fl i) M := by
  have hb := k_bds h.2.1
  rw [E_X12_fellTo]
  simp (disch := omega) only [q_ckt, q_lt, q_cI, q_cJ, q_cV, q_cP, q_xI, q_xV, q_xP, q_xJ, g_gk, g_ga, g_gw, g_gp, g_gq, g_P, g_J, q_I_s, q_I_n, q_I_k, nI_add, pk_sub, pk_mul, nI_clamp, n_lt0, n_0lt, n_eq0, n_lt, n_le, n_eq, n_m1, n_m2, n_m9, n_12, n_19, n_10, n_01, n_1n1, n_0n1, n_1n0, n_0n0, n_dI, n_m1lt, q_inb, n_nar, n_nar0, n_nar1, n_bool, Bool.false_eq_true, Bool.true_eq_false, if_true, if_false, ↓reduceIte, Nat.reduceAdd, Nat.reduceMul, Nat.reduceSub, Nat.reduceLT, Nat.reduceLeDiff, Nat.reduceEqDiff, Nat.reduceMod, Nat.reduceDiv, q_R h.1, r_wh h hi, hF, r_wt h (k_qn h.2.1 hi) hg]
  rfl
theorem r_fellToAll (h : r_rl M K) {Fl : Nat → Int32} (hF : ∀ i, i < k_m K → ir_I M 420 i = Fl i) (hg : ∀ i, i < k_m K → k_gd K (Fl i)) : m_X12_fellToAll (d + 3) 412 M = ir_oI (k_sm (k_fw K Fl) (k_m K)) M := by
  have hb := k_bds h.2.1
  rw [E_X12_fellToAll]
  have L := q_up (σ := Int32) (V := fun i x => v_X12_fellToAll_4 (d + 2) 412 x (nI i) M) (N := k_m K) (I := fun i x => x = k_sm (k_fw K Fl) i) (K := fun x => ir_oI x M) (by
    rintro i x hi rfl
    refine ⟨_, rfl, ?_⟩
    rw [L_X12_fellToAll_4]
    simp (disch := omega) only [q_ckt, q_lt, q_cI, q_cJ, q_cV, q_cP, q_xI, q_xV, q_xP, q_xJ, g_gk, g_ga, g_gw, g_gp, g_gq, g_P, g_J, q_I_s, q_I_n, q_I_k, nI_add, pk_sub, pk_mul, nI_clamp, n_lt0, n_0lt, n_eq0, n_lt, n_le, n_eq, n_m1, n_m2, n_m9, n_12, n_19, n_10, n_01, n_1n1, n_0n1, n_1n0, n_0n0, n_dI, n_m1lt, q_inb, n_nar, n_nar0, n_nar1, n_bool, Bool.false_eq_true, Bool.true_eq_false, if_true, if_false, ↓reduceIte, Nat.reduceAdd, Nat.reduceMul, Nat.reduceSub, Nat.reduceLT, Nat.reduceLeDiff, Nat.reduceEqDiff, Nat.reduceMod, Nat.reduceDiv, q_R h.1, r_qd h, hi, r_fellTo h hi (hF i hi) (hg i hi), k_sm]) (by
    rintro x rfl
    rw [L_X12_fellToAll_4]
    simp (disch := omega) only [q_ckt, q_lt, q_cI, q_cJ, q_cV, q_cP, q_xI, q_xV, q_xP, q_xJ, g_gk, g_ga, g_gw, g_gp, g_gq, g_P, g_J, q_I_s, q_I_n, q_I_k, nI_add, pk_sub, pk_mul, nI_clamp, n_lt0, n_0lt, n_eq0, n_lt, n_le, n_eq, n_m1, n_m2, n_m9, n_12, n_19, n_10, n_01, n_1n1, n_0n1, n_1n0, n_0n0, n_dI, n_m1lt, q_inb, n_nar, n_nar0, n_nar1, n_bool, Bool.false_eq_true, Bool.true_eq_false, if_true, if_false, ↓reduceIte, Nat.reduceAdd, Nat.reduceMul, Nat.reduceSub, Nat.reduceLT, Nat.reduceLeDiff, Nat.reduceEqDiff, Nat.reduceMod, Nat.reduceDiv, q_R h.1, r_qd h, Nat.lt_irrefl]) (i := 0) (t := 0) (by omega) rfl
  obtain ⟨x, rfl, e⟩ := L
  exact e
/-- where one stands -/
def k_pf (f : Nat → Nat) (p : Nat) : Nat → Nat → Option Nat
  | 0, _ => none
  | m + 1, i => if f i = p then some i else k_pf f p m (i + 1)
def k_pl (K : Nat → Int32) (p : Nat) : Option Nat := k_pf (k_q K) p (k_m K) 0
def k_on (o : Option Nat) : Int32 := match o with
  | none => -1
  | some i => nI i
theorem k_pf_some {f : Nat → Nat} {p : Nat} : ∀ {m i j : Nat}, k_pf f p m i = some j → i ≤ j ∧ j < i + m ∧ f j = p ∧ ∀ x, i ≤ x → x < j → f x ≠ p
  | 0, _, _, h => nomatch h
  | m + 1, i, j, h => by
    unfold k_pf at h
    by_cases q : f i = p
    · rw [if_pos q] at h
      cases h
      exact ⟨Nat.le_refl _, by omega, q, fun x h1 h2 => by omega⟩
    · rw [if_neg q] at h
      obtain ⟨h1, h2, h3, h4⟩ := k_pf_some h
      refine ⟨by omega, by omega, h3, fun x h5 h6 => ?_⟩
      by_cases q2 : x = i
      · rw [q2]; exact q
      · exact h4 x (by omega) h6
theorem k_pf_none {f : Nat → Nat} {p : Nat} : ∀ {m i : Nat}, k_pf f p m i = none → ∀ x, i ≤ x → x < i + m → f x ≠ p
  | 0, _, _, x, h1, h2 => by omega
  | m + 1, i, h, x, h1, h2 => by
    unfold k_pf at h
    by_cases q : f i = p
    · rw [if_pos q] at h
      exact nomatch h
    · rw [if_neg q] at h
      by_cases q2 : x = i
      · rw [q2]; exact q
      · exact k_pf_none h x (by omega) (by omega)
theorem k_pl_some {p j : Nat} (h : k_pl K p = some j) : j < k_m K ∧ k_q K j = p := by
  obtain ⟨h1, h2, h3, -⟩ := k_pf_some h
  exact ⟨by omega, h3⟩
theorem k_pl_q (h : k_ok K) {j : Nat} (hj : j < k_m K) : k_pl K (k_q K j) = some j := by
  cases e : k_pl K (k_q K j) with
  | none => exact absurd rfl (k_pf_none e j (by omega) (by omega))
  | some x =>
    obtain ⟨h1, h2⟩ := k_pl_some e
    rw [h.2.2.2.2.2.1 x j h1 hj h2]
theorem k_pl_none {p j : Nat} (h : k_pl K p = none) (hj : j < k_m K) : k_q K j ≠ p := k_pf_none h j (by omega) (by omega)
theorem r_placeOf (h : r_rl M K) {p : Nat} (hp : p < 2 ^ 31) : m_X12_placeOf (d + 2) 412 (nI p) M = ir_oI (k_on (k_pl K p)) M := by
  have hb := k_bds h.2.1
  rw [E_X12_placeOf]
  unfold k_pl
  have L : ∀ k i, i + k = k_m K → v_X12_placeOf_2 (d + 1) 412 (nI p) (nI i) M = ir_oI (k_on (k_pf (k_q K) p k i)) M := by
    intro k
    induction k with
    | zero =>
      intro i hi
      rw [L_X12_placeOf_2]
      simp (disch := omega) only [q_ckt, q_lt, q_cI, q_cJ, q_cV, q_cP, q_xI, q_xV, q_xP, q_xJ, g_gk, g_ga, g_gw, g_gp, g_gq, g_P, g_J, q_I_s, q_I_n, q_I_k, nI_add, pk_sub, pk_mul, nI_clamp, n_lt0, n_0lt, n_eq0, n_lt, n_le, n_eq, n_m1, n_m2, n_m9, n_12, n_19, n_10, n_01, n_1n1, n_0n1, n_1n0, n_0n0, n_dI, n_m1lt, q_inb, n_nar, n_nar0, n_nar1, n_bool, Bool.false_eq_true, Bool.true_eq_false, if_true, if_false, ↓reduceIte, Nat.reduceAdd, Nat.reduceMul, Nat.reduceSub, Nat.reduceLT, Nat.reduceLeDiff, Nat.reduceEqDiff, Nat.reduceMod, Nat.reduceDiv, q_R h.1, r_qd h, show ¬ i < k_m K by omega, k_pf, k_on]
    | succ k ih =>
      intro i hi
      have hq := k_qn h.2.1 (i := i) (by omega)
      rw [L_X12_placeOf_2]
      unfold k_pf
      by_cases q : k_q K i = p
      · simp (disch := omega) only [q_ckt, q_lt, q_cI, q_cJ, q_cV, q_cP, q_xI, q_xV, q_xP, q_xJ, g_gk, g_ga, g_gw, g_gp, g_gq, g_P, g_J, q_I_s, q_I_n, q_I_k, nI_add, pk_sub, pk_mul, nI_clamp, n_lt0, n_0lt, n_eq0, n_lt, n_le, n_eq, n_m1, n_m2, n_m9, n_12, n_19, n_10, n_01, n_1n1, n_0n1, n_1n0, n_0n0, n_dI, n_m1lt, q_inb, n_nar, n_nar0, n_nar1, n_bool, Bool.false_eq_true, Bool.true_eq_false, if_true, if_false, ↓reduceIte, Nat.reduceAdd, Nat.reduceMul, Nat.reduceSub, Nat.reduceLT, Nat.reduceLeDiff, Nat.reduceEqDiff, Nat.reduceMod, Nat.reduceDiv, q_R h.1, r_qd h, show i < k_m K by omega, r_wh h (show i < k_m K by omega), q, k_on]
      · simp (disch := omega) only [q_ckt, q_lt, q_cI, q_cJ, q_cV, q_cP, q_xI, q_xV, q_xP, q_xJ, g_gk, g_ga, g_gw, g_gp, g_gq, g_P, g_J, q_I_s, q_I_n, q_I_k, nI_add, pk_sub, pk_mul, nI_clamp, n_lt0, n_0lt, n_eq0, n_lt, n_le, n_eq, n_m1, n_m2, n_m9, n_12, n_19, n_10, n_01, n_1n1, n_0n1, n_1n0, n_0n0, n_dI, n_m1lt, q_inb, n_nar, n_nar0, n_nar1, n_bool, Bool.false_eq_true, Bool.true_eq_false, if_true, if_false, ↓reduceIte, Nat.reduceAdd, Nat.reduceMul, Nat.reduceSub, Nat.reduceLT, Nat.reduceLeDiff, Nat.reduceEqDiff, Nat.reduceMod, Nat.reduceDiv, q_R h.1, r_qd h, show i < k_m K by omega, r_wh h (show i < k_m K by omega), q, ih (i + 1) (by omega)]
  exact L (k_m K) 0 (by omega)
end FR
