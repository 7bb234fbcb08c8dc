/-! states laid aside -/
theorem h_gk {M : ir_M} {a b c e n x y : Nat} : ir_gk (ir_cp M a b c e n) x y = ir_gk M x y := rfl
theorem h_ga {M : ir_M} {a b c e n x y : Nat} {i : Int32} : ir_ga (ir_cp M a b c e n) x y i = ir_ga M x y i := rfl
theorem h_gw {M : ir_M} {a b c e n x y : Nat} {i : Int32} : ir_gw (ir_cp M a b c e n) x y i = ir_gw M x y i := rfl
theorem h_gp {M : ir_M} {a b c e n x y z : Nat} : ir_gp (ir_cp M a b c e n) x y z = ir_gp M x y z := rfl
theorem h_gq {M : ir_M} {a b c e n x y : Nat} : ir_gq (ir_cp M a b c e n) x y = ir_gq M x y := rfl
theorem h_P {M : ir_M} {a b c e n x y : Nat} : ir_P (ir_cp M a b c e n) x y = ir_P M x y := rfl
theorem h_cg {M : ir_M} {a b c e n x y : Nat} {i j k : Int32} : ir_cpg (ir_cp M a b c e n) x i y j k = ir_cpg M x i y j k := rfl
theorem g_cg {M : ir_M} {a b x y : Nat} {v i j k : Int32} : ir_cpg (ir_sI M a b v) x i y j k = ir_cpg M x i y j k := rfl
theorem h_In {M : ir_M} {a b c e n x k : Nat} (h : x ≠ c) : ir_I (ir_cp M a b c e n) x k = ir_I M x k := by
  show (if x = c then va_cpy (M.1 a) (M.1 c) b e n else M.1 x) k = _
  rw [if_neg h]
  rfl
theorem h_Is {M : ir_M} {a c n k : Nat} (h : k < n) : ir_I (ir_cp M a 0 c 0 n) c k = ir_I M a k := by
  show (if c = c then va_cpy (M.1 a) (M.1 c) 0 0 n else M.1 c) k = _
  rw [if_pos rfl, pk_cpy_in (by omega) (by omega)]
  show M.1 a (0 + (k - 0)) = M.1 a k
  rw [show 0 + (k - 0) = k by omega]
theorem q_cpg0 {M : ir_M} {a b n : Nat} (g1 : ir_gk M a 100 = true) (g2 : ir_gk M b 100 = true) (b1 : Nat.blt a 1000000 = true) (b2 : Nat.blt b 1000000 = true) (l1 : n ≤ ir_ln M a) (l2 : n ≤ ir_ln M b) (hn : n < 2 ^ 31) : ir_cpg M a (nI 0) b (nI 0) (nI n) = true := by
  unfold ir_cpg
  rw [g1, g2, b1, b2, nI_clamp hn, show (nI 0).toNatClampNeg = 0 from nI_clamp (by decide), decide_eq_false (nI_pos (n := 0) (by decide)), decide_eq_false (nI_pos hn), Nat.ble_eq_true_of_le (by omega), Nat.ble_eq_true_of_le (by omega)]
  rfl
theorem n_isB (x : Int32) (h : x = 0 ∨ x = 1) : ir_isB x = true := by
  rcases h with rfl | rfl <;> decide +kernel
theorem n_blt {v : Nat} (h : 0 < v) : Nat.blt 0 v = true := Nat.ble_eq_true_of_le h
theorem q_S_dj : ∀ a ∈ q_S_l, ∀ b ∈ q_S_l, a ≠ b → a + 5 < b ∨ b + 5 < a := by decide +kernel
theorem q_S_c1 {M : ir_M} {a b : Nat} (h : q_PI M) (ha : a ∈ q_S_l) (hb : b ∈ q_S_l) : ir_cpg M (a + 1) (nI 0) (b + 1) (nI 0) (nI 8) = true := q_cpg0 (q_gkT h ha q_S_o1) (q_gkT h hb q_S_o1) (q_S_b1 a ha) (q_S_b1 b hb) (by rw [q_ln_eq (q_S_n1 a ha).1, (q_S_n1 a ha).2]; exact Nat.le_refl _) (by rw [q_ln_eq (q_S_n1 b hb).1, (q_S_n1 b hb).2]; exact Nat.le_refl _) (by decide)
theorem q_S_c2 {M : ir_M} {a b : Nat} (h : q_PI M) (ha : a ∈ q_S_l) (hb : b ∈ q_S_l) : ir_cpg M (a + 2) (nI 0) (b + 2) (nI 0) (nI 8) = true := q_cpg0 (q_gkT h ha q_S_o2) (q_gkT h hb q_S_o2) (q_S_b2 a ha) (q_S_b2 b hb) (by rw [q_ln_eq (q_S_n2 a ha).1, (q_S_n2 a ha).2]; exact Nat.le_refl _) (by rw [q_ln_eq (q_S_n2 b hb).1, (q_S_n2 b hb).2]; exact Nat.le_refl _) (by decide)
theorem q_S_c3 {M : ir_M} {a b : Nat} (h : q_PI M) (ha : a ∈ q_S_l) (hb : b ∈ q_S_l) : ir_cpg M (a + 3) (nI 0) (b + 3) (nI 0) (nI 8) = true := q_cpg0 (q_gkT h ha q_S_o3) (q_gkT h hb q_S_o3) (q_S_b3 a ha) (q_S_b3 b hb) (by rw [q_ln_eq (q_S_n3 a ha).1, (q_S_n3 a ha).2]; exact Nat.le_refl _) (by rw [q_ln_eq (q_S_n3 b hb).1, (q_S_n3 b hb).2]; exact Nat.le_refl _) (by decide)
theorem q_S_c4 {M : ir_M} {a b : Nat} (h : q_PI M) (ha : a ∈ q_S_l) (hb : b ∈ q_S_l) : ir_cpg M (a + 4) (nI 0) (b + 4) (nI 0) (nI 8) = true := q_cpg0 (q_gkT h ha q_S_o4) (q_gkT h hb q_S_o4) (q_S_b4 a ha) (q_S_b4 b hb) (by rw [q_ln_eq (q_S_n4 a ha).1, (q_S_n4 a ha).2]; exact Nat.le_refl _) (by rw [q_ln_eq (q_S_n4 b hb).1, (q_S_n4 b hb).2]; exact Nat.le_refl _) (by decide)
theorem q_S_c5 {M : ir_M} {a b : Nat} (h : q_PI M) (ha : a ∈ q_S_l) (hb : b ∈ q_S_l) : ir_cpg M (a + 5) (nI 0) (b + 5) (nI 0) (nI 8) = true := q_cpg0 (q_gkT h ha q_S_o5) (q_gkT h hb q_S_o5) (q_S_b5 a ha) (q_S_b5 b hb) (by rw [q_ln_eq (q_S_n5 a ha).1, (q_S_n5 a ha).2]; exact Nat.le_refl _) (by rw [q_ln_eq (q_S_n5 b hb).1, (q_S_n5 b hb).2]; exact Nat.le_refl _) (by decide)
theorem c_take {M : ir_M} {d a b : Nat} (h : q_PI M) (ha : a ∈ q_S_l) (hb : b ∈ q_S_l) (hab : a ≠ b) (h01 : ir_I M b 2 = 0 ∨ ir_I M b 2 = 1) : ∃ M', m_X8_take (d + 1) a b M = ir_oV M' ∧ q_eq [a, a + 1, a + 2, a + 3, a + 4, a + 5] M M' ∧ (∀ k, k < 4 → ir_I M' a k = ir_I M b k) ∧ (∀ j k, 1 ≤ j → j < 6 → k < 8 → ir_I M' (a + j) k = ir_I M (b + j) k) := by
  have hd := q_S_dj a ha b hb hab
  have hB := n_isB _ h01
  obtain ⟨N, eN⟩ : ∃ N, N = ir_cp (ir_cp (ir_cp (ir_cp (ir_cp (ir_sI (ir_sI (ir_sI (ir_sI M a 0 (ir_I M b 0)) a 1 (ir_I M b 1)) a 2 (ir_I M b 2)) a 3 (ir_I M b 3)) (b + 1) 0 (a + 1) 0 8) (b + 2) 0 (a + 2) 0 8) (b + 3) 0 (a + 3) 0 8) (b + 4) 0 (a + 4) 0 8) (b + 5) 0 (a + 5) 0 8 := ⟨_, rfl⟩
  refine ⟨N, ?_, ?_, fun k hk => ?_, fun j k h1 h6 hk => ?_⟩
  · rw [E_X8_take, eN]
    simp (disch := omega) only [q_ckt, q_lt, q_cI, q_cJ, q_cV, q_cP, q_xI, q_xV, q_xP, q_xJ, g_gk, g_ga, g_gw, g_gp, g_gq, g_P, g_J, q_I_s, q_I_n, q_I_k, nI_add, pk_sub, pk_mul, nI_clamp, n_lt0, n_0lt, n_eq0, n_lt, n_le, n_eq, n_m1, n_m2, n_m9, n_12, n_19, n_10, n_01, n_1n1, n_0n1, n_1n0, n_0n0, n_dI, n_m1lt, q_inb, n_nar, n_nar0, n_nar1, n_bool, Bool.false_eq_true, Bool.true_eq_false, if_true, if_false, ↓reduceIte, Nat.reduceAdd, Nat.reduceMul, Nat.reduceSub, Nat.reduceLT, Nat.reduceLeDiff, Nat.reduceEqDiff, Nat.reduceMod, Nat.reduceDiv, q_S h ha, q_S h hb, hB, Bool.and_self, h_gk, h_ga, h_gw, h_gp, h_gq, h_P, h_cg, g_cg, q_S_c1 h hb ha, q_S_c2 h hb ha, q_S_c3 h hb ha, q_S_c4 h hb ha, q_S_c5 h hb ha]
  · rw [eN]
    exact ((((((((q_eq.sI (by simp)).tr (q_eq.sI (by simp))).tr (q_eq.sI (by simp))).tr (q_eq.sI (by simp))).tr (q_eq.cp (by simp))).tr (q_eq.cp (by simp))).tr (q_eq.cp (by simp))).tr (q_eq.cp (by simp))).tr (q_eq.cp (by simp))
  · have : k = 0 ∨ k = 1 ∨ k = 2 ∨ k = 3 := by omega
    rw [eN]
    rcases this with rfl | rfl | rfl | rfl <;> simp (disch := omega) only [q_ckt, q_lt, q_cI, q_cJ, q_cV, q_cP, q_xI, q_xV, q_xP, q_xJ, g_gk, g_ga, g_gw, g_gp, g_gq, g_P, g_J, q_I_s, q_I_n, q_I_k, nI_add, pk_sub, pk_mul, nI_clamp, n_lt0, n_0lt, n_eq0, n_lt, n_le, n_eq, n_m1, n_m2, n_m9, n_12, n_19, n_10, n_01, n_1n1, n_0n1, n_1n0, n_0n0, n_dI, n_m1lt, q_inb, n_nar, n_nar0, n_nar1, n_bool, Bool.false_eq_true, Bool.true_eq_false, if_true, if_false, ↓reduceIte, Nat.reduceAdd, Nat.reduceMul, Nat.reduceSub, Nat.reduceLT, Nat.reduceLeDiff, Nat.reduceEqDiff, Nat.reduceMod, Nat.reduceDiv, h_In]
  · have : j = 1 ∨ j = 2 ∨ j = 3 ∨ j = 4 ∨ j = 5 := by omega
    rw [eN]
    rcases this with rfl | rfl | rfl | rfl | rfl <;> simp (disch := omega) only [q_ckt, q_lt, q_cI, q_cJ, q_cV, q_cP, q_xI, q_xV, q_xP, q_xJ, g_gk, g_ga, g_gw, g_gp, g_gq, g_P, g_J, q_I_s, q_I_n, q_I_k, nI_add, pk_sub, pk_mul, nI_clamp, n_lt0, n_0lt, n_eq0, n_lt, n_le, n_eq, n_m1, n_m2, n_m9, n_12, n_19, n_10, n_01, n_1n1, n_0n1, n_1n0, n_0n0, n_dI, n_m1lt, q_inb, n_nar, n_nar0, n_nar1, n_bool, Bool.false_eq_true, Bool.true_eq_false, if_true, if_false, ↓reduceIte, Nat.reduceAdd, Nat.reduceMul, Nat.reduceSub, Nat.reduceLT, Nat.reduceLeDiff, Nat.reduceEqDiff, Nat.reduceMod, Nat.reduceDiv, h_In, h_Is]
theorem c_st_take {M M' : ir_M} {a b : Nat} {K : Nat → Int32} (hm : k_m K ≤ 8) (hn : k_n K ≤ 8) (hw : k_w K ≤ 8) (hc : c_st M b K) (h0 : ∀ k, k < 4 → ir_I M' a k = ir_I M b k) (h1 : ∀ j k, 1 ≤ j → j < 6 → k < 8 → ir_I M' (a + j) k = ir_I M (b + j) k) : c_st M' a K := by
  obtain ⟨b0, b1, b2, b3, b4, b5, b6, b7, b8⟩ := hc
  exact ⟨(h0 0 (by decide)).trans b0, (h0 1 (by decide)).trans b1, (h0 2 (by decide)).trans b2, (h0 3 (by decide)).trans b3, fun i hi => (h1 1 i (by decide) (by decide) (by omega)).trans (b4 i hi), fun i hi => (h1 2 i (by decide) (by decide) (by omega)).trans (b5 i hi), fun i hi => (h1 3 i (by decide) (by decide) (by omega)).trans (b6 i hi), fun i hi => (h1 4 i (by decide) (by decide) (by omega)).trans (b7 i hi), fun i hi => (h1 5 i (by decide) (by decide) (by omega)).trans (b8 i hi)⟩
theorem c_st_cg {M : ir_M} {s : Nat} {K K' : Nat → Int32} (hm : k_m K ≤ 8) (hn : k_n K ≤ 8) (hw : k_w K ≤ 8) (h : ∀ k, k < 53 → k ≠ 8 → K' k = K k) (hc : c_st M s K) : c_st M s K' := by
  have en : k_n K' = k_n K := by unfold k_n; rw [h 2 (by decide) (by decide)]
  have ew : k_w K' = k_w K := by unfold k_w; rw [h 44 (by decide) (by decide)]
  have em : k_m K' = k_m K := by unfold k_m; rw [h 9 (by decide) (by decide)]
  obtain ⟨b0, b1, b2, b3, b4, b5, b6, b7, b8⟩ := hc
  unfold c_st
  rw [en, ew, em, h 9 (by decide) (by decide), h 42 (by decide) (by decide), h 43 (by decide) (by decide), h 44 (by decide) (by decide)]
  exact ⟨b0, b1, b2, b3, fun i hi => by rw [h _ (by omega) (by omega)]; exact b4 i hi, fun i hi => by rw [h _ (by omega) (by omega)]; exact b5 i hi, fun i hi => by rw [h _ (by omega) (by omega)]; exact b6 i hi, fun i hi => by rw [h _ (by omega) (by omega)]; exact b7 i hi, fun i hi => by rw [h _ (by omega) (by omega)]; exact b8 i hi⟩
theorem k_okS_cg {K K' : Nat → Int32} (hn8 : k_n K ≤ 8) (h : ∀ k, k < 53 → k ≠ 8 → K' k = K k) (hk : k_okS K) : k_okS K' := by
  have eg : k_g K' = k_g K := by unfold k_g; rw [h 1 (by decide) (by decide)]
  have en : k_n K' = k_n K := by unfold k_n; rw [h 2 (by decide) (by decide)]
  have ew : k_w K' = k_w K := by unfold k_w; rw [h 44 (by decide) (by decide)]
  have em : k_m K' = k_m K := by unfold k_m; rw [h 9 (by decide) (by decide)]
  obtain ⟨s1, s2, s3, s4, s5, s6, s7, s8, s9, s10, s11⟩ := hk
  have eq : ∀ i, i < k_m K → k_q K' i = k_q K i := fun i hi => by unfold k_q; rw [h _ (by omega) (by omega)]
  have ea : ∀ p, p < k_n K → k_a K' p = k_a K p := fun p hp => by unfold k_a; rw [h _ (by omega) (by omega)]
  unfold k_okS
  rw [en, ew, em, eg, h 9 (by decide) (by decide), h 43 (by decide) (by decide), h 44 (by decide) (by decide)]
  refine ⟨s1, s2, fun i hi => ?_, fun i hi => ?_, fun i j hi hj e => ?_, fun p hp => ?_, fun p hp => ?_, s8, s9, s10, fun i hi => ?_⟩
  · rw [eq i hi, h _ (by omega) (by omega)]
    exact s3 i hi
  · rw [eq i hi]
    exact s4 i hi
  · rw [eq i hi, eq j hj] at e
    exact s5 i j hi hj e
  · rw [ea p hp, h _ (by omega) (by omega)]
    exact s6 p hp
  · rw [ea p hp]
    exact s7 p hp
  · rw [h _ (by omega) (by omega)]
    unfold k_gd
    rw [eg]
    exact s11 i hi
/-- a deed's beginning -/
def k_kp (K : Nat → Int32) : Nat → Int32 := fun k => if k_nd K < 12 then (if k = 8 then nI (k_nd K + 1) else if 189 + 44 * k_nd K ≤ k ∧ k < 189 + 44 * k_nd K + 44 then K (9 + (k - (189 + 44 * k_nd K))) else K k) else (if 189 ≤ k ∧ k < 673 then K (k + 44) else if 673 ≤ k ∧ k < 717 then K (9 + (k - 673)) else K k)
theorem k_kp_o {K : Nat → Int32} {k : Nat} (h : (k < 189 ∧ k ≠ 8) ∨ 717 ≤ k) : k_kp K k = K k := by
  unfold k_kp
  by_cases q : k_nd K < 12
  · rw [if_pos q, if_neg (by omega), if_neg (by omega)]
  · rw [if_neg q, if_neg (by omega), if_neg (by omega)]
theorem k_put_53 {K F : Nat → Int32} {k : Nat} (h : 9 ≤ k ∧ k < 53) : k_put K F k = F (k - 9) := if_pos h
theorem k_put_o {K F : Nat → Int32} {k : Nat} (h : ¬ (9 ≤ k ∧ k < 53)) : k_put K F k = K k := if_neg h
/-- what is kept of the states behind: a state of before, or the one just kept -/
theorem k_kp_un {K : Nat → Int32} (h12 : k_nd K ≤ 12) {i k : Nat} (hk : k < 53) (h8 : k ≠ 8) :
    (k_nd K < 12 → (i < k_nd K → k_put (k_kp K) (k_un (k_kp K) i) k = k_put K (k_un K i) k) ∧ (i = k_nd K → k_put (k_kp K) (k_un (k_kp K) i) k = K k)) ∧ (k_nd K = 12 → (i < 11 → k_put (k_kp K) (k_un (k_kp K) i) k = k_put K (k_un K (i + 1)) k) ∧ (i = 11 → k_put (k_kp K) (k_un (k_kp K) i) k = K k)) := by
  by_cases q : 9 ≤ k ∧ k < 53
  · rw [k_put_53 q]
    unfold k_un k_kp
    refine ⟨fun h => ⟨fun hi => ?_, fun hi => ?_⟩, fun h => ⟨fun hi => ?_, fun hi => ?_⟩⟩
    · rw [k_put_53 q, if_pos h, if_neg (by omega), if_neg (by omega)]
    · rw [if_pos h, if_neg (by omega), if_pos (by omega), hi, show 9 + (189 + 44 * k_nd K + (k - 9) - (189 + 44 * k_nd K)) = k by omega]
    · rw [k_put_53 q, if_neg (by omega), if_pos (by omega), show 189 + 44 * i + (k - 9) + 44 = 189 + 44 * (i + 1) + (k - 9) by omega]
    · rw [if_neg (by omega), if_neg (by omega), if_pos (by omega), hi, show 9 + (189 + 44 * 11 + (k - 9) - 673) = k by omega]
  · rw [k_put_o q, k_kp_o (by omega)]
    exact ⟨fun _ => ⟨fun _ => (k_put_o q).symm, fun _ => rfl⟩, fun _ => ⟨fun _ => (k_put_o q).symm, fun _ => rfl⟩⟩
theorem k_kp_nd {K : Nat → Int32} (h12 : k_nd K ≤ 12) (h8 : K 8 = nI (k_nd K)) : k_kp K 8 = nI (if k_nd K < 12 then k_nd K + 1 else 12) ∧ k_nd (k_kp K) = if k_nd K < 12 then k_nd K + 1 else 12 := by
  have e : k_kp K 8 = nI (if k_nd K < 12 then k_nd K + 1 else 12) := by
    unfold k_kp
    by_cases q : k_nd K < 12
    · rw [if_pos q, if_pos rfl, if_pos q]
    · rw [if_neg q, if_neg (by omega), if_neg (by omega), if_neg q, h8, show k_nd K = 12 by omega]
  refine ⟨e, ?_⟩
  show (k_kp K 8).toNatClampNeg = _
  rw [e, nI_clamp (by split <;> omega)]
theorem k_kp_wf {K : Nat → Int32} (h : k_wf K) : k_wf (k_kp K) := by
  obtain ⟨h1, ⟨n1, n2, n3⟩, ⟨a1, a2, a3⟩, r, hr, hr2⟩ := h
  have hb := k_bds h1
  have en : k_n (k_kp K) = k_n K := by unfold k_n; rw [k_kp_o (by omega)]
  have ea : k_na (k_kp K) = k_na K := by unfold k_na; rw [k_kp_o (by omega)]
  obtain ⟨e1, e2⟩ := k_kp_nd n2 n1
  refine ⟨⟨k_okT_cg (fun k hk h8 => k_kp_o (by omega)) (fun k hk => k_kp_o (by omega)) h1.1, k_okS_cg hb.2.1 (fun k hk h8 => k_kp_o (by omega)) h1.2⟩, ⟨by rw [e1, e2], by rw [e2]; split <;> omega, fun i hi => ?_⟩, ⟨?_, by rw [ea]; exact a2, fun k hk => ?_⟩, r, hr, ?_, fun k h1 h2 => by rw [k_kp_o (by omega)]; exact hr2.2.1 k h1 h2, fun k h1 => by rw [k_kp_o (by omega)]; exact hr2.2.2 k h1⟩
  · rw [e2] at hi
    have pn : ∀ F, k_n (k_put K F) ≤ 8 := fun F => by
      have : k_n (k_put K F) = k_n K := by unfold k_n; rw [k_put_o (by omega)]
      rw [this]; exact hb.2.1
    by_cases q : k_nd K < 12
    · rw [if_pos q] at hi
      by_cases q2 : i < k_nd K
      · exact k_okS_cg (pn _) (fun k hk h8 => ((k_kp_un n2 hk h8).1 q).1 q2) (n3 i q2)
      · exact k_okS_cg hb.2.1 (fun k hk h8 => ((k_kp_un n2 hk h8).1 q).2 (by omega)) h1.2
    · rw [if_neg q] at hi
      by_cases q2 : i < 11
      · exact k_okS_cg (pn _) (fun k hk h8 => ((k_kp_un n2 hk h8).2 (by omega)).1 q2) (n3 (i + 1) (by omega))
      · exact k_okS_cg hb.2.1 (fun k hk h8 => ((k_kp_un n2 hk h8).2 (by omega)).2 (by omega)) h1.2
  · rw [ea, k_kp_o (by omega)]
    exact a1
  · rw [ea] at hk
    rw [en, k_kp_o (by omega), k_kp_o (by omega)]
    exact a3 k hk
  · rw [k_kp_o (by omega)]
    exact hr2.1
theorem q_k18 {M : ir_M} (h : q_PI M) {x : Nat} (hx : x < 12) : ir_P M 18 x = 19 + 6 * x := by
  have : x = 0 ∨ x = 1 ∨ x = 2 ∨ x = 3 ∨ x = 4 ∨ x = 5 ∨ x = 6 ∨ x = 7 ∨ x = 8 ∨ x = 9 ∨ x = 10 ∨ x = 11 := by omega
  rcases this with rfl | rfl | rfl | rfl | rfl | rfl | rfl | rfl | rfl | rfl | rfl | rfl
  · exact q_p18_0 h
  · exact q_p18_1 h
  · exact q_p18_2 h
  · exact q_p18_3 h
  · exact q_p18_4 h
  · exact q_p18_5 h
  · exact q_p18_6 h
  · exact q_p18_7 h
  · exact q_p18_8 h
  · exact q_p18_9 h
  · exact q_p18_10 h
  · exact q_p18_11 h
theorem q_S_kp : ∀ x, x < 12 → 19 + 6 * x ∈ q_S_l := by decide +kernel
/-- the told of another time, where nothing of it changed -/
theorem c_tdT_cg {M : ir_M} {t : Nat} {K K' : Nat → Int32} (hn : k_n K ≤ 8) (hg : k_g K ≤ 6) (h : ∀ k, k < 9 → k ≠ 8 → K' k = K k) (h1 : ∀ k, 53 ≤ k → k < 189 → K' k = K k) (h2 : ∀ k, 717 ≤ k → K' k = K k) (hc : c_tdT M t K) : c_tdT M t K' := by
  have eg : k_g K' = k_g K := by unfold k_g; rw [h 1 (by decide) (by decide)]
  have en : k_n K' = k_n K := by unfold k_n; rw [h 2 (by decide) (by decide)]
  obtain ⟨a0, a1, a2, a3, a4, a5, a6, a7, a8, a9, a10, a11⟩ := hc
  unfold c_tdT
  rw [eg, en, h 0 (by decide) (by decide), h 1 (by decide) (by decide), h 2 (by decide) (by decide), h 3 (by decide) (by decide), h 4 (by decide) (by decide), h 5 (by decide) (by decide), h 6 (by decide) (by decide), h 7 (by decide) (by decide)]
  refine ⟨a0, a1, a2, a3, a4, a5, a6, fun p hp => ?_, fun p g hp hg' => ?_, fun p q hp hq => ?_, a10, fun i hi => ?_⟩
  · rw [h1 _ (by omega) (by omega)]
    exact a7 p hp
  · rw [h1 _ (by omega) (by omega)]
    exact a8 p g hp hg'
  · rw [h1 _ (by omega) (by omega)]
    exact a9 p q hp hq
  · rw [(k_tys_cg h2).1]
    exact a11 i hi
theorem k_ap_cg {K K' : Nat → Int32} (ha : k_na K ≤ 8) (h6 : K' 6 = K 6) (h1 : ∀ k, 173 ≤ k → k < 189 → K' k = K k) (p q : Nat) : k_ap K' p q = k_ap K p q := by
  have ea : k_na K' = k_na K := by unfold k_na; rw [h6]
  unfold k_ap
  rw [ea]
  apply Bool.eq_iff_iff.mpr
  simp only [List.any_eq_true, List.mem_range]
  constructor
  · rintro ⟨x, hx, hq⟩
    rw [h1 _ (by omega) (by omega), h1 _ (by omega) (by omega)] at hq
    exact ⟨x, hx, hq⟩
  · rintro ⟨x, hx, hq⟩
    refine ⟨x, hx, ?_⟩
    rw [h1 _ (by omega) (by omega), h1 _ (by omega) (by omega)]
    exact hq

