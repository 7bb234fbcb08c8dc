/-! images -/
theorem q_Sc {M : ir_M} {a : Nat} (h : q_PI M) (ha : a = 3 ∨ a = 140 ∨ a = 228 ∨ a = 316) : ir_gk M a 5 = true ∧ ir_gq M a 5 = true ∧ ir_P M a 0 = a + 1 ∧ ir_gp M a 5 0 = true ∧ ir_P M a 1 = a + 9 ∧ ir_gp M a 5 1 = true ∧ ir_P M a 4 = a + 15 ∧ ir_gp M a 5 4 = true ∧ (∀ i, ir_ga M (a + 15) 105 i = ir_inb i 12) ∧ ∀ x, x < 12 → ir_P M (a + 15) x = a + 16 + 6 * x := by
  have X : ∀ x, x < 12 → x = 0 ∨ x = 1 ∨ x = 2 ∨ x = 3 ∨ x = 4 ∨ x = 5 ∨ x = 6 ∨ x = 7 ∨ x = 8 ∨ x = 9 ∨ x = 10 ∨ x = 11 := fun x hx => by omega
  rcases ha with rfl | rfl | rfl | rfl
  · refine ⟨q_k3 h, q_q3 h, q_p3_0 h, q_g3_0 h, q_p3_1 h, q_g3_1 h, q_p3_4 h, q_g3_4 h, q_a18 h, fun x hx => ?_⟩
    rcases X x hx with rfl | rfl | rfl | rfl | rfl | rfl | rfl | rfl | rfl | rfl | rfl | rfl
    · exact q_p18_0 h
    · exact q_p18_1 h
    · exact q_p18_2 h
    · exact q_p18_3 h
    · exact q_p18_4 h
    · exact q_p18_5 h
    · exact q_p18_6 h
    · exact q_p18_7 h
    · exact q_p18_8 h
    · exact q_p18_9 h
    · exact q_p18_10 h
    · exact q_p18_11 h
  · refine ⟨q_k140 h, q_q140 h, q_p140_0 h, q_g140_0 h, q_p140_1 h, q_g140_1 h, q_p140_4 h, q_g140_4 h, q_a155 h, fun x hx => ?_⟩
    rcases X x hx with rfl | rfl | rfl | rfl | rfl | rfl | rfl | rfl | rfl | rfl | rfl | rfl
    · exact q_p155_0 h
    · exact q_p155_1 h
    · exact q_p155_2 h
    · exact q_p155_3 h
    · exact q_p155_4 h
    · exact q_p155_5 h
    · exact q_p155_6 h
    · exact q_p155_7 h
    · exact q_p155_8 h
    · exact q_p155_9 h
    · exact q_p155_10 h
    · exact q_p155_11 h
  · refine ⟨q_k228 h, q_q228 h, q_p228_0 h, q_g228_0 h, q_p228_1 h, q_g228_1 h, q_p228_4 h, q_g228_4 h, q_a243 h, fun x hx => ?_⟩
    rcases X x hx with rfl | rfl | rfl | rfl | rfl | rfl | rfl | rfl | rfl | rfl | rfl | rfl
    · exact q_p243_0 h
    · exact q_p243_1 h
    · exact q_p243_2 h
    · exact q_p243_3 h
    · exact q_p243_4 h
    · exact q_p243_5 h
    · exact q_p243_6 h
    · exact q_p243_7 h
    · exact q_p243_8 h
    · exact q_p243_9 h
    · exact q_p243_10 h
    · exact q_p243_11 h
  · refine ⟨q_k316 h, q_q316 h, q_p316_0 h, q_g316_0 h, q_p316_1 h, q_g316_1 h, q_p316_4 h, q_g316_4 h, q_a331 h, fun x hx => ?_⟩
    rcases X x hx with rfl | rfl | rfl | rfl | rfl | rfl | rfl | rfl | rfl | rfl | rfl | rfl
    · exact q_p331_0 h
    · exact q_p331_1 h
    · exact q_p331_2 h
    · exact q_p331_3 h
    · exact q_p331_4 h
    · exact q_p331_5 h
    · exact q_p331_6 h
    · exact q_p331_7 h
    · exact q_p331_8 h
    · exact q_p331_9 h
    · exact q_p331_10 h
    · exact q_p331_11 h
theorem q_U_dj : ∀ a ∈ q_U_l, ∀ b ∈ q_U_l, a ≠ b → a + 7 < b ∨ b + 7 < a := by decide +kernel
theorem q_U_c1 {M : ir_M} {a b : Nat} (h : q_PI M) (ha : a ∈ q_U_l) (hb : b ∈ q_U_l) : ir_cpg M (a + 1) (nI 0) (b + 1) (nI 0) (nI 8) = true := q_cpg0 (q_gkT h ha q_U_o1) (q_gkT h hb q_U_o1) (q_U_b1 a ha) (q_U_b1 b hb) (by rw [q_ln_eq (q_U_n1 a ha).1, (q_U_n1 a ha).2]; exact Nat.le_refl _) (by rw [q_ln_eq (q_U_n1 b hb).1, (q_U_n1 b hb).2]; exact Nat.le_refl _) (by decide)
theorem q_U_c2 {M : ir_M} {a b : Nat} (h : q_PI M) (ha : a ∈ q_U_l) (hb : b ∈ q_U_l) : ir_cpg M (a + 2) (nI 0) (b + 2) (nI 0) (nI 8) = true := q_cpg0 (q_gkT h ha q_U_o2) (q_gkT h hb q_U_o2) (q_U_b2 a ha) (q_U_b2 b hb) (by rw [q_ln_eq (q_U_n2 a ha).1, (q_U_n2 a ha).2]; exact Nat.le_refl _) (by rw [q_ln_eq (q_U_n2 b hb).1, (q_U_n2 b hb).2]; exact Nat.le_refl _) (by decide)
theorem q_U_c6 {M : ir_M} {a b : Nat} (h : q_PI M) (ha : a ∈ q_U_l) (hb : b ∈ q_U_l) : ir_cpg M (a + 6) (nI 0) (b + 6) (nI 0) (nI 48) = true := q_cpg0 (q_gkT h ha q_U_o6) (q_gkT h hb q_U_o6) (q_U_b6 a ha) (q_U_b6 b hb) (by rw [q_ln_eq (q_U_n6 a ha).1, (q_U_n6 a ha).2]; exact Nat.le_refl _) (by rw [q_ln_eq (q_U_n6 b hb).1, (q_U_n6 b hb).2]; exact Nat.le_refl _) (by decide)
theorem q_U_c7 {M : ir_M} {a b : Nat} (h : q_PI M) (ha : a ∈ q_U_l) (hb : b ∈ q_U_l) : ir_cpg M (a + 7) (nI 0) (b + 7) (nI 0) (nI 64) = true := q_cpg0 (q_gkT h ha q_U_o7) (q_gkT h hb q_U_o7) (q_U_b7 a ha) (q_U_b7 b hb) (by rw [q_ln_eq (q_U_n7 a ha).1, (q_U_n7 a ha).2]; exact Nat.le_refl _) (by rw [q_ln_eq (q_U_n7 b hb).1, (q_U_n7 b hb).2]; exact Nat.le_refl _) (by decide)
theorem q_U_c4 {M : ir_M} {a b n : Nat} (h : q_PI M) (ha : a ∈ q_U_l) (hb : b ∈ q_U_l) (hn : n ≤ 900) : ir_cpg M (a + 4) (nI 0) (b + 4) (nI 0) (nI n) = true := q_cpg0 (q_gkT h ha q_U_o4) (q_gkT h hb q_U_o4) (q_U_b4 a ha) (q_U_b4 b hb) (by rw [q_ln_eq (q_U_n4 a ha).1, (q_U_n4 a ha).2]; exact hn) (by rw [q_ln_eq (q_U_n4 b hb).1, (q_U_n4 b hb).2]; exact hn) (by omega)
theorem c_tdtake {M : ir_M} {d a b n : Nat} (h : q_PI M) (ha : a ∈ q_U_l) (hb : b ∈ q_U_l) (hab : a ≠ b) (h01 : ir_I M b 6 = 0 ∨ ir_I M b 6 = 1) (hn : n ≤ 900) (h7 : ir_I M (b + 3) 0 = nI n) : ∃ M', m_X9_take (d + 2) a b M = ir_oV M' ∧ q_eq [a, a + 1, a + 2, a + 3, a + 4, a + 6, a + 7] M M' ∧ (∀ k, k < 7 → ir_I M' a k = ir_I M b k) ∧ (∀ k, k < 8 → ir_I M' (a + 1) k = ir_I M (b + 1) k) ∧ (∀ k, k < 8 → ir_I M' (a + 2) k = ir_I M (b + 2) k) ∧ ir_I M' (a + 3) 0 = nI n ∧ (∀ k, k < n → ir_I M' (a + 4) k = ir_I M (b + 4) k) ∧ (∀ k, k < 48 → ir_I M' (a + 6) k = ir_I M (b + 6) k) ∧ ∀ k, k < 64 → ir_I M' (a + 7) k = ir_I M (b + 7) k := by
  have hd := q_U_dj a ha b hb hab
  have hB := n_isB _ h01
  obtain ⟨N, eN⟩ : ∃ N, N = ir_cp (ir_sI (ir_cp (ir_cp (ir_cp (ir_cp (ir_sI (ir_sI (ir_sI (ir_sI (ir_sI (ir_sI (ir_sI M a 0 (ir_I M b 0)) a 1 (ir_I M b 1)) a 2 (ir_I M b 2)) a 3 (ir_I M b 3)) a 4 (ir_I M b 4)) a 5 (ir_I M b 5)) a 6 (ir_I M b 6)) (b + 1) 0 (a + 1) 0 8) (b + 2) 0 (a + 2) 0 8) (b + 6) 0 (a + 6) 0 48) (b + 7) 0 (a + 7) 0 64) (a + 3) 0 (nI n)) (b + 4) 0 (a + 4) 0 n := ⟨_, rfl⟩
  refine ⟨N, ?_, ?_, fun k hk => ?_, fun k hk => ?_, fun k hk => ?_, ?_, fun k hk => ?_, fun k hk => ?_, fun k hk => ?_⟩
  · rw [E_X9_take, eN]
    simp (disch := omega) only [q_ckt, q_lt, q_cI, q_cJ, q_cV, q_cP, q_xI, q_xV, q_xP, q_xJ, g_gk, g_ga, g_gw, g_gp, g_gq, g_P, g_J, q_I_s, q_I_n, q_I_k, nI_add, pk_sub, pk_mul, nI_clamp, n_lt0, n_0lt, n_eq0, n_lt, n_le, n_eq, n_m1, n_m2, n_m9, n_12, n_19, n_10, n_01, n_1n1, n_0n1, n_1n0, n_0n0, n_dI, n_m1lt, q_inb, n_nar, n_nar0, n_nar1, n_bool, Bool.false_eq_true, Bool.true_eq_false, if_true, if_false, ↓reduceIte, Nat.reduceAdd, Nat.reduceMul, Nat.reduceSub, Nat.reduceLT, Nat.reduceLeDiff, Nat.reduceEqDiff, Nat.reduceMod, Nat.reduceDiv, E_X1_take, q_U h ha, q_U h hb, hB, Bool.and_self, h_gk, h_ga, h_gw, h_gp, h_gq, h_P, h_cg, g_cg, h_In, h7, q_U_c1 h hb ha, q_U_c2 h hb ha, q_U_c6 h hb ha, q_U_c7 h hb ha, q_U_c4 h hb ha hn]
  · rw [eN]
    exact ((((((((((((q_eq.sI (by simp)).tr (q_eq.sI (by simp))).tr (q_eq.sI (by simp))).tr (q_eq.sI (by simp))).tr (q_eq.sI (by simp))).tr (q_eq.sI (by simp))).tr (q_eq.sI (by simp))).tr (q_eq.cp (by simp))).tr (q_eq.cp (by simp))).tr (q_eq.cp (by simp))).tr (q_eq.cp (by simp))).tr (q_eq.sI (by simp))).tr (q_eq.cp (by simp))
  · have : k = 0 ∨ k = 1 ∨ k = 2 ∨ k = 3 ∨ k = 4 ∨ k = 5 ∨ k = 6 := by omega
    rw [eN]
    rcases this with rfl | rfl | rfl | rfl | rfl | rfl | rfl <;> simp (disch := omega) only [q_ckt, q_lt, q_cI, q_cJ, q_cV, q_cP, q_xI, q_xV, q_xP, q_xJ, g_gk, g_ga, g_gw, g_gp, g_gq, g_P, g_J, q_I_s, q_I_n, q_I_k, nI_add, pk_sub, pk_mul, nI_clamp, n_lt0, n_0lt, n_eq0, n_lt, n_le, n_eq, n_m1, n_m2, n_m9, n_12, n_19, n_10, n_01, n_1n1, n_0n1, n_1n0, n_0n0, n_dI, n_m1lt, q_inb, n_nar, n_nar0, n_nar1, n_bool, Bool.false_eq_true, Bool.true_eq_false, if_true, if_false, ↓reduceIte, Nat.reduceAdd, Nat.reduceMul, Nat.reduceSub, Nat.reduceLT, Nat.reduceLeDiff, Nat.reduceEqDiff, Nat.reduceMod, Nat.reduceDiv, h_In]
  · rw [eN]
    simp (disch := omega) only [q_ckt, q_lt, q_cI, q_cJ, q_cV, q_cP, q_xI, q_xV, q_xP, q_xJ, g_gk, g_ga, g_gw, g_gp, g_gq, g_P, g_J, q_I_s, q_I_n, q_I_k, nI_add, pk_sub, pk_mul, nI_clamp, n_lt0, n_0lt, n_eq0, n_lt, n_le, n_eq, n_m1, n_m2, n_m9, n_12, n_19, n_10, n_01, n_1n1, n_0n1, n_1n0, n_0n0, n_dI, n_m1lt, q_inb, n_nar, n_nar0, n_nar1, n_bool, Bool.false_eq_true, Bool.true_eq_false, if_true, if_false, ↓reduceIte, Nat.reduceAdd, Nat.reduceMul, Nat.reduceSub, Nat.reduceLT, Nat.reduceLeDiff, Nat.reduceEqDiff, Nat.reduceMod, Nat.reduceDiv, h_In, h_Is]
  · rw [eN]
    simp (disch := omega) only [q_ckt, q_lt, q_cI, q_cJ, q_cV, q_cP, q_xI, q_xV, q_xP, q_xJ, g_gk, g_ga, g_gw, g_gp, g_gq, g_P, g_J, q_I_s, q_I_n, q_I_k, nI_add, pk_sub, pk_mul, nI_clamp, n_lt0, n_0lt, n_eq0, n_lt, n_le, n_eq, n_m1, n_m2, n_m9, n_12, n_19, n_10, n_01, n_1n1, n_0n1, n_1n0, n_0n0, n_dI, n_m1lt, q_inb, n_nar, n_nar0, n_nar1, n_bool, Bool.false_eq_true, Bool.true_eq_false, if_true, if_false, ↓reduceIte, Nat.reduceAdd, Nat.reduceMul, Nat.reduceSub, Nat.reduceLT, Nat.reduceLeDiff, Nat.reduceEqDiff, Nat.reduceMod, Nat.reduceDiv, h_In, h_Is]
  · rw [eN]
    simp (disch := omega) only [q_ckt, q_lt, q_cI, q_cJ, q_cV, q_cP, q_xI, q_xV, q_xP, q_xJ, g_gk, g_ga, g_gw, g_gp, g_gq, g_P, g_J, q_I_s, q_I_n, q_I_k, nI_add, pk_sub, pk_mul, nI_clamp, n_lt0, n_0lt, n_eq0, n_lt, n_le, n_eq, n_m1, n_m2, n_m9, n_12, n_19, n_10, n_01, n_1n1, n_0n1, n_1n0, n_0n0, n_dI, n_m1lt, q_inb, n_nar, n_nar0, n_nar1, n_bool, Bool.false_eq_true, Bool.true_eq_false, if_true, if_false, ↓reduceIte, Nat.reduceAdd, Nat.reduceMul, Nat.reduceSub, Nat.reduceLT, Nat.reduceLeDiff, Nat.reduceEqDiff, Nat.reduceMod, Nat.reduceDiv, h_In]
  · rw [eN]
    simp (disch := omega) only [q_ckt, q_lt, q_cI, q_cJ, q_cV, q_cP, q_xI, q_xV, q_xP, q_xJ, g_gk, g_ga, g_gw, g_gp, g_gq, g_P, g_J, q_I_s, q_I_n, q_I_k, nI_add, pk_sub, pk_mul, nI_clamp, n_lt0, n_0lt, n_eq0, n_lt, n_le, n_eq, n_m1, n_m2, n_m9, n_12, n_19, n_10, n_01, n_1n1, n_0n1, n_1n0, n_0n0, n_dI, n_m1lt, q_inb, n_nar, n_nar0, n_nar1, n_bool, Bool.false_eq_true, Bool.true_eq_false, if_true, if_false, ↓reduceIte, Nat.reduceAdd, Nat.reduceMul, Nat.reduceSub, Nat.reduceLT, Nat.reduceLeDiff, Nat.reduceEqDiff, Nat.reduceMod, Nat.reduceDiv, h_In, h_Is]
  · rw [eN]
    simp (disch := omega) only [q_ckt, q_lt, q_cI, q_cJ, q_cV, q_cP, q_xI, q_xV, q_xP, q_xJ, g_gk, g_ga, g_gw, g_gp, g_gq, g_P, g_J, q_I_s, q_I_n, q_I_k, nI_add, pk_sub, pk_mul, nI_clamp, n_lt0, n_0lt, n_eq0, n_lt, n_le, n_eq, n_m1, n_m2, n_m9, n_12, n_19, n_10, n_01, n_1n1, n_0n1, n_1n0, n_0n0, n_dI, n_m1lt, q_inb, n_nar, n_nar0, n_nar1, n_bool, Bool.false_eq_true, Bool.true_eq_false, if_true, if_false, ↓reduceIte, Nat.reduceAdd, Nat.reduceMul, Nat.reduceSub, Nat.reduceLT, Nat.reduceLeDiff, Nat.reduceEqDiff, Nat.reduceMod, Nat.reduceDiv, h_In, h_Is]
  · rw [eN]
    simp (disch := omega) only [q_ckt, q_lt, q_cI, q_cJ, q_cV, q_cP, q_xI, q_xV, q_xP, q_xJ, g_gk, g_ga, g_gw, g_gp, g_gq, g_P, g_J, q_I_s, q_I_n, q_I_k, nI_add, pk_sub, pk_mul, nI_clamp, n_lt0, n_0lt, n_eq0, n_lt, n_le, n_eq, n_m1, n_m2, n_m9, n_12, n_19, n_10, n_01, n_1n1, n_0n1, n_1n0, n_0n0, n_dI, n_m1lt, q_inb, n_nar, n_nar0, n_nar1, n_bool, Bool.false_eq_true, Bool.true_eq_false, if_true, if_false, ↓reduceIte, Nat.reduceAdd, Nat.reduceMul, Nat.reduceSub, Nat.reduceLT, Nat.reduceLeDiff, Nat.reduceEqDiff, Nat.reduceMod, Nat.reduceDiv, h_In, h_Is]
theorem q_SC_m {a : Nat} (ha : a = 3 ∨ a = 140 ∨ a = 228 ∨ a = 316) : a + 1 ∈ q_U_l ∧ a + 9 ∈ q_S_l ∧ ∀ x, x < 12 → a + 16 + 6 * x ∈ q_S_l := by
  rcases ha with rfl | rfl | rfl | rfl
  · exact ⟨by decide, by decide, by decide +kernel⟩
  · exact ⟨by decide, by decide, by decide +kernel⟩
  · exact ⟨by decide, by decide, by decide +kernel⟩
  · exact ⟨by decide, by decide, by decide +kernel⟩
theorem q_SC_d {a b : Nat} (ha : a = 3 ∨ a = 140 ∨ a = 228 ∨ a = 316) (hb : b = 3 ∨ b = 140 ∨ b = 228 ∨ b = 316) (hab : a ≠ b) : a + 88 ≤ b ∨ b + 88 ≤ a := by omega
theorem c_sctake {M : ir_M} {d a b : Nat} {K : Nat → Int32} (hp : q_PI M) (ha : a = 3 ∨ a = 140 ∨ a = 228 ∨ a = 316) (hb : b = 3 ∨ b = 140 ∨ b = 228 ∨ b = 316) (hab : a ≠ b) (hw : k_wf K) (hs : c_sc M b K) : ∃ M', m_X5_take (d + 3) a b M = ir_oV M' ∧ (∀ x, (x < a ∨ a + 88 ≤ x ∨ x = a + 6) → M'.1 x = M.1 x) ∧ M'.2 = M.2 ∧ c_sc M' a K := by
  obtain ⟨hk, ⟨n1, n2, n3⟩, ⟨a1, a2, a3⟩, -⟩ := hw
  obtain ⟨ht, hap, hst, hu2, e, he, hu3, hu, hu7⟩ := hs
  have hbd := k_bds hk
  obtain ⟨n, hn, e7, -⟩ := hk.1.2.2.2.2.2.2.2.2
  have dj := q_SC_d ha hb hab
  obtain ⟨ma, sa, ka⟩ := q_SC_m ha
  obtain ⟨mb, sb, kb⟩ := q_SC_m hb
  have tl := ht.2.2.2.2.2.2.2.2.2.2
  obtain ⟨M1, e1, q1, f0, f1, f2, f3, f4, f6, f7⟩ := c_tdtake (d := d) (n := n) hp ma mb (by omega) (by rw [ht.2.2.2.2.2.2.1]; exact hk.1.2.2.2.2.2.2.2.1) hn (tl.1.trans e7)
  have hp1 := q_PI_eq q1 hp
  have fr1 : ∀ x, (x < a + 1 ∨ a + 9 ≤ x ∨ x = a + 6) → M1.1 x = M.1 x := fun x hx => q1.1 x (by simp only [List.mem_cons, List.not_mem_nil, or_false]; omega)
  have r12 : ir_I M1 (b + 9) 2 = 0 ∨ ir_I M1 (b + 9) 2 = 1 := by
    rw [show ir_I M1 (b + 9) 2 = ir_I M (b + 9) 2 from congrFun (fr1 _ (by omega)) 2, hst.2.2.1]
    exact hk.2.2.2.2.2.2.2.2.1
  obtain ⟨M2, e2, q2, g0, g1⟩ := c_take (d := d + 1) hp1 sa sb (by omega) r12
  have hp2 := q_PI_eq q2 hp1
  have fr2 : ∀ x, (x < a + 9 ∨ a + 15 ≤ x) → M2.1 x = M1.1 x := fun x hx => q2.1 x (by simp only [List.mem_cons, List.not_mem_nil, or_false]; omega)
  obtain ⟨M4, eM4⟩ : ∃ N, N = ir_sI (ir_sI M2 a 2 (K 8)) a 3 (nI e) := ⟨_, rfl⟩
  have fr4 : ∀ x, x ≠ a → M4.1 x = M2.1 x := fun x hx => by rw [eM4]; exact (if_neg hx).trans (if_neg hx)
  have hp4 : q_PI M4 := by rw [eM4]; exact hp2
  have m4 : M4.2 = M.2 := by rw [eM4]; exact q2.2.trans q1.2
  have b2 : ir_I M2 b 2 = K 8 := by
    rw [show ir_I M2 b 2 = ir_I M1 b 2 from congrFun (fr2 _ (by omega)) 2, show ir_I M1 b 2 = ir_I M b 2 from congrFun (fr1 _ (by omega)) 2]
    exact hu2
  have b3 : ir_I M2 b 3 = nI e := by
    rw [show ir_I M2 b 3 = ir_I M1 b 3 from congrFun (fr2 _ (by omega)) 3, show ir_I M1 b 3 = ir_I M b 3 from congrFun (fr1 _ (by omega)) 3]
    exact hu3
  have frb : ∀ x, (x < a ∨ a + 88 ≤ x) → M4.1 x = M.1 x := fun x hx => (fr4 x (by omega)).trans ((fr2 x (by omega)).trans (fr1 x (by omega)))
  have Lp := q_up (σ := ir_M) (V := fun x t => v_X5_take_40 (d + 2) a b (nI x) t) (N := 12) (I := fun x t => t.2 = M4.2 ∧ (∀ y, (y < a + 16 ∨ a + 88 ≤ y) → t.1 y = M4.1 y) ∧ ∀ z, z < x → (∀ k, k < 4 → ir_I t (a + 16 + 6 * z) k = ir_I M (b + 16 + 6 * z) k) ∧ ∀ j k, 1 ≤ j → j < 6 → k < 8 → ir_I t (a + 16 + 6 * z + j) k = ir_I M (b + 16 + 6 * z + j) k) (K := ir_oV) (by
    rintro x t hx ⟨h1, h2, h3⟩
    have hpt := q_PI_o h1 hp4
    have tb : ∀ j, j < 6 → t.1 (b + 16 + 6 * x + j) = M.1 (b + 16 + 6 * x + j) := fun j hj => (h2 _ (by omega)).trans (frb _ (by omega))
    obtain ⟨t2, e3, q3, u0, u1⟩ := c_take (d := d + 1) hpt (ka x hx) (kb x hx) (by omega) (by
      rw [show ir_I t (b + 16 + 6 * x) 2 = ir_I M (b + 16 + 6 * x) 2 from congrFun (tb 0 (by omega)) 2]
      exact hu7 x hx)
    have fr3 : ∀ y, (y < a + 16 + 6 * x ∨ a + 16 + 6 * x + 6 ≤ y) → t2.1 y = t.1 y := fun y hy => q3.1 y (by simp only [List.mem_cons, List.not_mem_nil, or_false]; omega)
    refine ⟨t2, ⟨q3.2.trans h1, fun y hy => (fr3 y (by omega)).trans (h2 y hy), fun z hz => ?_⟩, ?_⟩
    · by_cases q : z = x
      · rw [q]
        refine ⟨fun k hk => ?_, fun j k h1 h6 hk => ?_⟩
        · rw [u0 k hk]
          exact congrFun (tb 0 (by omega)) k
        · rw [u1 j k h1 h6 hk]
          exact congrFun (tb j h6) k
      · obtain ⟨v0, v1⟩ := h3 z (by omega)
        refine ⟨fun k hk => ?_, fun j k h1 h6 hk => ?_⟩
        · rw [← v0 k hk]
          exact congrFun (fr3 _ (by omega)) k
        · rw [← v1 j k h1 h6 hk]
          exact congrFun (fr3 _ (by omega)) k
    · rw [L_X5_take_40]
      simp (disch := omega) only [q_ckt, q_lt, q_cI, q_cJ, q_cV, q_cP, q_xI, q_xV, q_xP, q_xJ, g_gk, g_ga, g_gw, g_gp, g_gq, g_P, g_J, q_I_s, q_I_n, q_I_k, nI_add, pk_sub, pk_mul, nI_clamp, n_lt0, n_0lt, n_eq0, n_lt, n_le, n_eq, n_m1, n_m2, n_m9, n_12, n_19, n_10, n_01, n_1n1, n_0n1, n_1n0, n_0n0, n_dI, n_m1lt, q_inb, n_nar, n_nar0, n_nar1, n_bool, Bool.false_eq_true, Bool.true_eq_false, if_true, if_false, ↓reduceIte, Nat.reduceAdd, Nat.reduceMul, Nat.reduceSub, Nat.reduceLT, Nat.reduceLeDiff, Nat.reduceEqDiff, Nat.reduceMod, Nat.reduceDiv, hx, q_Sc hpt ha, q_Sc hpt hb, n_blt, Bool.true_or, Bool.and_self, q_S hpt (ka x hx), e3]) (by
    rintro t ⟨h1, h2, h3⟩
    rw [L_X5_take_40]
    simp (disch := omega) only [q_ckt, q_lt, q_cI, q_cJ, q_cV, q_cP, q_xI, q_xV, q_xP, q_xJ, g_gk, g_ga, g_gw, g_gp, g_gq, g_P, g_J, q_I_s, q_I_n, q_I_k, nI_add, pk_sub, pk_mul, nI_clamp, n_lt0, n_0lt, n_eq0, n_lt, n_le, n_eq, n_m1, n_m2, n_m9, n_12, n_19, n_10, n_01, n_1n1, n_0n1, n_1n0, n_0n0, n_dI, n_m1lt, q_inb, n_nar, n_nar0, n_nar1, n_bool, Bool.false_eq_true, Bool.true_eq_false, if_true, if_false, ↓reduceIte, Nat.reduceAdd, Nat.reduceMul, Nat.reduceSub, Nat.reduceLT, Nat.reduceLeDiff, Nat.reduceEqDiff, Nat.reduceMod, Nat.reduceDiv]) (i := 0) (t := M4) (by omega) ⟨rfl, fun _ _ => rfl, fun z hz => absurd hz (by omega)⟩
  obtain ⟨M5, ⟨h1, h2, h3⟩, e5⟩ := Lp
  have T : ∀ j k, 1 ≤ j → j < 9 → ir_I M5 (a + j) k = ir_I M1 (a + j) k := fun j k h5 h6 => by
    show M5.1 (a + j) k = M1.1 (a + j) k
    rw [h2 _ (by omega), fr4 _ (by omega), fr2 _ (by omega)]
  have S : ∀ j k, 9 ≤ j → j < 15 → ir_I M5 (a + j) k = ir_I M2 (a + j) k := fun j k h5 h6 => by
    show M5.1 (a + j) k = M2.1 (a + j) k
    rw [h2 _ (by omega), fr4 _ (by omega)]
  have A : ∀ k, ir_I M5 a k = ir_I M4 a k := fun k => congrFun (h2 a (by omega)) k
  refine ⟨M5, ?_, fun x hx => ?_, h1.trans m4, ⟨?_, ?_, ?_, ?_, ?_, ?_, ?_, ?_, ?_, ?_, ?_, ?_⟩, ?_, ?_, ?_, e, he, ?_, fun i hi => ?_, fun x hx => ?_⟩
  · rw [E_X5_take]
    simp (disch := omega) only [q_ckt, q_lt, q_cI, q_cJ, q_cV, q_cP, q_xI, q_xV, q_xP, q_xJ, g_gk, g_ga, g_gw, g_gp, g_gq, g_P, g_J, q_I_s, q_I_n, q_I_k, nI_add, pk_sub, pk_mul, nI_clamp, n_lt0, n_0lt, n_eq0, n_lt, n_le, n_eq, n_m1, n_m2, n_m9, n_12, n_19, n_10, n_01, n_1n1, n_0n1, n_1n0, n_0n0, n_dI, n_m1lt, q_inb, n_nar, n_nar0, n_nar1, n_bool, Bool.false_eq_true, Bool.true_eq_false, if_true, if_false, ↓reduceIte, Nat.reduceAdd, Nat.reduceMul, Nat.reduceSub, Nat.reduceLT, Nat.reduceLeDiff, Nat.reduceEqDiff, Nat.reduceMod, Nat.reduceDiv, q_Sc hp ha, q_Sc hp hb, q_U hp ma, e1, q_Sc hp1 ha, q_Sc hp1 hb, q_S hp1 sa, e2, q_Sc hp2 ha, q_Sc hp2 hb, b2, b3]
    rw [← eM4]
    exact e5
  · rcases Nat.lt_or_ge x a with q | q
    · rw [h2 x (by omega)]; exact frb x (by omega)
    · rcases Nat.lt_or_ge x (a + 88) with q2 | q2
      · rw [h2 x (by omega), fr4 x (by omega), fr2 x (by omega)]; exact fr1 x (by omega)
      · rw [h2 x (by omega)]; exact frb x (by omega)
  · rw [T 1 0 (by omega) (by omega), f0 0 (by omega)]; exact ht.1
  · rw [T 1 1 (by omega) (by omega), f0 1 (by omega)]; exact ht.2.1
  · rw [T 1 2 (by omega) (by omega), f0 2 (by omega)]; exact ht.2.2.1
  · rw [T 1 3 (by omega) (by omega), f0 3 (by omega)]; exact ht.2.2.2.1
  · rw [T 1 4 (by omega) (by omega), f0 4 (by omega)]; exact ht.2.2.2.2.1
  · rw [T 1 5 (by omega) (by omega), f0 5 (by omega)]; exact ht.2.2.2.2.2.1
  · rw [T 1 6 (by omega) (by omega), f0 6 (by omega)]; exact ht.2.2.2.2.2.2.1
  · intro p hpn
    rw [T 2 p (by omega) (by omega), f1 p (by omega)]
    exact ht.2.2.2.2.2.2.2.1 p hpn
  · intro p g hpn hg
    rw [T 7 _ (by omega) (by omega), f6 _ (by omega)]
    exact ht.2.2.2.2.2.2.2.2.1 p g hpn hg
  · intro p q hpn hq
    rw [T 8 _ (by omega) (by omega), f7 _ (by omega)]
    exact ht.2.2.2.2.2.2.2.2.2.1 p q hpn hq
  · rw [T 4 0 (by omega) (by omega), f3, e7]
  · intro i hi
    rw [T 5 i (by omega) (by omega), f4 i (by rw [e7, nI_clamp (by omega)] at hi; exact hi)]
    exact tl.2 i hi
  · intro p hpn
    obtain ⟨y, y1, y2, y3⟩ := hap p hpn
    refine ⟨y, y1, ?_, y3⟩
    rw [T 3 p (by omega) (by omega), f2 p (by omega)]
    exact y2
  · exact c_st_fr (M := M2) (fun j hj => funext fun k => by rw [show a + 9 + j = a + (9 + j) by omega]; exact S (9 + j) k (by omega) (by omega)) (c_st_take (by omega) (by omega) (by omega) (c_st_fr (fun j hj => fr1 _ (by omega)) hst) g0 g1)
  · rw [A, eM4, q_I_k (by decide), q_I_s]
  · rw [A, eM4, q_I_s]
  · have := Nat.mod_lt (e + i) (show 0 < 12 by decide)
    obtain ⟨v0, v1⟩ := h3 ((e + i) % 12) this
    have o := n3 i hi
    have o1 := o.2.1
    have o2 := o.2.2.2.2.2.2.2.2.2.1
    have o3 : k_n (k_put K (k_un K i)) = k_n K := k_n_put
    exact c_st_take (by omega) (by omega) (by omega) (hu i hi) v0 v1
  · rw [(h3 x hx).1 2 (by decide)]
    exact hu7 x hx
