/-! THE WELL: tokens, the reference -/
def r_tx (B : Nat → Nat) (n L : Nat) (xs : Nat → Int32) (M : ir_M) : Prop := q_PI M ∧ n ≤ 900 ∧ (∀ k, k < n → B k < 256 ∧ ir_I M 417 k = nI (B k)) ∧ ir_I M 412 7 = nI n ∧ q_X L xs M
theorem r_tx_eq {B : Nat → Nat} {n L : Nat} {xs : Nat → Int32} {M M' : ir_M} {S : List Nat} (h : r_tx B n L xs M) (he : q_eq S M M') (hS : ∀ a ∈ S, a = 412 ∨ a = 414) (h7 : ir_I M' 412 7 = ir_I M 412 7) : r_tx B n L xs M' := by
  obtain ⟨h1, h2, h3, h4, h8⟩ := h
  refine ⟨q_PI_eq he h1, h2, fun k hk => ⟨(h3 k hk).1, ?_⟩, h7.trans h4, q_X_eq he (fun a ha => by have := hS a ha; omega) h8⟩
  rw [q_I_eq he (fun q => by have := hS 417 q; omega)]; exact (h3 k hk).2
/-- the reference's token -/
def k_rt (kd : Nat) : Nat := if kd = 0 then 0 else if kd = 1 then 3 else if kd = 2 then 2 else if kd = 3 ∨ 256 ≤ kd then 1 else kd
section RN
variable {B : Nat → Nat} {n L : Nat} {xs : Nat → Int32} {d : Nat}
theorem r_ilt {M : ir_M} {b : Nat} (hb : b < 2 ^ 31) : m_X12_isLetter (d + 1) (nI b) M = ir_oI (if k_ltr b = true then nI 1 else nI 0) M := by
  rw [E_X12_isLetter]
  unfold k_ltr
  by_cases c1 : b < 97
  · rw [decide_eq_false (by omega)]
    simp (disch := omega) only [q_ckt, q_lt, q_cI, q_cJ, q_cV, q_cP, q_xI, q_xV, q_xP, q_xJ, g_gk, g_ga, g_gw, g_gp, g_gq, g_P, g_J, q_I_s, q_I_n, q_I_k, nI_add, pk_sub, pk_mul, nI_clamp, n_lt0, n_0lt, n_eq0, n_lt, n_le, n_eq, n_m1, n_m2, n_m9, n_12, n_19, n_10, n_01, n_1n1, n_0n1, n_1n0, n_0n0, n_dI, n_m1lt, q_inb, n_nar, n_nar0, n_nar1, n_bool, Bool.false_eq_true, Bool.true_eq_false, if_true, if_false, ↓reduceIte, Nat.reduceAdd, Nat.reduceMul, Nat.reduceSub, Nat.reduceLT, Nat.reduceLeDiff, Nat.reduceEqDiff, Nat.reduceMod, Nat.reduceDiv, c1]
  · by_cases c2 : 122 < b
    · rw [decide_eq_false (by omega)]
      simp (disch := omega) only [q_ckt, q_lt, q_cI, q_cJ, q_cV, q_cP, q_xI, q_xV, q_xP, q_xJ, g_gk, g_ga, g_gw, g_gp, g_gq, g_P, g_J, q_I_s, q_I_n, q_I_k, nI_add, pk_sub, pk_mul, nI_clamp, n_lt0, n_0lt, n_eq0, n_lt, n_le, n_eq, n_m1, n_m2, n_m9, n_12, n_19, n_10, n_01, n_1n1, n_0n1, n_1n0, n_0n0, n_dI, n_m1lt, q_inb, n_nar, n_nar0, n_nar1, n_bool, Bool.false_eq_true, Bool.true_eq_false, if_true, if_false, ↓reduceIte, Nat.reduceAdd, Nat.reduceMul, Nat.reduceSub, Nat.reduceLT, Nat.reduceLeDiff, Nat.reduceEqDiff, Nat.reduceMod, Nat.reduceDiv, c1, c2]
    · rw [decide_eq_true (by omega)]
      simp (disch := omega) only [q_ckt, q_lt, q_cI, q_cJ, q_cV, q_cP, q_xI, q_xV, q_xP, q_xJ, g_gk, g_ga, g_gw, g_gp, g_gq, g_P, g_J, q_I_s, q_I_n, q_I_k, nI_add, pk_sub, pk_mul, nI_clamp, n_lt0, n_0lt, n_eq0, n_lt, n_le, n_eq, n_m1, n_m2, n_m9, n_12, n_19, n_10, n_01, n_1n1, n_0n1, n_1n0, n_0n0, n_dI, n_m1lt, q_inb, n_nar, n_nar0, n_nar1, n_bool, Bool.false_eq_true, Bool.true_eq_false, if_true, if_false, ↓reduceIte, Nat.reduceAdd, Nat.reduceMul, Nat.reduceSub, Nat.reduceLT, Nat.reduceLeDiff, Nat.reduceEqDiff, Nat.reduceMod, Nat.reduceDiv, c1, c2]
theorem r_idg {M : ir_M} {b : Nat} (hb : b < 2 ^ 31) : m_X12_isDigit (d + 1) (nI b) M = ir_oI (if k_dg b = true then nI 1 else nI 0) M := by
  rw [E_X12_isDigit]
  unfold k_dg
  by_cases c1 : b < 48
  · rw [decide_eq_false (by omega)]
    simp (disch := omega) only [q_ckt, q_lt, q_cI, q_cJ, q_cV, q_cP, q_xI, q_xV, q_xP, q_xJ, g_gk, g_ga, g_gw, g_gp, g_gq, g_P, g_J, q_I_s, q_I_n, q_I_k, nI_add, pk_sub, pk_mul, nI_clamp, n_lt0, n_0lt, n_eq0, n_lt, n_le, n_eq, n_m1, n_m2, n_m9, n_12, n_19, n_10, n_01, n_1n1, n_0n1, n_1n0, n_0n0, n_dI, n_m1lt, q_inb, n_nar, n_nar0, n_nar1, n_bool, Bool.false_eq_true, Bool.true_eq_false, if_true, if_false, ↓reduceIte, Nat.reduceAdd, Nat.reduceMul, Nat.reduceSub, Nat.reduceLT, Nat.reduceLeDiff, Nat.reduceEqDiff, Nat.reduceMod, Nat.reduceDiv, c1]
  · by_cases c2 : 57 < b
    · rw [decide_eq_false (by omega)]
      simp (disch := omega) only [q_ckt, q_lt, q_cI, q_cJ, q_cV, q_cP, q_xI, q_xV, q_xP, q_xJ, g_gk, g_ga, g_gw, g_gp, g_gq, g_P, g_J, q_I_s, q_I_n, q_I_k, nI_add, pk_sub, pk_mul, nI_clamp, n_lt0, n_0lt, n_eq0, n_lt, n_le, n_eq, n_m1, n_m2, n_m9, n_12, n_19, n_10, n_01, n_1n1, n_0n1, n_1n0, n_0n0, n_dI, n_m1lt, q_inb, n_nar, n_nar0, n_nar1, n_bool, Bool.false_eq_true, Bool.true_eq_false, if_true, if_false, ↓reduceIte, Nat.reduceAdd, Nat.reduceMul, Nat.reduceSub, Nat.reduceLT, Nat.reduceLeDiff, Nat.reduceEqDiff, Nat.reduceMod, Nat.reduceDiv, c1, c2]
    · rw [decide_eq_true (by omega)]
      simp (disch := omega) only [q_ckt, q_lt, q_cI, q_cJ, q_cV, q_cP, q_xI, q_xV, q_xP, q_xJ, g_gk, g_ga, g_gw, g_gp, g_gq, g_P, g_J, q_I_s, q_I_n, q_I_k, nI_add, pk_sub, pk_mul, nI_clamp, n_lt0, n_0lt, n_eq0, n_lt, n_le, n_eq, n_m1, n_m2, n_m9, n_12, n_19, n_10, n_01, n_1n1, n_0n1, n_1n0, n_0n0, n_dI, n_m1lt, q_inb, n_nar, n_nar0, n_nar1, n_bool, Bool.false_eq_true, Bool.true_eq_false, if_true, if_false, ↓reduceIte, Nat.reduceAdd, Nat.reduceMul, Nat.reduceSub, Nat.reduceLT, Nat.reduceLeDiff, Nat.reduceEqDiff, Nat.reduceMod, Nat.reduceDiv, c1, c2]
theorem r_isg {M : ir_M} {b : Nat} (hb : b < 256) : m_X12_isSignByte (d + 1) (nI b) M = ir_oI (if k_sg b = true then nI 1 else nI 0) M := by
  rw [E_X12_isSignByte]
  unfold k_sg
  by_cases c1 : b = 91
  · rw [decide_eq_true (by omega)]; simp (disch := omega) only [q_ckt, q_lt, q_cI, q_cJ, q_cV, q_cP, q_xI, q_xV, q_xP, q_xJ, g_gk, g_ga, g_gw, g_gp, g_gq, g_P, g_J, q_I_s, q_I_n, q_I_k, nI_add, pk_sub, pk_mul, nI_clamp, n_lt0, n_0lt, n_eq0, n_lt, n_le, n_eq, n_m1, n_m2, n_m9, n_12, n_19, n_10, n_01, n_1n1, n_0n1, n_1n0, n_0n0, n_dI, n_m1lt, q_inb, n_nar, n_nar0, n_nar1, n_bool, Bool.false_eq_true, Bool.true_eq_false, if_true, if_false, ↓reduceIte, Nat.reduceAdd, Nat.reduceMul, Nat.reduceSub, Nat.reduceLT, Nat.reduceLeDiff, Nat.reduceEqDiff, Nat.reduceMod, Nat.reduceDiv, c1, L_X12_isSignByte_35]
  · by_cases c2 : b = 93
    · rw [decide_eq_true (by omega)]; simp (disch := omega) only [q_ckt, q_lt, q_cI, q_cJ, q_cV, q_cP, q_xI, q_xV, q_xP, q_xJ, g_gk, g_ga, g_gw, g_gp, g_gq, g_P, g_J, q_I_s, q_I_n, q_I_k, nI_add, pk_sub, pk_mul, nI_clamp, n_lt0, n_0lt, n_eq0, n_lt, n_le, n_eq, n_m1, n_m2, n_m9, n_12, n_19, n_10, n_01, n_1n1, n_0n1, n_1n0, n_0n0, n_dI, n_m1lt, q_inb, n_nar, n_nar0, n_nar1, n_bool, Bool.false_eq_true, Bool.true_eq_false, if_true, if_false, ↓reduceIte, Nat.reduceAdd, Nat.reduceMul, Nat.reduceSub, Nat.reduceLT, Nat.reduceLeDiff, Nat.reduceEqDiff, Nat.reduceMod, Nat.reduceDiv, c2, L_X12_isSignByte_35]
    · by_cases c3 : b = 61
      · rw [decide_eq_true (by omega)]; simp (disch := omega) only [q_ckt, q_lt, q_cI, q_cJ, q_cV, q_cP, q_xI, q_xV, q_xP, q_xJ, g_gk, g_ga, g_gw, g_gp, g_gq, g_P, g_J, q_I_s, q_I_n, q_I_k, nI_add, pk_sub, pk_mul, nI_clamp, n_lt0, n_0lt, n_eq0, n_lt, n_le, n_eq, n_m1, n_m2, n_m9, n_12, n_19, n_10, n_01, n_1n1, n_0n1, n_1n0, n_0n0, n_dI, n_m1lt, q_inb, n_nar, n_nar0, n_nar1, n_bool, Bool.false_eq_true, Bool.true_eq_false, if_true, if_false, ↓reduceIte, Nat.reduceAdd, Nat.reduceMul, Nat.reduceSub, Nat.reduceLT, Nat.reduceLeDiff, Nat.reduceEqDiff, Nat.reduceMod, Nat.reduceDiv, c3, L_X12_isSignByte_35]
      · by_cases c4 : b = 60
        · rw [decide_eq_true (by omega)]; simp (disch := omega) only [q_ckt, q_lt, q_cI, q_cJ, q_cV, q_cP, q_xI, q_xV, q_xP, q_xJ, g_gk, g_ga, g_gw, g_gp, g_gq, g_P, g_J, q_I_s, q_I_n, q_I_k, nI_add, pk_sub, pk_mul, nI_clamp, n_lt0, n_0lt, n_eq0, n_lt, n_le, n_eq, n_m1, n_m2, n_m9, n_12, n_19, n_10, n_01, n_1n1, n_0n1, n_1n0, n_0n0, n_dI, n_m1lt, q_inb, n_nar, n_nar0, n_nar1, n_bool, Bool.false_eq_true, Bool.true_eq_false, if_true, if_false, ↓reduceIte, Nat.reduceAdd, Nat.reduceMul, Nat.reduceSub, Nat.reduceLT, Nat.reduceLeDiff, Nat.reduceEqDiff, Nat.reduceMod, Nat.reduceDiv, c4, L_X12_isSignByte_35]
        · by_cases c5 : b = 62
          · rw [decide_eq_true (by omega)]; simp (disch := omega) only [q_ckt, q_lt, q_cI, q_cJ, q_cV, q_cP, q_xI, q_xV, q_xP, q_xJ, g_gk, g_ga, g_gw, g_gp, g_gq, g_P, g_J, q_I_s, q_I_n, q_I_k, nI_add, pk_sub, pk_mul, nI_clamp, n_lt0, n_0lt, n_eq0, n_lt, n_le, n_eq, n_m1, n_m2, n_m9, n_12, n_19, n_10, n_01, n_1n1, n_0n1, n_1n0, n_0n0, n_dI, n_m1lt, q_inb, n_nar, n_nar0, n_nar1, n_bool, Bool.false_eq_true, Bool.true_eq_false, if_true, if_false, ↓reduceIte, Nat.reduceAdd, Nat.reduceMul, Nat.reduceSub, Nat.reduceLT, Nat.reduceLeDiff, Nat.reduceEqDiff, Nat.reduceMod, Nat.reduceDiv, c5, L_X12_isSignByte_35]
          · by_cases c6 : b = 59
            · rw [decide_eq_true (by omega)]; simp (disch := omega) only [q_ckt, q_lt, q_cI, q_cJ, q_cV, q_cP, q_xI, q_xV, q_xP, q_xJ, g_gk, g_ga, g_gw, g_gp, g_gq, g_P, g_J, q_I_s, q_I_n, q_I_k, nI_add, pk_sub, pk_mul, nI_clamp, n_lt0, n_0lt, n_eq0, n_lt, n_le, n_eq, n_m1, n_m2, n_m9, n_12, n_19, n_10, n_01, n_1n1, n_0n1, n_1n0, n_0n0, n_dI, n_m1lt, q_inb, n_nar, n_nar0, n_nar1, n_bool, Bool.false_eq_true, Bool.true_eq_false, if_true, if_false, ↓reduceIte, Nat.reduceAdd, Nat.reduceMul, Nat.reduceSub, Nat.reduceLT, Nat.reduceLeDiff, Nat.reduceEqDiff, Nat.reduceMod, Nat.reduceDiv, c6, L_X12_isSignByte_35]
            · by_cases c7 : b = 43
              · rw [decide_eq_true (by omega)]; simp (disch := omega) only [q_ckt, q_lt, q_cI, q_cJ, q_cV, q_cP, q_xI, q_xV, q_xP, q_xJ, g_gk, g_ga, g_gw, g_gp, g_gq, g_P, g_J, q_I_s, q_I_n, q_I_k, nI_add, pk_sub, pk_mul, nI_clamp, n_lt0, n_0lt, n_eq0, n_lt, n_le, n_eq, n_m1, n_m2, n_m9, n_12, n_19, n_10, n_01, n_1n1, n_0n1, n_1n0, n_0n0, n_dI, n_m1lt, q_inb, n_nar, n_nar0, n_nar1, n_bool, Bool.false_eq_true, Bool.true_eq_false, if_true, if_false, ↓reduceIte, Nat.reduceAdd, Nat.reduceMul, Nat.reduceSub, Nat.reduceLT, Nat.reduceLeDiff, Nat.reduceEqDiff, Nat.reduceMod, Nat.reduceDiv, c7, L_X12_isSignByte_35]
              · by_cases c8 : b = 45
                · rw [decide_eq_true (by omega)]; simp (disch := omega) only [q_ckt, q_lt, q_cI, q_cJ, q_cV, q_cP, q_xI, q_xV, q_xP, q_xJ, g_gk, g_ga, g_gw, g_gp, g_gq, g_P, g_J, q_I_s, q_I_n, q_I_k, nI_add, pk_sub, pk_mul, nI_clamp, n_lt0, n_0lt, n_eq0, n_lt, n_le, n_eq, n_m1, n_m2, n_m9, n_12, n_19, n_10, n_01, n_1n1, n_0n1, n_1n0, n_0n0, n_dI, n_m1lt, q_inb, n_nar, n_nar0, n_nar1, n_bool, Bool.false_eq_true, Bool.true_eq_false, if_true, if_false, ↓reduceIte, Nat.reduceAdd, Nat.reduceMul, Nat.reduceSub, Nat.reduceLT, Nat.reduceLeDiff, Nat.reduceEqDiff, Nat.reduceMod, Nat.reduceDiv, c8, L_X12_isSignByte_35]
                · by_cases c9 : b = 42
                  · rw [decide_eq_true (by omega)]; simp (disch := omega) only [q_ckt, q_lt, q_cI, q_cJ, q_cV, q_cP, q_xI, q_xV, q_xP, q_xJ, g_gk, g_ga, g_gw, g_gp, g_gq, g_P, g_J, q_I_s, q_I_n, q_I_k, nI_add, pk_sub, pk_mul, nI_clamp, n_lt0, n_0lt, n_eq0, n_lt, n_le, n_eq, n_m1, n_m2, n_m9, n_12, n_19, n_10, n_01, n_1n1, n_0n1, n_1n0, n_0n0, n_dI, n_m1lt, q_inb, n_nar, n_nar0, n_nar1, n_bool, Bool.false_eq_true, Bool.true_eq_false, if_true, if_false, ↓reduceIte, Nat.reduceAdd, Nat.reduceMul, Nat.reduceSub, Nat.reduceLT, Nat.reduceLeDiff, Nat.reduceEqDiff, Nat.reduceMod, Nat.reduceDiv, c9, L_X12_isSignByte_35]
                  · by_cases c10 : b = 40
                    · rw [decide_eq_true (by omega)]; simp (disch := omega) only [q_ckt, q_lt, q_cI, q_cJ, q_cV, q_cP, q_xI, q_xV, q_xP, q_xJ, g_gk, g_ga, g_gw, g_gp, g_gq, g_P, g_J, q_I_s, q_I_n, q_I_k, nI_add, pk_sub, pk_mul, nI_clamp, n_lt0, n_0lt, n_eq0, n_lt, n_le, n_eq, n_m1, n_m2, n_m9, n_12, n_19, n_10, n_01, n_1n1, n_0n1, n_1n0, n_0n0, n_dI, n_m1lt, q_inb, n_nar, n_nar0, n_nar1, n_bool, Bool.false_eq_true, Bool.true_eq_false, if_true, if_false, ↓reduceIte, Nat.reduceAdd, Nat.reduceMul, Nat.reduceSub, Nat.reduceLT, Nat.reduceLeDiff, Nat.reduceEqDiff, Nat.reduceMod, Nat.reduceDiv, c10, L_X12_isSignByte_35]
                    · by_cases c11 : b = 41
                      · rw [decide_eq_true (by omega)]; simp (disch := omega) only [q_ckt, q_lt, q_cI, q_cJ, q_cV, q_cP, q_xI, q_xV, q_xP, q_xJ, g_gk, g_ga, g_gw, g_gp, g_gq, g_P, g_J, q_I_s, q_I_n, q_I_k, nI_add, pk_sub, pk_mul, nI_clamp, n_lt0, n_0lt, n_eq0, n_lt, n_le, n_eq, n_m1, n_m2, n_m9, n_12, n_19, n_10, n_01, n_1n1, n_0n1, n_1n0, n_0n0, n_dI, n_m1lt, q_inb, n_nar, n_nar0, n_nar1, n_bool, Bool.false_eq_true, Bool.true_eq_false, if_true, if_false, ↓reduceIte, Nat.reduceAdd, Nat.reduceMul, Nat.reduceSub, Nat.reduceLT, Nat.reduceLeDiff, Nat.reduceEqDiff, Nat.reduceMod, Nat.reduceDiv, c11, L_X12_isSignByte_35]
                      · rw [decide_eq_false (by omega)]; simp (disch := omega) only [q_ckt, q_lt, q_cI, q_cJ, q_cV, q_cP, q_xI, q_xV, q_xP, q_xJ, g_gk, g_ga, g_gw, g_gp, g_gq, g_P, g_J, q_I_s, q_I_n, q_I_k, nI_add, pk_sub, pk_mul, nI_clamp, n_lt0, n_0lt, n_eq0, n_lt, n_le, n_eq, n_m1, n_m2, n_m9, n_12, n_19, n_10, n_01, n_1n1, n_0n1, n_1n0, n_0n0, n_dI, n_m1lt, q_inb, n_nar, n_nar0, n_nar1, n_bool, Bool.false_eq_true, Bool.true_eq_false, if_true, if_false, ↓reduceIte, Nat.reduceAdd, Nat.reduceMul, Nat.reduceSub, Nat.reduceLT, Nat.reduceLeDiff, Nat.reduceEqDiff, Nat.reduceMod, Nat.reduceDiv, c1, c2, c3, c4, c5, c6, c7, c8, c9, c10, c11, L_X12_isSignByte_35]
theorem r_see {M : ir_M} (h : r_tx B n L xs M) {q : Nat} (hq : q ≤ n) : m_X12_see (d + 1) 412 (nI q) M = ir_oI (nI (if q < n then B q else 0)) M := by
  have h900 := h.2.1
  rw [E_X12_see]
  by_cases c : q < n
  · rw [if_pos c]
    simp (disch := omega) only [q_ckt, q_lt, q_cI, q_cJ, q_cV, q_cP, q_xI, q_xV, q_xP, q_xJ, g_gk, g_ga, g_gw, g_gp, g_gq, g_P, g_J, q_I_s, q_I_n, q_I_k, nI_add, pk_sub, pk_mul, nI_clamp, n_lt0, n_0lt, n_eq0, n_lt, n_le, n_eq, n_m1, n_m2, n_m9, n_12, n_19, n_10, n_01, n_1n1, n_0n1, n_1n0, n_0n0, n_dI, n_m1lt, q_inb, n_nar, n_nar0, n_nar1, n_bool, Bool.false_eq_true, Bool.true_eq_false, if_true, if_false, ↓reduceIte, Nat.reduceAdd, Nat.reduceMul, Nat.reduceSub, Nat.reduceLT, Nat.reduceLeDiff, Nat.reduceEqDiff, Nat.reduceMod, Nat.reduceDiv, q_R h.1, h.2.2.2.1, c, (h.2.2.1 q c).2]
  · rw [if_neg c]
    simp (disch := omega) only [q_ckt, q_lt, q_cI, q_cJ, q_cV, q_cP, q_xI, q_xV, q_xP, q_xJ, g_gk, g_ga, g_gw, g_gp, g_gq, g_P, g_J, q_I_s, q_I_n, q_I_k, nI_add, pk_sub, pk_mul, nI_clamp, n_lt0, n_0lt, n_eq0, n_lt, n_le, n_eq, n_m1, n_m2, n_m9, n_12, n_19, n_10, n_01, n_1n1, n_0n1, n_1n0, n_0n0, n_dI, n_m1lt, q_inb, n_nar, n_nar0, n_nar1, n_bool, Bool.false_eq_true, Bool.true_eq_false, if_true, if_false, ↓reduceIte, Nat.reduceAdd, Nat.reduceMul, Nat.reduceSub, Nat.reduceLT, Nat.reduceLeDiff, Nat.reduceEqDiff, Nat.reduceMod, Nat.reduceDiv, q_R h.1, h.2.2.2.1, c]
theorem r_bk2 : ∀ (f p : Nat) {M : ir_M}, r_tx B n L xs M → p + f = n → ir_I M 412 8 = nI p → ∃ M', v_X12_readsOn_0 d 412 M = v_X12_readsOn_52 d 412 M' ∧ q_eq [412] M M' ∧ (∀ k, k ≠ 8 → ir_I M' 412 k = ir_I M 412 k) ∧ ir_I M' 412 8 = nI (k_sk B f p)
  | 0, p, M, h, hp, h8 => by
    have := h.2.1
    refine ⟨M, ?_, q_eq.rf _ _, fun _ _ => rfl, h8⟩
    rw [L_X12_readsOn_0]
    simp (disch := omega) only [q_ckt, q_lt, q_cI, q_cJ, q_cV, q_cP, q_xI, q_xV, q_xP, q_xJ, g_gk, g_ga, g_gw, g_gp, g_gq, g_P, g_J, q_I_s, q_I_n, q_I_k, nI_add, pk_sub, pk_mul, nI_clamp, n_lt0, n_0lt, n_eq0, n_lt, n_le, n_eq, n_m1, n_m2, n_m9, n_12, n_19, n_10, n_01, n_1n1, n_0n1, n_1n0, n_0n0, n_dI, n_m1lt, q_inb, n_nar, n_nar0, n_nar1, n_bool, Bool.false_eq_true, Bool.true_eq_false, if_true, if_false, ↓reduceIte, Nat.reduceAdd, Nat.reduceMul, Nat.reduceSub, Nat.reduceLT, Nat.reduceLeDiff, Nat.reduceEqDiff, Nat.reduceMod, Nat.reduceDiv, q_R h.1, h8, h.2.2.2.1, show ¬ p < n by omega]
  | f + 1, p, M, h, hp, h8 => by
    have h900 := h.2.1
    obtain ⟨b1, b2⟩ := h.2.2.1 p (by omega)
    unfold k_sk
    by_cases q : B p = 10 ∨ B p = 32
    · rw [if_pos q]
      have q1 : q_eq [412] M (ir_sI M 412 8 (nI (p + 1))) := q_eq.sI (by decide)
      obtain ⟨M', e', q', k', r'⟩ := r_bk2 f (p + 1) (r_tx_eq h q1 (by decide) (q_I_k (by decide))) (by omega) q_I_s
      refine ⟨M', ?_, q1.tr q', fun k hk => (k' k hk).trans (q_I_k hk), r'⟩
      rw [← e', L_X12_readsOn_0]
      rcases q with e | e
      · simp (disch := omega) only [q_ckt, q_lt, q_cI, q_cJ, q_cV, q_cP, q_xI, q_xV, q_xP, q_xJ, g_gk, g_ga, g_gw, g_gp, g_gq, g_P, g_J, q_I_s, q_I_n, q_I_k, nI_add, pk_sub, pk_mul, nI_clamp, n_lt0, n_0lt, n_eq0, n_lt, n_le, n_eq, n_m1, n_m2, n_m9, n_12, n_19, n_10, n_01, n_1n1, n_0n1, n_1n0, n_0n0, n_dI, n_m1lt, q_inb, n_nar, n_nar0, n_nar1, n_bool, Bool.false_eq_true, Bool.true_eq_false, if_true, if_false, ↓reduceIte, Nat.reduceAdd, Nat.reduceMul, Nat.reduceSub, Nat.reduceLT, Nat.reduceLeDiff, Nat.reduceEqDiff, Nat.reduceMod, Nat.reduceDiv, q_R h.1, h8, h.2.2.2.1, show p < n by omega, b2, e, L_X12_readsOn_39]
      · simp (disch := omega) only [q_ckt, q_lt, q_cI, q_cJ, q_cV, q_cP, q_xI, q_xV, q_xP, q_xJ, g_gk, g_ga, g_gw, g_gp, g_gq, g_P, g_J, q_I_s, q_I_n, q_I_k, nI_add, pk_sub, pk_mul, nI_clamp, n_lt0, n_0lt, n_eq0, n_lt, n_le, n_eq, n_m1, n_m2, n_m9, n_12, n_19, n_10, n_01, n_1n1, n_0n1, n_1n0, n_0n0, n_dI, n_m1lt, q_inb, n_nar, n_nar0, n_nar1, n_bool, Bool.false_eq_true, Bool.true_eq_false, if_true, if_false, ↓reduceIte, Nat.reduceAdd, Nat.reduceMul, Nat.reduceSub, Nat.reduceLT, Nat.reduceLeDiff, Nat.reduceEqDiff, Nat.reduceMod, Nat.reduceDiv, q_R h.1, h8, h.2.2.2.1, show p < n by omega, b2, e, L_X12_readsOn_39]
    · rw [if_neg q]
      refine ⟨M, ?_, q_eq.rf _ _, fun _ _ => rfl, h8⟩
      rw [L_X12_readsOn_0]
      simp (disch := omega) only [q_ckt, q_lt, q_cI, q_cJ, q_cV, q_cP, q_xI, q_xV, q_xP, q_xJ, g_gk, g_ga, g_gw, g_gp, g_gq, g_P, g_J, q_I_s, q_I_n, q_I_k, nI_add, pk_sub, pk_mul, nI_clamp, n_lt0, n_0lt, n_eq0, n_lt, n_le, n_eq, n_m1, n_m2, n_m9, n_12, n_19, n_10, n_01, n_1n1, n_0n1, n_1n0, n_0n0, n_dI, n_m1lt, q_inb, n_nar, n_nar0, n_nar1, n_bool, Bool.false_eq_true, Bool.true_eq_false, if_true, if_false, ↓reduceIte, Nat.reduceAdd, Nat.reduceMul, Nat.reduceSub, Nat.reduceLT, Nat.reduceLeDiff, Nat.reduceEqDiff, Nat.reduceMod, Nat.reduceDiv, q_R h.1, h8, h.2.2.2.1, show p < n by omega, b2, show ¬ B p = 10 by omega, show ¬ B p = 32 by omega]
theorem r_ltl : ∀ (f q : Nat) {M : ir_M}, r_tx B n L xs M → q + f = n → ir_I M 412 8 = nI q → ∃ M', v_X12_readsOn_94 (d + 1) 412 M = ir_oV (ir_sI M' 412 10 (nI 1)) ∧ q_eq [412] M M' ∧ (∀ k, k ≠ 8 → ir_I M' 412 k = ir_I M 412 k) ∧ ir_I M' 412 8 = nI (k_run k_ltr B f q)
  | 0, q, M, h, hq, h8 => by
    have h900 := h.2.1
    refine ⟨M, ?_, q_eq.rf _ _, fun _ _ => rfl, h8⟩
    have se := r_see (d := d) h (show q ≤ n by omega)
    rw [if_neg (by omega)] at se
    have il := r_ilt (M := M) (d := d) (b := 0) (by decide)
    rw [show k_ltr 0 = false by decide, if_neg (by decide)] at il
    rw [L_X12_readsOn_94]
    simp (disch := omega) only [q_ckt, q_lt, q_cI, q_cJ, q_cV, q_cP, q_xI, q_xV, q_xP, q_xJ, g_gk, g_ga, g_gw, g_gp, g_gq, g_P, g_J, q_I_s, q_I_n, q_I_k, nI_add, pk_sub, pk_mul, nI_clamp, n_lt0, n_0lt, n_eq0, n_lt, n_le, n_eq, n_m1, n_m2, n_m9, n_12, n_19, n_10, n_01, n_1n1, n_0n1, n_1n0, n_0n0, n_dI, n_m1lt, q_inb, n_nar, n_nar0, n_nar1, n_bool, Bool.false_eq_true, Bool.true_eq_false, if_true, if_false, ↓reduceIte, Nat.reduceAdd, Nat.reduceMul, Nat.reduceSub, Nat.reduceLT, Nat.reduceLeDiff, Nat.reduceEqDiff, Nat.reduceMod, Nat.reduceDiv, q_R h.1, h8, se, il]
  | f + 1, q, M, h, hq, h8 => by
    have h900 := h.2.1
    obtain ⟨b1, b2⟩ := h.2.2.1 q (by omega)
    have se := r_see (d := d) h (show q ≤ n by omega)
    rw [if_pos (by omega)] at se
    have il := r_ilt (M := M) (d := d) (b := B q) (by omega)
    unfold k_run
    by_cases c : k_ltr (B q) = true
    · rw [if_pos c] at il ⊢
      have q1 : q_eq [412] M (ir_sI M 412 8 (nI (q + 1))) := q_eq.sI (by decide)
      obtain ⟨M', e', q', k', r'⟩ := r_ltl f (q + 1) (r_tx_eq h q1 (by decide) (q_I_k (by decide))) (by omega) q_I_s
      refine ⟨M', ?_, q1.tr q', fun k hk => (k' k hk).trans (q_I_k hk), r'⟩
      rw [← e', L_X12_readsOn_94]
      simp (disch := omega) only [q_ckt, q_lt, q_cI, q_cJ, q_cV, q_cP, q_xI, q_xV, q_xP, q_xJ, g_gk, g_ga, g_gw, g_gp, g_gq, g_P, g_J, q_I_s, q_I_n, q_I_k, nI_add, pk_sub, pk_mul, nI_clamp, n_lt0, n_0lt, n_eq0, n_lt, n_le, n_eq, n_m1, n_m2, n_m9, n_12, n_19, n_10, n_01, n_1n1, n_0n1, n_1n0, n_0n0, n_dI, n_m1lt, q_inb, n_nar, n_nar0, n_nar1, n_bool, Bool.false_eq_true, Bool.true_eq_false, if_true, if_false, ↓reduceIte, Nat.reduceAdd, Nat.reduceMul, Nat.reduceSub, Nat.reduceLT, Nat.reduceLeDiff, Nat.reduceEqDiff, Nat.reduceMod, Nat.reduceDiv, q_R h.1, h8, se, il]
    · rw [if_neg c] at il ⊢
      refine ⟨M, ?_, q_eq.rf _ _, fun _ _ => rfl, h8⟩
      rw [L_X12_readsOn_94]
      simp (disch := omega) only [q_ckt, q_lt, q_cI, q_cJ, q_cV, q_cP, q_xI, q_xV, q_xP, q_xJ, g_gk, g_ga, g_gw, g_gp, g_gq, g_P, g_J, q_I_s, q_I_n, q_I_k, nI_add, pk_sub, pk_mul, nI_clamp, n_lt0, n_0lt, n_eq0, n_lt, n_le, n_eq, n_m1, n_m2, n_m9, n_12, n_19, n_10, n_01, n_1n1, n_0n1, n_1n0, n_0n0, n_dI, n_m1lt, q_inb, n_nar, n_nar0, n_nar1, n_bool, Bool.false_eq_true, Bool.true_eq_false, if_true, if_false, ↓reduceIte, Nat.reduceAdd, Nat.reduceMul, Nat.reduceSub, Nat.reduceLT, Nat.reduceLeDiff, Nat.reduceEqDiff, Nat.reduceMod, Nat.reduceDiv, q_R h.1, h8, se, il]
theorem r_dgl (s : Nat) : ∀ (f q : Nat) {M : ir_M}, r_tx B n L xs M → q + f = n → s ≤ q → (∀ i, s ≤ i → i < q → k_dg (B i) = true) → ir_I M 412 8 = nI q → ir_I M 412 9 = nI s → ir_I M 412 11 = nI (k_nv B s (min (q - s) 3)) → ∃ M', v_X12_readsOn_141 (d + 1) 412 M = ir_oV (ir_sI M' 412 10 (nI (if k_run k_dg B f q - s ≤ 3 then 2 else 3))) ∧ q_eq [412] M M' ∧ (∀ k, k ≠ 8 → k ≠ 11 → ir_I M' 412 k = ir_I M 412 k) ∧ ir_I M' 412 8 = nI (k_run k_dg B f q) ∧ ir_I M' 412 11 = nI (k_nv B s (min (k_run k_dg B f q - s) 3))
  | 0, q, M, h, hq, hs, hd, h8, h9, h11 => by
    have h900 := h.2.1
    have se := r_see (d := d) h (show q ≤ n by omega)
    rw [if_neg (by omega)] at se
    have il := r_idg (M := M) (d := d) (b := 0) (by decide)
    rw [show k_dg 0 = false by decide, if_neg (by decide)] at il
    refine ⟨M, ?_, q_eq.rf _ _, fun _ _ _ => rfl, h8, h11⟩
    show _ = ir_oV (ir_sI M 412 10 (nI (if q - s ≤ 3 then 2 else 3)))
    rw [L_X12_readsOn_141]
    by_cases c : q - s ≤ 3
    · rw [if_pos c]
      simp (disch := omega) only [q_ckt, q_lt, q_cI, q_cJ, q_cV, q_cP, q_xI, q_xV, q_xP, q_xJ, g_gk, g_ga, g_gw, g_gp, g_gq, g_P, g_J, q_I_s, q_I_n, q_I_k, nI_add, pk_sub, pk_mul, nI_clamp, n_lt0, n_0lt, n_eq0, n_lt, n_le, n_eq, n_m1, n_m2, n_m9, n_12, n_19, n_10, n_01, n_1n1, n_0n1, n_1n0, n_0n0, n_dI, n_m1lt, q_inb, n_nar, n_nar0, n_nar1, n_bool, Bool.false_eq_true, Bool.true_eq_false, if_true, if_false, ↓reduceIte, Nat.reduceAdd, Nat.reduceMul, Nat.reduceSub, Nat.reduceLT, Nat.reduceLeDiff, Nat.reduceEqDiff, Nat.reduceMod, Nat.reduceDiv, q_R h.1, h8, se, il, h9, show ¬ 3 < q - s by omega]
    · rw [if_neg c]
      simp (disch := omega) only [q_ckt, q_lt, q_cI, q_cJ, q_cV, q_cP, q_xI, q_xV, q_xP, q_xJ, g_gk, g_ga, g_gw, g_gp, g_gq, g_P, g_J, q_I_s, q_I_n, q_I_k, nI_add, pk_sub, pk_mul, nI_clamp, n_lt0, n_0lt, n_eq0, n_lt, n_le, n_eq, n_m1, n_m2, n_m9, n_12, n_19, n_10, n_01, n_1n1, n_0n1, n_1n0, n_0n0, n_dI, n_m1lt, q_inb, n_nar, n_nar0, n_nar1, n_bool, Bool.false_eq_true, Bool.true_eq_false, if_true, if_false, ↓reduceIte, Nat.reduceAdd, Nat.reduceMul, Nat.reduceSub, Nat.reduceLT, Nat.reduceLeDiff, Nat.reduceEqDiff, Nat.reduceMod, Nat.reduceDiv, q_R h.1, h8, se, il, h9, show 3 < q - s by omega]
  | f + 1, q, M, h, hq, hs, hd, h8, h9, h11 => by
    have h900 := h.2.1
    obtain ⟨b1, b2⟩ := h.2.2.1 q (by omega)
    have se := r_see (d := d) h (show q ≤ n by omega)
    rw [if_pos (by omega)] at se
    have il := r_idg (M := M) (d := d) (b := B q) (by omega)
    unfold k_run
    by_cases c : k_dg (B q) = true
    · rw [if_pos c] at il ⊢
      have hd2 := of_decide_eq_true c
      by_cases c3 : q - s < 3
      · have nl := k_nv_lt (B := B) (s := s) (q - s) (fun i hi => hd (s + i) (by omega) (by omega))
        have n100 : k_nv B s (q - s) < 100 := by
          have : (10 : Nat) ^ (q - s) ≤ 10 ^ 2 := Nat.pow_le_pow_right (by decide) (by omega)
          have : (10 : Nat) ^ 2 = 100 := by decide
          omega
        rw [Nat.min_eq_left (by omega)] at h11
        obtain ⟨M1, e1⟩ : ∃ N, N = ir_sI (ir_sI M 412 11 (nI (10 * k_nv B s (q - s) + B q - 48))) 412 8 (nI (q + 1)) := ⟨_, rfl⟩
        have q1 : q_eq [412] M M1 := by rw [e1]; exact (q_eq.sI (by decide)).tr (q_eq.sI (by decide))
        obtain ⟨M', e', q', k', r1, r2⟩ := r_dgl s f (q + 1) (M := M1) (r_tx_eq h q1 (by decide) (by rw [e1, q_I_k (by decide), q_I_k (by decide)])) (by omega) (by omega) (fun i h1 h2 => by
          by_cases z : i = q
          · rw [z]; exact c
          · exact hd i h1 (by omega)) (by rw [e1, q_I_s]) (by rw [e1, q_I_k (by decide), q_I_k (by decide)]; exact h9) (by
          rw [e1, q_I_k (by decide), q_I_s, Nat.min_eq_left (by omega), show q + 1 - s = (q - s) + 1 by omega]
          show _ = nI (10 * k_nv B s (q - s) + (B (s + (q - s)) - 48))
          rw [show s + (q - s) = q by omega, show 10 * k_nv B s (q - s) + B q - 48 = 10 * k_nv B s (q - s) + (B q - 48) by omega])
        refine ⟨M', ?_, q1.tr q', fun k h1 h2 => by rw [k' k h1 h2, e1, q_I_k h1, q_I_k h2], r1, r2⟩
        rw [← e', L_X12_readsOn_141, e1]
        simp (disch := omega) only [q_ckt, q_lt, q_cI, q_cJ, q_cV, q_cP, q_xI, q_xV, q_xP, q_xJ, g_gk, g_ga, g_gw, g_gp, g_gq, g_P, g_J, q_I_s, q_I_n, q_I_k, nI_add, pk_sub, pk_mul, nI_clamp, n_lt0, n_0lt, n_eq0, n_lt, n_le, n_eq, n_m1, n_m2, n_m9, n_12, n_19, n_10, n_01, n_1n1, n_0n1, n_1n0, n_0n0, n_dI, n_m1lt, q_inb, n_nar, n_nar0, n_nar1, n_bool, Bool.false_eq_true, Bool.true_eq_false, if_true, if_false, ↓reduceIte, Nat.reduceAdd, Nat.reduceMul, Nat.reduceSub, Nat.reduceLT, Nat.reduceLeDiff, Nat.reduceEqDiff, Nat.reduceMod, Nat.reduceDiv, q_R h.1, h8, se, il, h9, c3, h11, b2, L_X12_readsOn_196]
      · rw [Nat.min_eq_right (by omega)] at h11
        obtain ⟨M1, e1⟩ : ∃ N, N = ir_sI (ir_sI M 412 11 (nI (k_nv B s 3))) 412 8 (nI (q + 1)) := ⟨_, rfl⟩
        have q1 : q_eq [412] M M1 := by rw [e1]; exact (q_eq.sI (by decide)).tr (q_eq.sI (by decide))
        obtain ⟨M', e', q', k', r1, r2⟩ := r_dgl s f (q + 1) (M := M1) (r_tx_eq h q1 (by decide) (by rw [e1, q_I_k (by decide), q_I_k (by decide)])) (by omega) (by omega) (fun i h1 h2 => by
          by_cases z : i = q
          · rw [z]; exact c
          · exact hd i h1 (by omega)) (by rw [e1, q_I_s]) (by rw [e1, q_I_k (by decide), q_I_k (by decide)]; exact h9) (by
          rw [e1, q_I_k (by decide), q_I_s, Nat.min_eq_right (by omega)])
        refine ⟨M', ?_, q1.tr q', fun k h1 h2 => by rw [k' k h1 h2, e1, q_I_k h1, q_I_k h2], r1, r2⟩
        rw [← e', L_X12_readsOn_141, e1]
        simp (disch := omega) only [q_ckt, q_lt, q_cI, q_cJ, q_cV, q_cP, q_xI, q_xV, q_xP, q_xJ, g_gk, g_ga, g_gw, g_gp, g_gq, g_P, g_J, q_I_s, q_I_n, q_I_k, nI_add, pk_sub, pk_mul, nI_clamp, n_lt0, n_0lt, n_eq0, n_lt, n_le, n_eq, n_m1, n_m2, n_m9, n_12, n_19, n_10, n_01, n_1n1, n_0n1, n_1n0, n_0n0, n_dI, n_m1lt, q_inb, n_nar, n_nar0, n_nar1, n_bool, Bool.false_eq_true, Bool.true_eq_false, if_true, if_false, ↓reduceIte, Nat.reduceAdd, Nat.reduceMul, Nat.reduceSub, Nat.reduceLT, Nat.reduceLeDiff, Nat.reduceEqDiff, Nat.reduceMod, Nat.reduceDiv, q_R h.1, h8, se, il, h9, c3, h11, L_X12_readsOn_196]
    · rw [if_neg c] at il ⊢
      refine ⟨M, ?_, q_eq.rf _ _, fun _ _ _ => rfl, h8, h11⟩
      rw [L_X12_readsOn_141]
      by_cases c4 : q - s ≤ 3
      · rw [if_pos c4]
        simp (disch := omega) only [q_ckt, q_lt, q_cI, q_cJ, q_cV, q_cP, q_xI, q_xV, q_xP, q_xJ, g_gk, g_ga, g_gw, g_gp, g_gq, g_P, g_J, q_I_s, q_I_n, q_I_k, nI_add, pk_sub, pk_mul, nI_clamp, n_lt0, n_0lt, n_eq0, n_lt, n_le, n_eq, n_m1, n_m2, n_m9, n_12, n_19, n_10, n_01, n_1n1, n_0n1, n_1n0, n_0n0, n_dI, n_m1lt, q_inb, n_nar, n_nar0, n_nar1, n_bool, Bool.false_eq_true, Bool.true_eq_false, if_true, if_false, ↓reduceIte, Nat.reduceAdd, Nat.reduceMul, Nat.reduceSub, Nat.reduceLT, Nat.reduceLeDiff, Nat.reduceEqDiff, Nat.reduceMod, Nat.reduceDiv, q_R h.1, h8, se, il, h9, show ¬ 3 < q - s by omega]
      · rw [if_neg c4]
        simp (disch := omega) only [q_ckt, q_lt, q_cI, q_cJ, q_cV, q_cP, q_xI, q_xV, q_xP, q_xJ, g_gk, g_ga, g_gw, g_gp, g_gq, g_P, g_J, q_I_s, q_I_n, q_I_k, nI_add, pk_sub, pk_mul, nI_clamp, n_lt0, n_0lt, n_eq0, n_lt, n_le, n_eq, n_m1, n_m2, n_m9, n_12, n_19, n_10, n_01, n_1n1, n_0n1, n_1n0, n_0n0, n_dI, n_m1lt, q_inb, n_nar, n_nar0, n_nar1, n_bool, Bool.false_eq_true, Bool.true_eq_false, if_true, if_false, ↓reduceIte, Nat.reduceAdd, Nat.reduceMul, Nat.reduceSub, Nat.reduceLT, Nat.reduceLeDiff, Nat.reduceEqDiff, Nat.reduceMod, Nat.reduceDiv, q_R h.1, h8, se, il, h9, show 3 < q - s by omega]
/-- a token, the reference -/
theorem r_nx {M : ir_M} (h : r_tx B n L xs M) {p s : Nat} (hp : p ≤ n) (h8 : ir_I M 412 8 = nI p) (hs : s = k_ts B n p) : ∃ M', m_X12_readsOn (d + 3) 412 M = ir_oV M' ∧ q_eq [412] M M' ∧ (∀ k, k ≠ 8 → k ≠ 9 → k ≠ 10 → k ≠ 11 → ir_I M' 412 k = ir_I M 412 k) ∧ ir_I M' 412 8 = nI (k_t3 B n s).2.1 ∧ ir_I M' 412 10 = nI (k_rt (k_t3 B n s).1) ∧ ir_I M' 412 9 = nI s ∧ ((k_t3 B n s).1 = 2 → ir_I M' 412 11 = nI (k_t3 B n s).2.2) := by
  have h900 := h.2.1
  obtain ⟨M1, e1, q1, k1, r1⟩ := r_bk2 (d := d + 2) (n - p) p h (by omega) h8
  have es : k_sk B (n - p) p = s := hs.symm
  rw [es] at r1
  have sr := k_sk_r (B := B) (n - p) p
  rw [es] at sr
  have t1 := r_tx_eq h q1 (by decide) (k1 7 (by decide))
  obtain ⟨M2, e2⟩ : ∃ N, N = ir_sI M1 412 9 (nI s) := ⟨_, rfl⟩
  have q2 : q_eq [412] M1 M2 := by rw [e2]; exact q_eq.sI (by decide)
  have t2 := r_tx_eq t1 q2 (by decide) (by rw [e2, q_I_k (by decide)])
  have r28 : ir_I M2 412 8 = nI s := by rw [e2, q_I_k (by decide)]; exact r1
  have r29 : ir_I M2 412 9 = nI s := by rw [e2, q_I_s]
  have k2 : ∀ k, k ≠ 8 → k ≠ 9 → ir_I M2 412 k = ir_I M 412 k := fun k h1 h2 => by rw [e2, q_I_k h2]; exact k1 k h1
  have E : ∀ X, v_X12_readsOn_52 (d + 2) 412 M1 = X → m_X12_readsOn (d + 3) 412 M = X := fun X hX => by rw [e_X12_readsOn, e1]; exact hX
  unfold k_t3
  by_cases q : n ≤ s
  · rw [if_pos q]
    refine ⟨ir_sI M2 412 10 (nI 0), E _ ?_, (q1.tr q2).tr (q_eq.sI (by decide)), fun k h1 h2 h3 h4 => by rw [q_I_k h3]; exact k2 k h1 h2, by rw [q_I_k (by decide)]; exact r28, q_I_s, by rw [q_I_k (by decide)]; exact r29, fun w => nomatch w⟩
    rw [L_X12_readsOn_52, e2]
    simp (disch := omega) only [q_ckt, q_lt, q_cI, q_cJ, q_cV, q_cP, q_xI, q_xV, q_xP, q_xJ, g_gk, g_ga, g_gw, g_gp, g_gq, g_P, g_J, q_I_s, q_I_n, q_I_k, nI_add, pk_sub, pk_mul, nI_clamp, n_lt0, n_0lt, n_eq0, n_lt, n_le, n_eq, n_m1, n_m2, n_m9, n_12, n_19, n_10, n_01, n_1n1, n_0n1, n_1n0, n_0n0, n_dI, n_m1lt, q_inb, n_nar, n_nar0, n_nar1, n_bool, Bool.false_eq_true, Bool.true_eq_false, if_true, if_false, ↓reduceIte, Nat.reduceAdd, Nat.reduceMul, Nat.reduceSub, Nat.reduceLT, Nat.reduceLeDiff, Nat.reduceEqDiff, Nat.reduceMod, Nat.reduceDiv, q_R t1.1, r1, t1.2.2.2.1, show ¬ s < n by omega]
  · rw [if_neg q]
    obtain ⟨b1, b2⟩ := t1.2.2.1 s (by omega)
    have il := r_ilt (M := M2) (d := d + 1) (b := B s) (by omega)
    have id := r_idg (M := M2) (d := d + 1) (b := B s) (by omega)
    have ig := r_isg (M := M2) (d := d + 1) (b := B s) b1
    by_cases qd : k_dg (B s) = true
    · rw [if_pos qd] at id ⊢
      have hd2 := of_decide_eq_true qd
      have nl : k_ltr (B s) = false := decide_eq_false (by omega)
      rw [nl, if_neg (by decide)] at il
      obtain ⟨M3, e3⟩ : ∃ N, N = ir_sI M2 412 11 (nI 0) := ⟨_, rfl⟩
      have q3 : q_eq [412] M2 M3 := by rw [e3]; exact q_eq.sI (by decide)
      have t3 := r_tx_eq t2 q3 (by decide) (by rw [e3, q_I_k (by decide)])
      obtain ⟨M4, e4, q4, k4, r48, r411⟩ := r_dgl (d := d + 1) s (n - s) s t3 (by omega) (Nat.le_refl _) (fun i h1 h2 => by omega) (by rw [e3, q_I_k (by decide)]; exact r28) (by rw [e3, q_I_k (by decide)]; exact r29) (by rw [e3, q_I_s, Nat.sub_self]; rfl)
      refine ⟨ir_sI M4 412 10 (nI (if k_run k_dg B (n - s) s - s ≤ 3 then 2 else 3)), E _ ?_, (((q1.tr q2).tr q3).tr q4).tr (q_eq.sI (by decide)), fun k h1 h2 h3 h4 => ?_, ?_, ?_, ?_, fun _ => ?_⟩
      · rw [L_X12_readsOn_52]
        simp (disch := omega) only [q_ckt, q_lt, q_cI, q_cJ, q_cV, q_cP, q_xI, q_xV, q_xP, q_xJ, g_gk, g_ga, g_gw, g_gp, g_gq, g_P, g_J, q_I_s, q_I_n, q_I_k, nI_add, pk_sub, pk_mul, nI_clamp, n_lt0, n_0lt, n_eq0, n_lt, n_le, n_eq, n_m1, n_m2, n_m9, n_12, n_19, n_10, n_01, n_1n1, n_0n1, n_1n0, n_0n0, n_dI, n_m1lt, q_inb, n_nar, n_nar0, n_nar1, n_bool, Bool.false_eq_true, Bool.true_eq_false, if_true, if_false, ↓reduceIte, Nat.reduceAdd, Nat.reduceMul, Nat.reduceSub, Nat.reduceLT, Nat.reduceLeDiff, Nat.reduceEqDiff, Nat.reduceMod, Nat.reduceDiv, q_R t1.1, r1, t1.2.2.2.1, show s < n by omega, b2]
        rw [← e2]
        simp (disch := omega) only [q_ckt, q_lt, q_cI, q_cJ, q_cV, q_cP, q_xI, q_xV, q_xP, q_xJ, g_gk, g_ga, g_gw, g_gp, g_gq, g_P, g_J, q_I_s, q_I_n, q_I_k, nI_add, pk_sub, pk_mul, nI_clamp, n_lt0, n_0lt, n_eq0, n_lt, n_le, n_eq, n_m1, n_m2, n_m9, n_12, n_19, n_10, n_01, n_1n1, n_0n1, n_1n0, n_0n0, n_dI, n_m1lt, q_inb, n_nar, n_nar0, n_nar1, n_bool, Bool.false_eq_true, Bool.true_eq_false, if_true, if_false, ↓reduceIte, Nat.reduceAdd, Nat.reduceMul, Nat.reduceSub, Nat.reduceLT, Nat.reduceLeDiff, Nat.reduceEqDiff, Nat.reduceMod, Nat.reduceDiv, il, id, q_R t2.1]
        rw [← e3]
        exact e4
      · rw [q_I_k h3, k4 k h1 h4, e3, q_I_k h4]; exact k2 k h1 h2
      · rw [q_I_k (by decide)]; exact r48
      · rw [q_I_s]
        congr 1
        dsimp only
        by_cases c : k_run k_dg B (n - s) s - s ≤ 3
        · rw [if_pos c, if_pos c]; rfl
        · rw [if_neg c, if_neg c]; rfl
      · rw [q_I_k (by decide), k4 9 (by decide) (by decide), e3, q_I_k (by decide)]; exact r29
      · rw [q_I_k (by decide)]; exact r411
    · rw [if_neg qd] at id ⊢
      by_cases ql : k_ltr (B s) = true
      · rw [if_pos ql] at il ⊢
        obtain ⟨M3, e3, q3, k3, r38⟩ := r_ltl (d := d + 1) (n - s) s t2 (by omega) r28
        refine ⟨ir_sI M3 412 10 (nI 1), E _ ?_, ((q1.tr q2).tr q3).tr (q_eq.sI (by decide)), fun k h1 h2 h3 h4 => ?_, ?_, ?_, ?_, fun w => ?_⟩
        · rw [L_X12_readsOn_52]
          simp (disch := omega) only [q_ckt, q_lt, q_cI, q_cJ, q_cV, q_cP, q_xI, q_xV, q_xP, q_xJ, g_gk, g_ga, g_gw, g_gp, g_gq, g_P, g_J, q_I_s, q_I_n, q_I_k, nI_add, pk_sub, pk_mul, nI_clamp, n_lt0, n_0lt, n_eq0, n_lt, n_le, n_eq, n_m1, n_m2, n_m9, n_12, n_19, n_10, n_01, n_1n1, n_0n1, n_1n0, n_0n0, n_dI, n_m1lt, q_inb, n_nar, n_nar0, n_nar1, n_bool, Bool.false_eq_true, Bool.true_eq_false, if_true, if_false, ↓reduceIte, Nat.reduceAdd, Nat.reduceMul, Nat.reduceSub, Nat.reduceLT, Nat.reduceLeDiff, Nat.reduceEqDiff, Nat.reduceMod, Nat.reduceDiv, q_R t1.1, r1, t1.2.2.2.1, show s < n by omega, b2]
          rw [← e2]
          simp (disch := omega) only [q_ckt, q_lt, q_cI, q_cJ, q_cV, q_cP, q_xI, q_xV, q_xP, q_xJ, g_gk, g_ga, g_gw, g_gp, g_gq, g_P, g_J, q_I_s, q_I_n, q_I_k, nI_add, pk_sub, pk_mul, nI_clamp, n_lt0, n_0lt, n_eq0, n_lt, n_le, n_eq, n_m1, n_m2, n_m9, n_12, n_19, n_10, n_01, n_1n1, n_0n1, n_1n0, n_0n0, n_dI, n_m1lt, q_inb, n_nar, n_nar0, n_nar1, n_bool, Bool.false_eq_true, Bool.true_eq_false, if_true, if_false, ↓reduceIte, Nat.reduceAdd, Nat.reduceMul, Nat.reduceSub, Nat.reduceLT, Nat.reduceLeDiff, Nat.reduceEqDiff, Nat.reduceMod, Nat.reduceDiv, il]
          exact e3
        · rw [q_I_k h3, k3 k h1]; exact k2 k h1 h2
        · rw [q_I_k (by decide)]; exact r38
        · rw [q_I_s]
          congr 1
          have := k_wc_r (T := k_tx B s (k_run k_ltr B (n - s) s))
          unfold k_rt
          dsimp only
          rw [if_neg (by omega), if_neg (by omega), if_neg (by omega), if_pos (by omega)]
        · rw [q_I_k (by decide), k3 9 (by decide)]; exact r29
        · have := k_wc_r (T := k_tx B s (k_run k_ltr B (n - s) s))
          dsimp only at w
          omega
      · rw [if_neg ql] at il ⊢
        have fin : ∀ w : Nat, (w = k_rt (if k_sg (B s) = true then B s else 1)) → v_X12_readsOn_52 (d + 2) 412 M1 = ir_oV (ir_sI (ir_sI M2 412 10 (nI w)) 412 8 (nI (s + 1))) := fun w hw => by
          rw [L_X12_readsOn_52]
          by_cases c : k_sg (B s) = true
          · rw [if_pos c] at hw ig
            have sg := of_decide_eq_true c
            have ew : w = B s := by
              rw [hw]
              unfold k_rt
              rw [if_neg (by omega), if_neg (by omega), if_neg (by omega), if_neg (by omega)]
            simp (disch := omega) only [q_ckt, q_lt, q_cI, q_cJ, q_cV, q_cP, q_xI, q_xV, q_xP, q_xJ, g_gk, g_ga, g_gw, g_gp, g_gq, g_P, g_J, q_I_s, q_I_n, q_I_k, nI_add, pk_sub, pk_mul, nI_clamp, n_lt0, n_0lt, n_eq0, n_lt, n_le, n_eq, n_m1, n_m2, n_m9, n_12, n_19, n_10, n_01, n_1n1, n_0n1, n_1n0, n_0n0, n_dI, n_m1lt, q_inb, n_nar, n_nar0, n_nar1, n_bool, Bool.false_eq_true, Bool.true_eq_false, if_true, if_false, ↓reduceIte, Nat.reduceAdd, Nat.reduceMul, Nat.reduceSub, Nat.reduceLT, Nat.reduceLeDiff, Nat.reduceEqDiff, Nat.reduceMod, Nat.reduceDiv, q_R t1.1, r1, t1.2.2.2.1, show s < n by omega, b2]
            rw [← e2]
            simp (disch := omega) only [q_ckt, q_lt, q_cI, q_cJ, q_cV, q_cP, q_xI, q_xV, q_xP, q_xJ, g_gk, g_ga, g_gw, g_gp, g_gq, g_P, g_J, q_I_s, q_I_n, q_I_k, nI_add, pk_sub, pk_mul, nI_clamp, n_lt0, n_0lt, n_eq0, n_lt, n_le, n_eq, n_m1, n_m2, n_m9, n_12, n_19, n_10, n_01, n_1n1, n_0n1, n_1n0, n_0n0, n_dI, n_m1lt, q_inb, n_nar, n_nar0, n_nar1, n_bool, Bool.false_eq_true, Bool.true_eq_false, if_true, if_false, ↓reduceIte, Nat.reduceAdd, Nat.reduceMul, Nat.reduceSub, Nat.reduceLT, Nat.reduceLeDiff, Nat.reduceEqDiff, Nat.reduceMod, Nat.reduceDiv, il, id, ig, L_X12_readsOn_250, q_R t2.1, r28, ew]
          · rw [if_neg c] at hw ig
            have ew : w = 3 := by rw [hw]; rfl
            simp (disch := omega) only [q_ckt, q_lt, q_cI, q_cJ, q_cV, q_cP, q_xI, q_xV, q_xP, q_xJ, g_gk, g_ga, g_gw, g_gp, g_gq, g_P, g_J, q_I_s, q_I_n, q_I_k, nI_add, pk_sub, pk_mul, nI_clamp, n_lt0, n_0lt, n_eq0, n_lt, n_le, n_eq, n_m1, n_m2, n_m9, n_12, n_19, n_10, n_01, n_1n1, n_0n1, n_1n0, n_0n0, n_dI, n_m1lt, q_inb, n_nar, n_nar0, n_nar1, n_bool, Bool.false_eq_true, Bool.true_eq_false, if_true, if_false, ↓reduceIte, Nat.reduceAdd, Nat.reduceMul, Nat.reduceSub, Nat.reduceLT, Nat.reduceLeDiff, Nat.reduceEqDiff, Nat.reduceMod, Nat.reduceDiv, q_R t1.1, r1, t1.2.2.2.1, show s < n by omega, b2]
            rw [← e2]
            simp (disch := omega) only [q_ckt, q_lt, q_cI, q_cJ, q_cV, q_cP, q_xI, q_xV, q_xP, q_xJ, g_gk, g_ga, g_gw, g_gp, g_gq, g_P, g_J, q_I_s, q_I_n, q_I_k, nI_add, pk_sub, pk_mul, nI_clamp, n_lt0, n_0lt, n_eq0, n_lt, n_le, n_eq, n_m1, n_m2, n_m9, n_12, n_19, n_10, n_01, n_1n1, n_0n1, n_1n0, n_0n0, n_dI, n_m1lt, q_inb, n_nar, n_nar0, n_nar1, n_bool, Bool.false_eq_true, Bool.true_eq_false, if_true, if_false, ↓reduceIte, Nat.reduceAdd, Nat.reduceMul, Nat.reduceSub, Nat.reduceLT, Nat.reduceLeDiff, Nat.reduceEqDiff, Nat.reduceMod, Nat.reduceDiv, il, id, ig, L_X12_readsOn_250, q_R t2.1, r28, ew]
        refine ⟨_, E _ (fin _ rfl), ((q1.tr q2).tr (q_eq.sI (by decide))).tr (q_eq.sI (by decide)), fun k h1 h2 h3 h4 => ?_, q_I_s, ?_, ?_, fun w => ?_⟩
        · rw [q_I_k h1, q_I_k h3]; exact k2 k h1 h2
        · rw [q_I_k (by decide), q_I_s]
        · rw [q_I_k (by decide), q_I_k (by decide)]; exact r29
        · dsimp only at w
          split at w
          · next z =>
            have := of_decide_eq_true z
            omega
          · exact nomatch w
end RN
