/-! judge, perform -/
def k_ji (K : Nat → Int32) (T : Nat → Int64) : Nat → (Nat → Int32) × Int32
  | 0 => (K, nI 0)
  | i + 1 => ((k_mk (k_ji K T i).1 (T i)).2, (k_ji K T i).2 + (k_mk (k_ji K T i).1 (T i)).1)
def k_jx (K : Nat → Int32) (T : Nat → Int64) : Nat → Nat → Nat
  | 0, i => i
  | r + 1, i => if k_wy (k_ji K T i).1 (T i) = 0 then k_jx K T r (i + 1) else i
theorem k_wx_le {K : Nat → Int32} {x : Nat} : k_wx K x ≤ 2 := by
  unfold k_wx
  generalize (if x < 100 then k_g K else k_m K) = a
  by_cases q1 : x % 100 / 10 < k_n K
  · rw [if_pos q1]
    by_cases q2 : x % 10 < a
    · rw [if_pos q2]
      cases k_pl K (x % 100 / 10)
      · exact Nat.le_refl _
      · exact Nat.zero_le _
    · rw [if_neg q2]
      decide
  · rw [if_neg q1]
    decide
theorem k_wy_le {K : Nat → Int32} {v : Int64} : k_wy K v ≤ 2 := by
  unfold k_wy
  by_cases q1 : v = -1
  · rw [if_pos q1]
    decide
  · rw [if_neg q1]
    by_cases q2 : 0 ≤ v.toInt ∧ v.toInt < 200
    · rw [if_pos q2]
      exact k_wx_le
    · rw [if_neg q2]
      decide
theorem k_jx_le {K : Nat → Int32} {T : Nat → Int64} : ∀ (r i : Nat), i ≤ k_jx K T r i ∧ k_jx K T r i ≤ i + r ∧ (k_jx K T r i < i + r → k_wy (k_ji K T (k_jx K T r i)).1 (T (k_jx K T r i)) ≠ 0)
  | 0, i => ⟨Nat.le_refl _, Nat.le_refl _, fun h => absurd h (Nat.lt_irrefl _)⟩
  | r + 1, i => by
    unfold k_jx
    by_cases q : k_wy (k_ji K T i).1 (T i) = 0
    · rw [if_pos q]
      obtain ⟨a, b, c⟩ := k_jx_le (K := K) (T := T) r (i + 1)
      exact ⟨by omega, by omega, fun h => c (by omega)⟩
    · rw [if_neg q]
      exact ⟨by omega, by omega, fun _ => q⟩
section JC
variable {K : Nat → Int32} {T : Nat → Int64} {d t mn : Nat}
theorem c_jd {w : Int32} : ∀ (r i : Nat) {M : ir_M}, c_rl M 91 (k_ji K T i).1 → c_tt M t mn T → i + r = mn → ∃ M', v_X11_judge_43 (d + 6) 1 w (404 + 2 * t) (k_ji K T i).2 (nI i) M = v_X11_judge_95 (d + 6) 1 w (404 + 2 * t) (k_ji K T (k_jx K T r i)).2 (nI (k_jx K T r i)) M' ∧ q_eq [91, 92, 93, 94, 95, 96, 9, 117, 118, 120] M M' ∧ c_rl M' 91 (k_ji K T (k_jx K T r i)).1
  | 0, i, M, h, ht, hi => by
    refine ⟨M, ?_, q_eq.rf _ _, h⟩
    rw [L_X11_judge_43]
    have := ht.2.1
    simp (disch := omega) only [q_ckt, q_lt, q_cI, q_cJ, q_cV, q_cP, q_xI, q_xV, q_xP, q_xJ, g_gk, g_ga, g_gw, g_gp, g_gq, g_P, g_J, q_I_s, q_I_n, q_I_k, nI_add, pk_sub, pk_mul, nI_clamp, n_lt0, n_0lt, n_eq0, n_lt, n_le, n_eq, n_m1, n_m2, n_m9, n_12, n_19, n_10, n_01, n_1n1, n_0n1, n_1n0, n_0n0, n_dI, n_m1lt, q_inb, n_nar, n_nar0, n_nar1, n_bool, Bool.false_eq_true, Bool.true_eq_false, if_true, if_false, ↓reduceIte, Nat.reduceAdd, Nat.reduceMul, Nat.reduceSub, Nat.reduceLT, Nat.reduceLeDiff, Nat.reduceEqDiff, Nat.reduceMod, Nat.reduceDiv, q_Yt h.1 ht.1, ht.2.2.2.1, show ¬ i < mn by omega, k_jx]
  | r + 1, i, M, h, ht, hi => by
    have h30 := ht.2.1
    have na := c_na (d := d + 5) h.1 ht.1 ht.2.2.2.1 h30 (show i < mn by omega)
    rw [ht.2.2.2.2 i (by omega)] at na
    have wy := c_why (d := d + 4) h (T i)
    unfold k_jx
    by_cases q : k_wy (k_ji K T i).1 (T i) = 0
    · rw [if_pos q]
      obtain ⟨M1, e1, q1, c1⟩ := c_mk (d := d) h q
      have q1' : q_eq [91, 92, 93, 94, 95, 96, 9, 117, 118, 120] M M1 := q1.sub (by decide)
      obtain ⟨M2, e2, q2, c2⟩ := c_jd r (i + 1) (M := M1) c1 (c_tt_eq ht q1' (by decide)) (by omega)
      refine ⟨M2, ?_, q1'.tr q2, c2⟩
      rw [L_X11_judge_43]
      rw [q] at wy
      simp (disch := omega) only [q_ckt, q_lt, q_cI, q_cJ, q_cV, q_cP, q_xI, q_xV, q_xP, q_xJ, g_gk, g_ga, g_gw, g_gp, g_gq, g_P, g_J, q_I_s, q_I_n, q_I_k, nI_add, pk_sub, pk_mul, nI_clamp, n_lt0, n_0lt, n_eq0, n_lt, n_le, n_eq, n_m1, n_m2, n_m9, n_12, n_19, n_10, n_01, n_1n1, n_0n1, n_1n0, n_0n0, n_dI, n_m1lt, q_inb, n_nar, n_nar0, n_nar1, n_bool, Bool.false_eq_true, Bool.true_eq_false, if_true, if_false, ↓reduceIte, Nat.reduceAdd, Nat.reduceMul, Nat.reduceSub, Nat.reduceLT, Nat.reduceLeDiff, Nat.reduceEqDiff, Nat.reduceMod, Nat.reduceDiv, q_Yt h.1 ht.1, ht.2.2.2.1, show i < mn by omega, na, q_W h.1, wy, e1]
      exact e2
    · rw [if_neg q]
      refine ⟨M, ?_, q_eq.rf _ _, h⟩
      rw [L_X11_judge_43]
      have := k_wy_le (K := (k_ji K T i).1) (v := T i)
      simp (disch := omega) only [q_ckt, q_lt, q_cI, q_cJ, q_cV, q_cP, q_xI, q_xV, q_xP, q_xJ, g_gk, g_ga, g_gw, g_gp, g_gq, g_P, g_J, q_I_s, q_I_n, q_I_k, nI_add, pk_sub, pk_mul, nI_clamp, n_lt0, n_0lt, n_eq0, n_lt, n_le, n_eq, n_m1, n_m2, n_m9, n_12, n_19, n_10, n_01, n_1n1, n_0n1, n_1n0, n_0n0, n_dI, n_m1lt, q_inb, n_nar, n_nar0, n_nar1, n_bool, Bool.false_eq_true, Bool.true_eq_false, if_true, if_false, ↓reduceIte, Nat.reduceAdd, Nat.reduceMul, Nat.reduceSub, Nat.reduceLT, Nat.reduceLeDiff, Nat.reduceEqDiff, Nat.reduceMod, Nat.reduceDiv, q_Yt h.1 ht.1, ht.2.2.2.1, show i < mn by omega, na, q_W h.1, wy, q]
theorem r_jd {w : Int32} : ∀ (r i : Nat) {M : ir_M}, r_rl M (k_ji K T i).1 → r_tt M t mn T → i + r = mn → ∃ M', v_X12_judge_58 (d + 8) 412 (nI t) w (-1) (nI 0) (k_ji K T i).2 (nI i) M = v_X12_judge_131 (d + 8) 412 w (if k_jx K T r i < mn then nI (k_jx K T r i) else -1) (if k_jx K T r i < mn then nI (k_wy (k_ji K T (k_jx K T r i)).1 (T (k_jx K T r i))) else nI 0) (k_ji K T (k_jx K T r i)).2 M' ∧ q_eq [413, 418, 419, 420] M M' ∧ r_rl M' (k_ji K T (k_jx K T r i)).1 ∧ ∀ k, ¬ (9 ≤ k ∧ k < 53) → (k_ji K T (k_jx K T r i)).1 k = (k_ji K T i).1 k
  | 0, i, M, h, ht, hi => by
    refine ⟨M, ?_, q_eq.rf _ _, h, fun _ _ => rfl⟩
    rw [L_X12_judge_58]
    have := ht.1
    have := ht.2.1
    simp (disch := omega) only [q_ckt, q_lt, q_cI, q_cJ, q_cV, q_cP, q_xI, q_xV, q_xP, q_xJ, g_gk, g_ga, g_gw, g_gp, g_gq, g_P, g_J, q_I_s, q_I_n, q_I_k, nI_add, pk_sub, pk_mul, nI_clamp, n_lt0, n_0lt, n_eq0, n_lt, n_le, n_eq, n_m1, n_m2, n_m9, n_12, n_19, n_10, n_01, n_1n1, n_0n1, n_1n0, n_0n0, n_dI, n_m1lt, q_inb, n_nar, n_nar0, n_nar1, n_bool, Bool.false_eq_true, Bool.true_eq_false, if_true, if_false, ↓reduceIte, Nat.reduceAdd, Nat.reduceMul, Nat.reduceSub, Nat.reduceLT, Nat.reduceLeDiff, Nat.reduceEqDiff, Nat.reduceMod, Nat.reduceDiv, q_R h.1, ht.2.2.1, show ¬ i < mn by omega, k_jx]
  | r + 1, i, M, h, ht, hi => by
    have h4 := ht.1
    have h30 := ht.2.1
    have na := ht.2.2.2 i (by omega)
    have wy := r_why (d := d + 5) h (T i)
    unfold k_jx
    by_cases q : k_wy (k_ji K T i).1 (T i) = 0
    · rw [if_pos q]
      obtain ⟨M1, e1, q1, c1⟩ := r_mk (d := d) h q
      obtain ⟨M2, e2, q2, c2, o2⟩ := r_jd r (i + 1) (M := M1) c1 (r_tt_eq ht q1 (by decide)) (by omega)
      refine ⟨M2, ?_, q1.tr q2, c2, fun k hk => (o2 k hk).trans ((k_mk_o h.2.1 q).1 k hk)⟩
      rw [L_X12_judge_58]
      rw [q] at wy
      simp (disch := omega) only [q_ckt, q_lt, q_cI, q_cJ, q_cV, q_cP, q_xI, q_xV, q_xP, q_xJ, g_gk, g_ga, g_gw, g_gp, g_gq, g_P, g_J, q_I_s, q_I_n, q_I_k, nI_add, pk_sub, pk_mul, nI_clamp, n_lt0, n_0lt, n_eq0, n_lt, n_le, n_eq, n_m1, n_m2, n_m9, n_12, n_19, n_10, n_01, n_1n1, n_0n1, n_1n0, n_0n0, n_dI, n_m1lt, q_inb, n_nar, n_nar0, n_nar1, n_bool, Bool.false_eq_true, Bool.true_eq_false, if_true, if_false, ↓reduceIte, Nat.reduceAdd, Nat.reduceMul, Nat.reduceSub, Nat.reduceLT, Nat.reduceLeDiff, Nat.reduceEqDiff, Nat.reduceMod, Nat.reduceDiv, q_R h.1, ht.2.2.1, show i < mn by omega, na, wy, e1]
      exact e2
    · rw [if_neg q]
      refine ⟨M, ?_, q_eq.rf _ _, h, fun _ _ => rfl⟩
      have := k_wy_le (K := (k_ji K T i).1) (v := T i)
      rw [L_X12_judge_58]
      simp (disch := omega) only [q_ckt, q_lt, q_cI, q_cJ, q_cV, q_cP, q_xI, q_xV, q_xP, q_xJ, g_gk, g_ga, g_gw, g_gp, g_gq, g_P, g_J, q_I_s, q_I_n, q_I_k, nI_add, pk_sub, pk_mul, nI_clamp, n_lt0, n_0lt, n_eq0, n_lt, n_le, n_eq, n_m1, n_m2, n_m9, n_12, n_19, n_10, n_01, n_1n1, n_0n1, n_1n0, n_0n0, n_dI, n_m1lt, q_inb, n_nar, n_nar0, n_nar1, n_bool, Bool.false_eq_true, Bool.true_eq_false, if_true, if_false, ↓reduceIte, Nat.reduceAdd, Nat.reduceMul, Nat.reduceSub, Nat.reduceLT, Nat.reduceLeDiff, Nat.reduceEqDiff, Nat.reduceMod, Nat.reduceDiv, q_R h.1, ht.2.2.1, show i < mn by omega, na, wy, q]
      rw [L_X12_judge_58]
      simp (disch := omega) only [q_ckt, q_lt, q_cI, q_cJ, q_cV, q_cP, q_xI, q_xV, q_xP, q_xJ, g_gk, g_ga, g_gw, g_gp, g_gq, g_P, g_J, q_I_s, q_I_n, q_I_k, nI_add, pk_sub, pk_mul, nI_clamp, n_lt0, n_0lt, n_eq0, n_lt, n_le, n_eq, n_m1, n_m2, n_m9, n_12, n_19, n_10, n_01, n_1n1, n_0n1, n_1n0, n_0n0, n_dI, n_m1lt, q_inb, n_nar, n_nar0, n_nar1, n_bool, Bool.false_eq_true, Bool.true_eq_false, if_true, if_false, ↓reduceIte, Nat.reduceAdd, Nat.reduceMul, Nat.reduceSub, Nat.reduceLT, Nat.reduceLeDiff, Nat.reduceEqDiff, Nat.reduceMod, Nat.reduceDiv, q_R h.1, ht.2.2.1]
      split <;> rfl
end JC
section JS
variable {L : Nat} {xs : Nat → Int32}
theorem S_judge (a b : Int32) : q_St L xs (q_Iv L xs) (m_L_judge 200 1 a b 436) (m_X12_judge 200 412 a b) := by
  refine q_St_mk (x := m_X11_judge 199 1 a b) (fun M => E_L_judge 199 1 a b 436 M) fun M hp hI => ?_
  have hc := c_I_c hp hI.1
  have hr := c_I_r hp hI.1
  have hty := hI.2.1.2.1
  generalize M.1 413 = K at hc hr
  have hb := k_bds hc.2.2.1
  by_cases ha : k_rng a 4
  · obtain ⟨t, ht4, rfl⟩ := k_rng_of ha (by decide)
    rcases c_ty_use ht4 (hty t ht4) with ⟨m1, m2⟩ | ⟨so, mn, T, hso, s1, s2, ct, rt⟩
    · refine Or.inr ⟨2, 2, by omega, by omega, ?_, fun _ => rfl, fun M' s => ⟨nI 0, _, ?_, q_st_4 s.1.1 (k := 4) (v := nI 2) rfl, rfl, q_I_s⟩⟩
      · rw [E_X11_judge 198]
        simp (disch := omega) only [q_ckt, q_lt, q_cI, q_cJ, q_cV, q_cP, q_xI, q_xV, q_xP, q_xJ, g_gk, g_ga, g_gw, g_gp, g_gq, g_P, g_J, q_I_s, q_I_n, q_I_k, nI_add, pk_sub, pk_mul, nI_clamp, n_lt0, n_0lt, n_eq0, n_lt, n_le, n_eq, n_m1, n_m2, n_m9, n_12, n_19, n_10, n_01, n_1n1, n_0n1, n_1n0, n_0n0, n_dI, n_m1lt, q_inb, n_nar, n_nar0, n_nar1, n_bool, Bool.false_eq_true, Bool.true_eq_false, if_true, if_false, ↓reduceIte, Nat.reduceAdd, Nat.reduceMul, Nat.reduceSub, Nat.reduceLT, Nat.reduceLeDiff, Nat.reduceEqDiff, Nat.reduceMod, Nat.reduceDiv, q_W hp, c_nt1 hp ht4 m1]
      · have hr' := q_st_r s hr
        rw [E_X12_judge 199]
        simp (disch := omega) only [q_ckt, q_lt, q_cI, q_cJ, q_cV, q_cP, q_xI, q_xV, q_xP, q_xJ, g_gk, g_ga, g_gw, g_gp, g_gq, g_P, g_J, q_I_s, q_I_n, q_I_k, nI_add, pk_sub, pk_mul, nI_clamp, n_lt0, n_0lt, n_eq0, n_lt, n_le, n_eq, n_m1, n_m2, n_m9, n_12, n_19, n_10, n_01, n_1n1, n_0n1, n_1n0, n_0n0, n_dI, n_m1lt, q_inb, n_nar, n_nar0, n_nar1, n_bool, Bool.false_eq_true, Bool.true_eq_false, if_true, if_false, ↓reduceIte, Nat.reduceAdd, Nat.reduceMul, Nat.reduceSub, Nat.reduceLT, Nat.reduceLeDiff, Nat.reduceEqDiff, Nat.reduceMod, Nat.reduceDiv, q_R hr'.1, r_tf1 hr'.1 ht4 ((s.2.2.1.1 433 t rfl).trans m2), L_X12_judge_33]
    · have nt := c_nt2 (d := 196) hp ht4 ct.2.2.1
      by_cases hbk : k_rng b 4
      · obtain ⟨y, hy4, rfl⟩ := k_rng_of hbk (by decide)
        obtain ⟨J, eJ⟩ : ∃ J, J = k_jx K T mn 0 := ⟨_, rfl⟩
        obtain ⟨j1, j2, j3⟩ := k_jx_le (K := K) (T := T) mn 0
        rw [← eJ] at j1 j2 j3
        have h30 := ct.2.1
        have wle := k_wy_le (K := (k_ji K T J).1) (v := T J)
        refine Or.inl ⟨if y = 0 then (if J < mn then nI J else -1) else if y = 1 then (if J < mn then nI (k_wy (k_ji K T J).1 (T J)) else nI 0) else if y = 2 then (k_ji K T J).2 else nI (k_m (k_ji K T J).1), ?_, fun M' s => ?_⟩
        · obtain ⟨M1, e1, q1, c1, r1⟩ := c_trial (d := 197) hc
          have ct1 := c_tt_eq ct q1 (by decide)
          obtain ⟨M2, e2, q2, r2⟩ := c_jd (d := 192) (w := nI y) (K := K) (T := T) (t := t) (mn := mn) mn 0 (M := M1) r1 ct1 (by omega)
          rw [← eJ] at e2 r2
          have ct2 := c_tt_eq ct1 q2 (by decide)
          refine ⟨M2, ?_, q_st_eq hp ((q1.sub (by decide)).tr q2) (by decide)⟩
          have E : m_X11_judge 199 1 (nI t) (nI y) M = v_X11_judge_95 198 1 (nI y) (404 + 2 * t) (k_ji K T J).2 (nI J) M2 := by
            rw [E_X11_judge 198]
            simp (disch := omega) only [q_ckt, q_lt, q_cI, q_cJ, q_cV, q_cP, q_xI, q_xV, q_xP, q_xJ, g_gk, g_ga, g_gw, g_gp, g_gq, g_P, g_J, q_I_s, q_I_n, q_I_k, nI_add, pk_sub, pk_mul, nI_clamp, n_lt0, n_0lt, n_eq0, n_lt, n_le, n_eq, n_m1, n_m2, n_m9, n_12, n_19, n_10, n_01, n_1n1, n_0n1, n_1n0, n_0n0, n_dI, n_m1lt, q_inb, n_nar, n_nar0, n_nar1, n_bool, Bool.false_eq_true, Bool.true_eq_false, if_true, if_false, ↓reduceIte, Nat.reduceAdd, Nat.reduceMul, Nat.reduceSub, Nat.reduceLT, Nat.reduceLeDiff, Nat.reduceEqDiff, Nat.reduceMod, Nat.reduceDiv, q_W hp, nt, show ¬ 3 < y by omega, q_S hp (a := 91) (by decide), e1]
            exact e2
          rw [E, L_X11_judge_95]
          have hu2 := (c_use r2).2.2.2.2.2.1
          by_cases qJ : J < mn
          · have na := c_na (d := 197) r2.1 ct2.1 ct2.2.2.2.1 h30 qJ
            rw [ct2.2.2.2.2 J qJ] at na
            simp (disch := omega) only [q_ckt, q_lt, q_cI, q_cJ, q_cV, q_cP, q_xI, q_xV, q_xP, q_xJ, g_gk, g_ga, g_gw, g_gp, g_gq, g_P, g_J, q_I_s, q_I_n, q_I_k, nI_add, pk_sub, pk_mul, nI_clamp, n_lt0, n_0lt, n_eq0, n_lt, n_le, n_eq, n_m1, n_m2, n_m9, n_12, n_19, n_10, n_01, n_1n1, n_0n1, n_1n0, n_0n0, n_dI, n_m1lt, q_inb, n_nar, n_nar0, n_nar1, n_bool, Bool.false_eq_true, Bool.true_eq_false, if_true, if_false, ↓reduceIte, Nat.reduceAdd, Nat.reduceMul, Nat.reduceSub, Nat.reduceLT, Nat.reduceLeDiff, Nat.reduceEqDiff, Nat.reduceMod, Nat.reduceDiv, q_Yt r2.1 ct2.1, ct2.2.2.2.1, qJ]
            rw [L_X11_judge_109]
            by_cases y0 : y = 0
            · simp (disch := omega) only [q_ckt, q_lt, q_cI, q_cJ, q_cV, q_cP, q_xI, q_xV, q_xP, q_xJ, g_gk, g_ga, g_gw, g_gp, g_gq, g_P, g_J, q_I_s, q_I_n, q_I_k, nI_add, pk_sub, pk_mul, nI_clamp, n_lt0, n_0lt, n_eq0, n_lt, n_le, n_eq, n_m1, n_m2, n_m9, n_12, n_19, n_10, n_01, n_1n1, n_0n1, n_1n0, n_0n0, n_dI, n_m1lt, q_inb, n_nar, n_nar0, n_nar1, n_bool, Bool.false_eq_true, Bool.true_eq_false, if_true, if_false, ↓reduceIte, Nat.reduceAdd, Nat.reduceMul, Nat.reduceSub, Nat.reduceLT, Nat.reduceLeDiff, Nat.reduceEqDiff, Nat.reduceMod, Nat.reduceDiv, y0]
            · by_cases y1 : y = 1
              · simp (disch := omega) only [q_ckt, q_lt, q_cI, q_cJ, q_cV, q_cP, q_xI, q_xV, q_xP, q_xJ, g_gk, g_ga, g_gw, g_gp, g_gq, g_P, g_J, q_I_s, q_I_n, q_I_k, nI_add, pk_sub, pk_mul, nI_clamp, n_lt0, n_0lt, n_eq0, n_lt, n_le, n_eq, n_m1, n_m2, n_m9, n_12, n_19, n_10, n_01, n_1n1, n_0n1, n_1n0, n_0n0, n_dI, n_m1lt, q_inb, n_nar, n_nar0, n_nar1, n_bool, Bool.false_eq_true, Bool.true_eq_false, if_true, if_false, ↓reduceIte, Nat.reduceAdd, Nat.reduceMul, Nat.reduceSub, Nat.reduceLT, Nat.reduceLeDiff, Nat.reduceEqDiff, Nat.reduceMod, Nat.reduceDiv, y1, q_Yt r2.1 ct2.1, na, q_W r2.1, c_why r2]
              · by_cases y2 : y = 2
                · simp (disch := omega) only [q_ckt, q_lt, q_cI, q_cJ, q_cV, q_cP, q_xI, q_xV, q_xP, q_xJ, g_gk, g_ga, g_gw, g_gp, g_gq, g_P, g_J, q_I_s, q_I_n, q_I_k, nI_add, pk_sub, pk_mul, nI_clamp, n_lt0, n_0lt, n_eq0, n_lt, n_le, n_eq, n_m1, n_m2, n_m9, n_12, n_19, n_10, n_01, n_1n1, n_0n1, n_1n0, n_0n0, n_dI, n_m1lt, q_inb, n_nar, n_nar0, n_nar1, n_bool, Bool.false_eq_true, Bool.true_eq_false, if_true, if_false, ↓reduceIte, Nat.reduceAdd, Nat.reduceMul, Nat.reduceSub, Nat.reduceLT, Nat.reduceLeDiff, Nat.reduceEqDiff, Nat.reduceMod, Nat.reduceDiv, y2]
                · simp (disch := omega) only [q_ckt, q_lt, q_cI, q_cJ, q_cV, q_cP, q_xI, q_xV, q_xP, q_xJ, g_gk, g_ga, g_gw, g_gp, g_gq, g_P, g_J, q_I_s, q_I_n, q_I_k, nI_add, pk_sub, pk_mul, nI_clamp, n_lt0, n_0lt, n_eq0, n_lt, n_le, n_eq, n_m1, n_m2, n_m9, n_12, n_19, n_10, n_01, n_1n1, n_0n1, n_1n0, n_0n0, n_dI, n_m1lt, q_inb, n_nar, n_nar0, n_nar1, n_bool, Bool.false_eq_true, Bool.true_eq_false, if_true, if_false, ↓reduceIte, Nat.reduceAdd, Nat.reduceMul, Nat.reduceSub, Nat.reduceLT, Nat.reduceLeDiff, Nat.reduceEqDiff, Nat.reduceMod, Nat.reduceDiv, y0, y1, y2, q_W r2.1, q_S r2.1 (a := 91) (by decide), hu2]
          · simp (disch := omega) only [q_ckt, q_lt, q_cI, q_cJ, q_cV, q_cP, q_xI, q_xV, q_xP, q_xJ, g_gk, g_ga, g_gw, g_gp, g_gq, g_P, g_J, q_I_s, q_I_n, q_I_k, nI_add, pk_sub, pk_mul, nI_clamp, n_lt0, n_0lt, n_eq0, n_lt, n_le, n_eq, n_m1, n_m2, n_m9, n_12, n_19, n_10, n_01, n_1n1, n_0n1, n_1n0, n_0n0, n_dI, n_m1lt, q_inb, n_nar, n_nar0, n_nar1, n_bool, Bool.false_eq_true, Bool.true_eq_false, if_true, if_false, ↓reduceIte, Nat.reduceAdd, Nat.reduceMul, Nat.reduceSub, Nat.reduceLT, Nat.reduceLeDiff, Nat.reduceEqDiff, Nat.reduceMod, Nat.reduceDiv, q_Yt r2.1 ct2.1, ct2.2.2.2.1, qJ]
            rw [L_X11_judge_109]
            by_cases y0 : y = 0
            · simp (disch := omega) only [q_ckt, q_lt, q_cI, q_cJ, q_cV, q_cP, q_xI, q_xV, q_xP, q_xJ, g_gk, g_ga, g_gw, g_gp, g_gq, g_P, g_J, q_I_s, q_I_n, q_I_k, nI_add, pk_sub, pk_mul, nI_clamp, n_lt0, n_0lt, n_eq0, n_lt, n_le, n_eq, n_m1, n_m2, n_m9, n_12, n_19, n_10, n_01, n_1n1, n_0n1, n_1n0, n_0n0, n_dI, n_m1lt, q_inb, n_nar, n_nar0, n_nar1, n_bool, Bool.false_eq_true, Bool.true_eq_false, if_true, if_false, ↓reduceIte, Nat.reduceAdd, Nat.reduceMul, Nat.reduceSub, Nat.reduceLT, Nat.reduceLeDiff, Nat.reduceEqDiff, Nat.reduceMod, Nat.reduceDiv, y0]
            · by_cases y1 : y = 1
              · simp (disch := omega) only [q_ckt, q_lt, q_cI, q_cJ, q_cV, q_cP, q_xI, q_xV, q_xP, q_xJ, g_gk, g_ga, g_gw, g_gp, g_gq, g_P, g_J, q_I_s, q_I_n, q_I_k, nI_add, pk_sub, pk_mul, nI_clamp, n_lt0, n_0lt, n_eq0, n_lt, n_le, n_eq, n_m1, n_m2, n_m9, n_12, n_19, n_10, n_01, n_1n1, n_0n1, n_1n0, n_0n0, n_dI, n_m1lt, q_inb, n_nar, n_nar0, n_nar1, n_bool, Bool.false_eq_true, Bool.true_eq_false, if_true, if_false, ↓reduceIte, Nat.reduceAdd, Nat.reduceMul, Nat.reduceSub, Nat.reduceLT, Nat.reduceLeDiff, Nat.reduceEqDiff, Nat.reduceMod, Nat.reduceDiv, y1]
              · by_cases y2 : y = 2
                · simp (disch := omega) only [q_ckt, q_lt, q_cI, q_cJ, q_cV, q_cP, q_xI, q_xV, q_xP, q_xJ, g_gk, g_ga, g_gw, g_gp, g_gq, g_P, g_J, q_I_s, q_I_n, q_I_k, nI_add, pk_sub, pk_mul, nI_clamp, n_lt0, n_0lt, n_eq0, n_lt, n_le, n_eq, n_m1, n_m2, n_m9, n_12, n_19, n_10, n_01, n_1n1, n_0n1, n_1n0, n_0n0, n_dI, n_m1lt, q_inb, n_nar, n_nar0, n_nar1, n_bool, Bool.false_eq_true, Bool.true_eq_false, if_true, if_false, ↓reduceIte, Nat.reduceAdd, Nat.reduceMul, Nat.reduceSub, Nat.reduceLT, Nat.reduceLeDiff, Nat.reduceEqDiff, Nat.reduceMod, Nat.reduceDiv, y2]
                · simp (disch := omega) only [q_ckt, q_lt, q_cI, q_cJ, q_cV, q_cP, q_xI, q_xV, q_xP, q_xJ, g_gk, g_ga, g_gw, g_gp, g_gq, g_P, g_J, q_I_s, q_I_n, q_I_k, nI_add, pk_sub, pk_mul, nI_clamp, n_lt0, n_0lt, n_eq0, n_lt, n_le, n_eq, n_m1, n_m2, n_m9, n_12, n_19, n_10, n_01, n_1n1, n_0n1, n_1n0, n_0n0, n_dI, n_m1lt, q_inb, n_nar, n_nar0, n_nar1, n_bool, Bool.false_eq_true, Bool.true_eq_false, if_true, if_false, ↓reduceIte, Nat.reduceAdd, Nat.reduceMul, Nat.reduceSub, Nat.reduceLT, Nat.reduceLeDiff, Nat.reduceEqDiff, Nat.reduceMod, Nat.reduceDiv, y0, y1, y2, q_W r2.1, q_S r2.1 (a := 91) (by decide), hu2]
        · have hr' := q_st_r s hr
          have h4 := r_4 (v := nI 0) hr'
          have rt' := r_tt_st rt s
          have rt4 : r_tt (ir_sI M' 412 4 (nI 0)) t mn T := r_tt_st rt' (q_st_4 hr'.1 (k := 4) (v := nI 0) rfl)
          have s2' : ir_I M' 433 t = nI so := (s.2.2.1.1 433 t rfl).trans s2
          obtain ⟨N1, f1, t1, a1⟩ := r_aside (d := 198) h4.1 (lv := 0) (by decide)
          have u1 := r_rl_eq h4 t1 (by decide)
          obtain ⟨N2, f2, t2, u2, ko⟩ := r_jd (d := 191) (w := nI y) (K := K) (T := T) (t := t) (mn := mn) mn 0 (M := N1) u1 (r_tt_eq rt4 t1 (by decide)) (by omega)
          rw [← eJ] at f2 u2 ko
          obtain ⟨N3, f3, t3, -⟩ := r_ab (d := 198) h4 (by decide) t1 a1 t2 (by decide) (fun k hk => by rw [u2.2.2]; exact ko k hk)
          have p3 := q_PI_eq t3 h4.1
          refine ⟨N3, ?_, (q_st_4 hr'.1 rfl).tr (q_st_eq h4.1 t3 (by decide)), by rw [t3.2]; rfl, (q_I_eq t3 (by decide) 4).trans q_I_s⟩
          have E : m_X12_judge 200 412 (nI t) (nI y) M' = v_X12_judge_131 199 412 (nI y) (if J < mn then nI J else -1) (if J < mn then nI (k_wy (k_ji K T J).1 (T J)) else nI 0) (k_ji K T J).2 N2 := by
            rw [E_X12_judge 199]
            simp (disch := omega) only [q_ckt, q_lt, q_cI, q_cJ, q_cV, q_cP, q_xI, q_xV, q_xP, q_xJ, g_gk, g_ga, g_gw, g_gp, g_gq, g_P, g_J, q_I_s, q_I_n, q_I_k, nI_add, pk_sub, pk_mul, nI_clamp, n_lt0, n_0lt, n_eq0, n_lt, n_le, n_eq, n_m1, n_m2, n_m9, n_12, n_19, n_10, n_01, n_1n1, n_0n1, n_1n0, n_0n0, n_dI, n_m1lt, q_inb, n_nar, n_nar0, n_nar1, n_bool, Bool.false_eq_true, Bool.true_eq_false, if_true, if_false, ↓reduceIte, Nat.reduceAdd, Nat.reduceMul, Nat.reduceSub, Nat.reduceLT, Nat.reduceLeDiff, Nat.reduceEqDiff, Nat.reduceMod, Nat.reduceDiv, q_R hr'.1, r_tf2 hr'.1 ht4 hso s2', r_within, k_wir (c := 3) (n := 3) (by decide +kernel), hbk, L_X12_judge_33, f1]
            exact f2
          rw [E, L_X12_judge_131]
          by_cases y0 : y = 0
          · simp (disch := omega) only [q_ckt, q_lt, q_cI, q_cJ, q_cV, q_cP, q_xI, q_xV, q_xP, q_xJ, g_gk, g_ga, g_gw, g_gp, g_gq, g_P, g_J, q_I_s, q_I_n, q_I_k, nI_add, pk_sub, pk_mul, nI_clamp, n_lt0, n_0lt, n_eq0, n_lt, n_le, n_eq, n_m1, n_m2, n_m9, n_12, n_19, n_10, n_01, n_1n1, n_0n1, n_1n0, n_0n0, n_dI, n_m1lt, q_inb, n_nar, n_nar0, n_nar1, n_bool, Bool.false_eq_true, Bool.true_eq_false, if_true, if_false, ↓reduceIte, Nat.reduceAdd, Nat.reduceMul, Nat.reduceSub, Nat.reduceLT, Nat.reduceLeDiff, Nat.reduceEqDiff, Nat.reduceMod, Nat.reduceDiv, q_R u2.1, r_qd u2, f3, y0]
          · by_cases y1 : y = 1
            · simp (disch := omega) only [q_ckt, q_lt, q_cI, q_cJ, q_cV, q_cP, q_xI, q_xV, q_xP, q_xJ, g_gk, g_ga, g_gw, g_gp, g_gq, g_P, g_J, q_I_s, q_I_n, q_I_k, nI_add, pk_sub, pk_mul, nI_clamp, n_lt0, n_0lt, n_eq0, n_lt, n_le, n_eq, n_m1, n_m2, n_m9, n_12, n_19, n_10, n_01, n_1n1, n_0n1, n_1n0, n_0n0, n_dI, n_m1lt, q_inb, n_nar, n_nar0, n_nar1, n_bool, Bool.false_eq_true, Bool.true_eq_false, if_true, if_false, ↓reduceIte, Nat.reduceAdd, Nat.reduceMul, Nat.reduceSub, Nat.reduceLT, Nat.reduceLeDiff, Nat.reduceEqDiff, Nat.reduceMod, Nat.reduceDiv, q_R u2.1, r_qd u2, f3, y1]
            · by_cases y2 : y = 2
              · simp (disch := omega) only [q_ckt, q_lt, q_cI, q_cJ, q_cV, q_cP, q_xI, q_xV, q_xP, q_xJ, g_gk, g_ga, g_gw, g_gp, g_gq, g_P, g_J, q_I_s, q_I_n, q_I_k, nI_add, pk_sub, pk_mul, nI_clamp, n_lt0, n_0lt, n_eq0, n_lt, n_le, n_eq, n_m1, n_m2, n_m9, n_12, n_19, n_10, n_01, n_1n1, n_0n1, n_1n0, n_0n0, n_dI, n_m1lt, q_inb, n_nar, n_nar0, n_nar1, n_bool, Bool.false_eq_true, Bool.true_eq_false, if_true, if_false, ↓reduceIte, Nat.reduceAdd, Nat.reduceMul, Nat.reduceSub, Nat.reduceLT, Nat.reduceLeDiff, Nat.reduceEqDiff, Nat.reduceMod, Nat.reduceDiv, q_R u2.1, r_qd u2, f3, y2]
              · simp (disch := omega) only [q_ckt, q_lt, q_cI, q_cJ, q_cV, q_cP, q_xI, q_xV, q_xP, q_xJ, g_gk, g_ga, g_gw, g_gp, g_gq, g_P, g_J, q_I_s, q_I_n, q_I_k, nI_add, pk_sub, pk_mul, nI_clamp, n_lt0, n_0lt, n_eq0, n_lt, n_le, n_eq, n_m1, n_m2, n_m9, n_12, n_19, n_10, n_01, n_1n1, n_0n1, n_1n0, n_0n0, n_dI, n_m1lt, q_inb, n_nar, n_nar0, n_nar1, n_bool, Bool.false_eq_true, Bool.true_eq_false, if_true, if_false, ↓reduceIte, Nat.reduceAdd, Nat.reduceMul, Nat.reduceSub, Nat.reduceLT, Nat.reduceLeDiff, Nat.reduceEqDiff, Nat.reduceMod, Nat.reduceDiv, q_R u2.1, r_qd u2, f3, y0, y1, y2]
      · refine Or.inr ⟨3, 3, by omega, by omega, ?_, fun _ => rfl, fun M' s => ⟨nI 0, ir_sI (ir_sI M' 412 4 (nI 0)) 412 4 (nI 3), ?_, (q_st_4 s.1.1 (k := 4) rfl).tr (q_st_4 (M := ir_sI M' 412 4 (nI 0)) s.1.1 (k := 4) (v := nI 3) rfl), rfl, q_I_s⟩⟩
        · rw [E_X11_judge 198]
          simp (disch := omega) only [q_ckt, q_lt, q_cI, q_cJ, q_cV, q_cP, q_xI, q_xV, q_xP, q_xJ, g_gk, g_ga, g_gw, g_gp, g_gq, g_P, g_J, q_I_s, q_I_n, q_I_k, nI_add, pk_sub, pk_mul, nI_clamp, n_lt0, n_0lt, n_eq0, n_lt, n_le, n_eq, n_m1, n_m2, n_m9, n_12, n_19, n_10, n_01, n_1n1, n_0n1, n_1n0, n_0n0, n_dI, n_m1lt, q_inb, n_nar, n_nar0, n_nar1, n_bool, Bool.false_eq_true, Bool.true_eq_false, if_true, if_false, ↓reduceIte, Nat.reduceAdd, Nat.reduceMul, Nat.reduceSub, Nat.reduceLT, Nat.reduceLeDiff, Nat.reduceEqDiff, Nat.reduceMod, Nat.reduceDiv, q_W hp, nt]
          rw [k_rng_d (n := 3) (by decide), if_neg hbk]
        · have hr' := q_st_r s hr
          have s2' : ir_I M' 433 t = nI so := (s.2.2.1.1 433 t rfl).trans s2
          rw [E_X12_judge 199]
          simp (disch := omega) only [q_ckt, q_lt, q_cI, q_cJ, q_cV, q_cP, q_xI, q_xV, q_xP, q_xJ, g_gk, g_ga, g_gw, g_gp, g_gq, g_P, g_J, q_I_s, q_I_n, q_I_k, nI_add, pk_sub, pk_mul, nI_clamp, n_lt0, n_0lt, n_eq0, n_lt, n_le, n_eq, n_m1, n_m2, n_m9, n_12, n_19, n_10, n_01, n_1n1, n_0n1, n_1n0, n_0n0, n_dI, n_m1lt, q_inb, n_nar, n_nar0, n_nar1, n_bool, Bool.false_eq_true, Bool.true_eq_false, if_true, if_false, ↓reduceIte, Nat.reduceAdd, Nat.reduceMul, Nat.reduceSub, Nat.reduceLT, Nat.reduceLeDiff, Nat.reduceEqDiff, Nat.reduceMod, Nat.reduceDiv, q_R hr'.1, r_tf2 hr'.1 ht4 hso s2', r_within, k_wir (c := 3) (n := 3) (by decide +kernel), hbk, L_X12_judge_33]
  · refine Or.inr ⟨1, 1, by omega, by omega, ?_, fun _ => rfl, fun M' s => ⟨nI 0, _, ?_, q_st_4 s.1.1 (k := 4) (v := nI 1) rfl, rfl, q_I_s⟩⟩
    · rw [E_X11_judge 198]
      simp (disch := omega) only [q_ckt, q_lt, q_cI, q_cJ, q_cV, q_cP, q_xI, q_xV, q_xP, q_xJ, g_gk, g_ga, g_gw, g_gp, g_gq, g_P, g_J, q_I_s, q_I_n, q_I_k, nI_add, pk_sub, pk_mul, nI_clamp, n_lt0, n_0lt, n_eq0, n_lt, n_le, n_eq, n_m1, n_m2, n_m9, n_12, n_19, n_10, n_01, n_1n1, n_0n1, n_1n0, n_0n0, n_dI, n_m1lt, q_inb, n_nar, n_nar0, n_nar1, n_bool, Bool.false_eq_true, Bool.true_eq_false, if_true, if_false, ↓reduceIte, Nat.reduceAdd, Nat.reduceMul, Nat.reduceSub, Nat.reduceLT, Nat.reduceLeDiff, Nat.reduceEqDiff, Nat.reduceMod, Nat.reduceDiv, q_W hp, c_nt0 hp ha]
    · have hr' := q_st_r s hr
      rw [E_X12_judge 199]
      simp (disch := omega) only [q_ckt, q_lt, q_cI, q_cJ, q_cV, q_cP, q_xI, q_xV, q_xP, q_xJ, g_gk, g_ga, g_gw, g_gp, g_gq, g_P, g_J, q_I_s, q_I_n, q_I_k, nI_add, pk_sub, pk_mul, nI_clamp, n_lt0, n_0lt, n_eq0, n_lt, n_le, n_eq, n_m1, n_m2, n_m9, n_12, n_19, n_10, n_01, n_1n1, n_0n1, n_1n0, n_0n0, n_dI, n_m1lt, q_inb, n_nar, n_nar0, n_nar1, n_bool, Bool.false_eq_true, Bool.true_eq_false, if_true, if_false, ↓reduceIte, Nat.reduceAdd, Nat.reduceMul, Nat.reduceSub, Nat.reduceLT, Nat.reduceLeDiff, Nat.reduceEqDiff, Nat.reduceMod, Nat.reduceDiv, q_R hr'.1, r_tf0 hr'.1 ha, L_X12_judge_33]
end JS
