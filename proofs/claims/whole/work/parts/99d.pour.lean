/-! pour -/
def k_pv (x : Int32) : Int64 := if x = -1 then -2 else x.toInt64
section PO
variable {L : Nat} {xs : Nat → Int32}
theorem S_pour (a : Int32) : q_St L xs (q_Iv L xs) (m_L_pour 200 1 a 436) (m_X12_pour 200 412 a) := by
  intro j M hI
  have hp := hI.1
  have hc := c_I_c hp hI.2.2.2.2.1
  have hr := c_I_r hp hI.2.2.2.2.1
  have hty := hI.2.2.2.2.2.1.2.1
  have hw : c_W (m_L_pour 200 1 a 436) (m_X11_pour 199 1 a) (fun e4 M5 => if e4 = 1 then ir_oI (nI 1) M5 else if e4 = 2 then ir_oI (nI 2) M5 else none) := fun M => E_L_pour 199 1 a 436 M
  by_cases ha : k_rng a 4
  · obtain ⟨i, hi, rfl⟩ := k_rng_of ha (by decide)
    rcases c_ty_use hi (hty i hi) with ⟨m1, m2⟩ | ⟨so, mn, T, hso, s1, s2, ct, rt⟩
    · refine q_St_1 hw (Or.inr ⟨2, 2, by omega, by omega, ?_, fun _ => rfl, fun M' s => ⟨nI 0, _, ?_, q_st_4 s.1.1 (k := 4) (v := nI 2) rfl, rfl, q_I_s⟩⟩) hI
      · rw [E_X11_pour 198]
        simp (disch := omega) only [q_ckt, q_lt, q_cI, q_cJ, q_cV, q_cP, q_xI, q_xV, q_xP, q_xJ, g_gk, g_ga, g_gw, g_gp, g_gq, g_P, g_J, q_I_s, q_I_n, q_I_k, nI_add, pk_sub, pk_mul, nI_clamp, n_lt0, n_0lt, n_eq0, n_lt, n_le, n_eq, n_m1, n_m2, n_m9, n_12, n_19, n_10, n_01, n_1n1, n_0n1, n_1n0, n_0n0, n_dI, n_m1lt, q_inb, n_nar, n_nar0, n_nar1, n_bool, Bool.false_eq_true, Bool.true_eq_false, if_true, if_false, ↓reduceIte, Nat.reduceAdd, Nat.reduceMul, Nat.reduceSub, Nat.reduceLT, Nat.reduceLeDiff, Nat.reduceEqDiff, Nat.reduceMod, Nat.reduceDiv, q_W hp, c_nt1 hp hi m1]
      · have hr' := q_st_r s hr
        rw [E_X12_pour 199]
        simp (disch := omega) only [q_ckt, q_lt, q_cI, q_cJ, q_cV, q_cP, q_xI, q_xV, q_xP, q_xJ, g_gk, g_ga, g_gw, g_gp, g_gq, g_P, g_J, q_I_s, q_I_n, q_I_k, nI_add, pk_sub, pk_mul, nI_clamp, n_lt0, n_0lt, n_eq0, n_lt, n_le, n_eq, n_m1, n_m2, n_m9, n_12, n_19, n_10, n_01, n_1n1, n_0n1, n_1n0, n_0n0, n_dI, n_m1lt, q_inb, n_nar, n_nar0, n_nar1, n_bool, Bool.false_eq_true, Bool.true_eq_false, if_true, if_false, ↓reduceIte, Nat.reduceAdd, Nat.reduceMul, Nat.reduceSub, Nat.reduceLT, Nat.reduceLeDiff, Nat.reduceEqDiff, Nat.reduceMod, Nat.reduceDiv, q_R hr'.1, r_tf1 hr'.1 hi ((s.2.2.1.1 433 i rfl).trans m2)]
    · generalize hK : M.1 413 = K at hc hr
      have hb := k_bds hc.2.2.1
      have nt := c_nt2 (d := 196) hp hi ct.2.2.1
      have h30 := ct.2.1
      obtain ⟨n, en⟩ : ∃ n, n = min mn (k_m K) := ⟨_, rfl⟩
      have n1 : n ≤ mn := by omega
      have n2 : n ≤ k_m K := by omega
      obtain ⟨M1, e1, q1, b1, f1⟩ := c_run (d := 193) hc
      have st1 := q_st_eq hp q1 (by decide)
      have c1 := c_rl_eq hc q1 (by decide)
      have hu1 := c_use c1
      have ct1 := c_tt_eq ct q1 (by decide)
      have so1 : ir_I M1 (404 + 2 * i) 2 = nI so := (st1.2.2.1.1 _ 2 (q_l2_of (by omega))).trans s1
      have Lc := q_up (σ := ir_M) (V := fun x t => v_X11_pour_39 198 1 (404 + 2 * i) (nI n) (nI x) t) (N := n) (I := fun x t => q_ft i M1 t ∧ t.1 = M1.1 ∧ (∀ a, a ≠ 405 + 2 * i → t.2.1 a = M1.2.1 a) ∧ ∀ k, ir_J t (405 + 2 * i) k = if k < x then k_cut so (k_pv (k_td K k)) else ir_J M1 (405 + 2 * i) k) (K := fun t => ir_oI (nI n) t) (by
        rintro x t hx ⟨h1, h2, h3, h4⟩
        have hpt := h1.1.1
        have I2 : ∀ a k, ir_I t a k = ir_I M1 a k := fun a k => by
          show t.1 a k = M1.1 a k
          rw [h2]
        have pu := fun v => c_put (d := 196) (M := t) hpt hi hso (by rw [I2]; exact so1) (by rw [I2]; exact ct1.2.2.2.1) h30 (show x < mn by omega) v
        refine ⟨ir_sJ t (405 + 2 * i) x (k_cut so (k_pv (k_td K x))), ⟨h1.tr (q_ft_J hpt (Or.inl rfl) hi), h2, fun a ha => (if_neg ha).trans (h3 a ha), fun k => ?_⟩, ?_⟩
        · rw [s_J, h4]
          by_cases q : k = x
          · rw [if_pos q, if_pos (by omega), q]
          · rw [if_neg q]
            by_cases q2 : k < x
            · rw [if_pos q2, if_pos (by omega)]
            · rw [if_neg q2, if_neg (by omega)]
        · rw [L_X11_pour_39]
          have fx : ir_I t 118 x = k_td K x := by rw [I2]; exact f1 x (by omega)
          unfold k_pv
          by_cases q : k_td K x = -1
          · simp (disch := omega) only [q_ckt, q_lt, q_cI, q_cJ, q_cV, q_cP, q_xI, q_xV, q_xP, q_xJ, g_gk, g_ga, g_gw, g_gp, g_gq, g_P, g_J, q_I_s, q_I_n, q_I_k, nI_add, pk_sub, pk_mul, nI_clamp, n_lt0, n_0lt, n_eq0, n_lt, n_le, n_eq, n_m1, n_m2, n_m9, n_12, n_19, n_10, n_01, n_1n1, n_0n1, n_1n0, n_0n0, n_dI, n_m1lt, q_inb, n_nar, n_nar0, n_nar1, n_bool, Bool.false_eq_true, Bool.true_eq_false, if_true, if_false, ↓reduceIte, Nat.reduceAdd, Nat.reduceMul, Nat.reduceSub, Nat.reduceLT, Nat.reduceLeDiff, Nat.reduceEqDiff, Nat.reduceMod, Nat.reduceDiv, hx, q_W hpt, q_F hpt, fx, q, q_Yt hpt hi, pu]
          · simp (disch := omega) only [q_ckt, q_lt, q_cI, q_cJ, q_cV, q_cP, q_xI, q_xV, q_xP, q_xJ, g_gk, g_ga, g_gw, g_gp, g_gq, g_P, g_J, q_I_s, q_I_n, q_I_k, nI_add, pk_sub, pk_mul, nI_clamp, n_lt0, n_0lt, n_eq0, n_lt, n_le, n_eq, n_m1, n_m2, n_m9, n_12, n_19, n_10, n_01, n_1n1, n_0n1, n_1n0, n_0n0, n_dI, n_m1lt, q_inb, n_nar, n_nar0, n_nar1, n_bool, Bool.false_eq_true, Bool.true_eq_false, if_true, if_false, ↓reduceIte, Nat.reduceAdd, Nat.reduceMul, Nat.reduceSub, Nat.reduceLT, Nat.reduceLeDiff, Nat.reduceEqDiff, Nat.reduceMod, Nat.reduceDiv, hx, q_W hpt, q_F hpt, fx, q, q_Yt hpt hi, pu]) (by
        rintro t ⟨h1, h2, h3, h4⟩
        rw [L_X11_pour_39]
        simp (disch := omega) only [q_ckt, q_lt, q_cI, q_cJ, q_cV, q_cP, q_xI, q_xV, q_xP, q_xJ, g_gk, g_ga, g_gw, g_gp, g_gq, g_P, g_J, q_I_s, q_I_n, q_I_k, nI_add, pk_sub, pk_mul, nI_clamp, n_lt0, n_0lt, n_eq0, n_lt, n_le, n_eq, n_m1, n_m2, n_m9, n_12, n_19, n_10, n_01, n_1n1, n_0n1, n_1n0, n_0n0, n_dI, n_m1lt, q_inb, n_nar, n_nar0, n_nar1, n_bool, Bool.false_eq_true, Bool.true_eq_false, if_true, if_false, ↓reduceIte, Nat.reduceAdd, Nat.reduceMul, Nat.reduceSub, Nat.reduceLT, Nat.reduceLeDiff, Nat.reduceEqDiff, Nat.reduceMod, Nat.reduceDiv, Nat.lt_irrefl]) (i := 0) (t := M1) (by omega) ⟨q_ft_st (q_st.rf c1.1), rfl, fun _ _ => rfl, fun k => by rw [if_neg (by omega)]⟩
      obtain ⟨M2, ⟨g1, g2, g3, g4⟩, e2⟩ := Lc
      have ec : m_X11_pour 199 1 (nI i) M = ir_oI (nI n) M2 := by
        rw [E_X11_pour 198]
        simp (disch := omega) only [q_ckt, q_lt, q_cI, q_cJ, q_cV, q_cP, q_xI, q_xV, q_xP, q_xJ, g_gk, g_ga, g_gw, g_gp, g_gq, g_P, g_J, q_I_s, q_I_n, q_I_k, nI_add, pk_sub, pk_mul, nI_clamp, n_lt0, n_0lt, n_eq0, n_lt, n_le, n_eq, n_m1, n_m2, n_m9, n_12, n_19, n_10, n_01, n_1n1, n_0n1, n_1n0, n_0n0, n_dI, n_m1lt, q_inb, n_nar, n_nar0, n_nar1, n_bool, Bool.false_eq_true, Bool.true_eq_false, if_true, if_false, ↓reduceIte, Nat.reduceAdd, Nat.reduceMul, Nat.reduceSub, Nat.reduceLT, Nat.reduceLeDiff, Nat.reduceEqDiff, Nat.reduceMod, Nat.reduceDiv, q_W hp, nt, q_F hp, e1, q_Yt c1.1 hi, q_W c1.1, q_S c1.1 (a := 12) (by decide), ct1.2.2.2.1, hu1, n_mn, ← en]
        exact e2
      obtain ⟨M3, eM3⟩ : ∃ N, N = ir_sJ M2 436 0 (nI n).toInt64 := ⟨_, rfl⟩
      have hp2 := g1.1.1
      have fA : q_ft i M M3 := by
        rw [eM3]
        exact ((q_ft_st st1).tr g1).tr (q_ft_st (q_st_J hp2))
      have hp3 := fA.1.1
      have I3 : ∀ a k, ir_I M3 a k = ir_I M1 a k := fun a k => by
        rw [eM3, s_I]
        show M2.1 a k = M1.1 a k
        rw [g2]
      have r3 : r_rl M3 K := ⟨hp3, hr.2.1, fun k => by rw [I3, q_I_eq q1 (by decide)]; exact hr.2.2 k⟩
      have r4 := r_4 (v := nI 0) r3
      have J35 : ∀ k, ir_J M3 435 k = ir_J M 435 k := fun k => by
        rw [eM3, s_Jn (by decide)]
        show M2.2.1 435 k = M.2.1 435 k
        rw [g3 435 (by omega), q1.2]
      have s3 : ir_I M3 433 i = nI so := by rw [I3, q_I_eq q1 (by decide)]; exact s2
      have m3 : ir_I M3 434 i = nI mn := by rw [I3, q_I_eq q1 (by decide)]; exact rt.2.2.1
      obtain ⟨N1, f5, q5, a5, b5⟩ := r_laysToday (d := 193) r4
      have r5 := r_rl_eq r4 q5 (by decide)
      have st5 := q_st_eq r4.1 q5 (by decide)
      have s5 : ir_I N1 433 i = nI so := by rw [q_I_eq q5 (by decide), q_I_n (by decide)]; exact s3
      have m5 : ir_I N1 434 i = nI mn := by rw [q_I_eq q5 (by decide), q_I_n (by decide)]; exact m3
      have Lr := q_up (σ := ir_M) (V := fun x t => v_X12_pour_38 199 412 (nI i) (nI n) (nI x) t) (N := n) (I := fun x t => q_ft i N1 t ∧ t.1 = N1.1 ∧ (∀ a, a ≠ 435 → t.2.1 a = N1.2.1 a) ∧ ∀ k, ir_J t 435 (30 * i + k) = if k < x then k_cut so (k_pv (k_td K k)) else ir_J N1 435 (30 * i + k)) (K := fun t => ir_oI (nI n) t) (by
        rintro x t hx ⟨h1, h2, h3, h4⟩
        have hpt := h1.1.1
        have I2 : ∀ a k, ir_I t a k = ir_I N1 a k := fun a k => by
          show t.1 a k = N1.1 a k
          rw [h2]
        have pu := fun v => r_cut (d := 198) (M := t) hpt hi hso (by rw [I2]; exact s5) (show x < 30 by omega) v
        refine ⟨ir_sJ t 435 (30 * i + x) (k_cut so (k_pv (k_td K x))), ⟨h1.tr (q_ft_J hpt (Or.inr ⟨rfl, by omega, by omega⟩) hi), h2, fun a ha => (if_neg ha).trans (h3 a ha), fun k => ?_⟩, ?_⟩
        · rw [s_J, h4]
          by_cases q : k = x
          · rw [if_pos (by omega), if_pos (by omega), q]
          · rw [if_neg (by omega)]
            by_cases q2 : k < x
            · rw [if_pos q2, if_pos (by omega)]
            · rw [if_neg q2, if_neg (by omega)]
        · rw [L_X12_pour_38]
          have fx : ir_I t 420 x = k_td K x := by rw [I2]; exact b5 x (by omega)
          unfold k_pv
          by_cases q : k_td K x = -1
          · simp (disch := omega) only [q_ckt, q_lt, q_cI, q_cJ, q_cV, q_cP, q_xI, q_xV, q_xP, q_xJ, g_gk, g_ga, g_gw, g_gp, g_gq, g_P, g_J, q_I_s, q_I_n, q_I_k, nI_add, pk_sub, pk_mul, nI_clamp, n_lt0, n_0lt, n_eq0, n_lt, n_le, n_eq, n_m1, n_m2, n_m9, n_12, n_19, n_10, n_01, n_1n1, n_0n1, n_1n0, n_0n0, n_dI, n_m1lt, q_inb, n_nar, n_nar0, n_nar1, n_bool, Bool.false_eq_true, Bool.true_eq_false, if_true, if_false, ↓reduceIte, Nat.reduceAdd, Nat.reduceMul, Nat.reduceSub, Nat.reduceLT, Nat.reduceLeDiff, Nat.reduceEqDiff, Nat.reduceMod, Nat.reduceDiv, hx, q_R hpt, fx, q, pu]
          · simp (disch := omega) only [q_ckt, q_lt, q_cI, q_cJ, q_cV, q_cP, q_xI, q_xV, q_xP, q_xJ, g_gk, g_ga, g_gw, g_gp, g_gq, g_P, g_J, q_I_s, q_I_n, q_I_k, nI_add, pk_sub, pk_mul, nI_clamp, n_lt0, n_0lt, n_eq0, n_lt, n_le, n_eq, n_m1, n_m2, n_m9, n_12, n_19, n_10, n_01, n_1n1, n_0n1, n_1n0, n_0n0, n_dI, n_m1lt, q_inb, n_nar, n_nar0, n_nar1, n_bool, Bool.false_eq_true, Bool.true_eq_false, if_true, if_false, ↓reduceIte, Nat.reduceAdd, Nat.reduceMul, Nat.reduceSub, Nat.reduceLT, Nat.reduceLeDiff, Nat.reduceEqDiff, Nat.reduceMod, Nat.reduceDiv, hx, q_R hpt, fx, q, pu]) (by
        rintro t ⟨h1, h2, h3, h4⟩
        rw [L_X12_pour_38]
        simp (disch := omega) only [q_ckt, q_lt, q_cI, q_cJ, q_cV, q_cP, q_xI, q_xV, q_xP, q_xJ, g_gk, g_ga, g_gw, g_gp, g_gq, g_P, g_J, q_I_s, q_I_n, q_I_k, nI_add, pk_sub, pk_mul, nI_clamp, n_lt0, n_0lt, n_eq0, n_lt, n_le, n_eq, n_m1, n_m2, n_m9, n_12, n_19, n_10, n_01, n_1n1, n_0n1, n_1n0, n_0n0, n_dI, n_m1lt, q_inb, n_nar, n_nar0, n_nar1, n_bool, Bool.false_eq_true, Bool.true_eq_false, if_true, if_false, ↓reduceIte, Nat.reduceAdd, Nat.reduceMul, Nat.reduceSub, Nat.reduceLT, Nat.reduceLeDiff, Nat.reduceEqDiff, Nat.reduceMod, Nat.reduceDiv, Nat.lt_irrefl]) (i := 0) (t := N1) (by omega) ⟨q_ft_st (q_st.rf r5.1), rfl, fun _ _ => rfl, fun k => by rw [if_neg (by omega)]⟩
      obtain ⟨N2, ⟨k1, k2, k3, k4⟩, e6⟩ := Lr
      have er : m_X12_pour 200 412 (nI i) M3 = ir_oI (nI n) N2 := by
        rw [E_X12_pour 199]
        simp (disch := omega) only [q_ckt, q_lt, q_cI, q_cJ, q_cV, q_cP, q_xI, q_xV, q_xP, q_xJ, g_gk, g_ga, g_gw, g_gp, g_gq, g_P, g_J, q_I_s, q_I_n, q_I_k, nI_add, pk_sub, pk_mul, nI_clamp, n_lt0, n_0lt, n_eq0, n_lt, n_le, n_eq, n_m1, n_m2, n_m9, n_12, n_19, n_10, n_01, n_1n1, n_0n1, n_1n0, n_0n0, n_dI, n_m1lt, q_inb, n_nar, n_nar0, n_nar1, n_bool, Bool.false_eq_true, Bool.true_eq_false, if_true, if_false, ↓reduceIte, Nat.reduceAdd, Nat.reduceMul, Nat.reduceSub, Nat.reduceLT, Nat.reduceLeDiff, Nat.reduceEqDiff, Nat.reduceMod, Nat.reduceDiv, q_R hp3, r_tf2 hp3 hi hso s3, f5, q_R r5.1, m5, r_qd r5, n_mn, ← en]
        exact e6
      have fB : q_ft i M3 N2 := ((q_ft_st (q_st_4 hp3 rfl)).tr (q_ft_st st5)).tr k1
      have gX := q_Iv_X hI fA.1
      have I4 : ∀ a k, a ≠ 412 → a ≠ 418 → a ≠ 419 → a ≠ 420 → ir_I N2 a k = ir_I M1 a k := fun a k h1 h2 h3 h4 => by
        rw [← I3]
        show N2.1 a k = _
        rw [k2]
        exact (q_I_eq q5 (by simp only [List.mem_cons, List.not_mem_nil, or_false]; omega) k).trans (q_I_n h1)
      refine ⟨nI 0, M3, nI n, N2, ?_, gX.1, gX.2, er, ?_, fun _ => ?_, q_Iv_ft hi hI (fA.tr fB) (Or.inr ⟨?_, so, mn, hso, h30, ?_, ?_, ?_, ?_, fun k hk => ?_⟩)⟩
      · rw [hw M, ec]
        simp (disch := omega) only [q_ckt, q_lt, q_cI, q_cJ, q_cV, q_cP, q_xI, q_xV, q_xP, q_xJ, g_gk, g_ga, g_gw, g_gp, g_gq, g_P, g_J, q_I_s, q_I_n, q_I_k, nI_add, pk_sub, pk_mul, nI_clamp, n_lt0, n_0lt, n_eq0, n_lt, n_le, n_eq, n_m1, n_m2, n_m9, n_12, n_19, n_10, n_01, n_1n1, n_0n1, n_1n0, n_0n0, n_dI, n_m1lt, q_inb, n_nar, n_nar0, n_nar1, n_bool, Bool.false_eq_true, Bool.true_eq_false, if_true, if_false, ↓reduceIte, Nat.reduceAdd, Nat.reduceMul, Nat.reduceSub, Nat.reduceLT, Nat.reduceLeDiff, Nat.reduceEqDiff, Nat.reduceMod, Nat.reduceDiv, q_W hp, q_bI1, q_R hp2]
        rw [eM3]
      · show ir_I N2 412 4 = nI 0
        show N2.1 412 4 = nI 0
        rw [k2]
        exact (q_I_eq q5 (by decide) 4).trans q_I_s
      · show ir_J N2 436 0 = _
        show N2.2.1 436 0 = _
        rw [k3 436 (by decide), q5.2]
        show ir_J M3 436 0 = _
        rw [eM3, s_Js]
      · rw [I4 _ _ (by omega) (by omega) (by omega) (by omega)]; exact ct1.2.2.1
      · rw [I4 _ _ (by omega) (by omega) (by omega) (by omega)]; exact so1
      · rw [I4 _ _ (by omega) (by omega) (by omega) (by omega), ← I3]; exact s3
      · rw [I4 _ _ (by omega) (by omega) (by omega) (by omega)]; exact ct1.2.2.2.1
      · rw [I4 _ _ (by omega) (by omega) (by omega) (by omega), ← I3]; exact m3
      · have z1 : ir_J N2 (405 + 2 * i) k = ir_J M2 (405 + 2 * i) k := by
          show N2.2.1 _ k = M2.2.1 _ k
          rw [k3 _ (by omega), q5.2]
          show ir_J M3 (405 + 2 * i) k = ir_J M2 (405 + 2 * i) k
          rw [eM3, s_Jn (by omega)]
        have z2 : ir_J N1 435 (30 * i + k) = ir_J M 435 (30 * i + k) := by
          rw [← J35]
          show N1.2.1 435 _ = M3.2.1 435 _
          rw [q5.2]
          rfl
        rw [z1, g4, k4, z2, rt.2.2.2 k hk, ct1.2.2.2.2 k hk]
  · refine q_St_1 hw (Or.inr ⟨1, 1, by omega, by omega, ?_, fun _ => rfl, fun M' s => ⟨nI 0, _, ?_, q_st_4 s.1.1 (k := 4) (v := nI 1) rfl, rfl, q_I_s⟩⟩) hI
    · rw [E_X11_pour 198]
      simp (disch := omega) only [q_ckt, q_lt, q_cI, q_cJ, q_cV, q_cP, q_xI, q_xV, q_xP, q_xJ, g_gk, g_ga, g_gw, g_gp, g_gq, g_P, g_J, q_I_s, q_I_n, q_I_k, nI_add, pk_sub, pk_mul, nI_clamp, n_lt0, n_0lt, n_eq0, n_lt, n_le, n_eq, n_m1, n_m2, n_m9, n_12, n_19, n_10, n_01, n_1n1, n_0n1, n_1n0, n_0n0, n_dI, n_m1lt, q_inb, n_nar, n_nar0, n_nar1, n_bool, Bool.false_eq_true, Bool.true_eq_false, if_true, if_false, ↓reduceIte, Nat.reduceAdd, Nat.reduceMul, Nat.reduceSub, Nat.reduceLT, Nat.reduceLeDiff, Nat.reduceEqDiff, Nat.reduceMod, Nat.reduceDiv, q_W hp, c_nt0 hp ha]
    · have hr' := q_st_r s hr
      rw [E_X12_pour 199]
      simp (disch := omega) only [q_ckt, q_lt, q_cI, q_cJ, q_cV, q_cP, q_xI, q_xV, q_xP, q_xJ, g_gk, g_ga, g_gw, g_gp, g_gq, g_P, g_J, q_I_s, q_I_n, q_I_k, nI_add, pk_sub, pk_mul, nI_clamp, n_lt0, n_0lt, n_eq0, n_lt, n_le, n_eq, n_m1, n_m2, n_m9, n_12, n_19, n_10, n_01, n_1n1, n_0n1, n_1n0, n_0n0, n_dI, n_m1lt, q_inb, n_nar, n_nar0, n_nar1, n_bool, Bool.false_eq_true, Bool.true_eq_false, if_true, if_false, ↓reduceIte, Nat.reduceAdd, Nat.reduceMul, Nat.reduceSub, Nat.reduceLT, Nat.reduceLeDiff, Nat.reduceEqDiff, Nat.reduceMod, Nat.reduceDiv, q_R hr'.1, r_tf0 hr'.1 ha]
end PO
