/-! tray, write, pour -/
theorem q_PI_tt {M M' : ir_M} (h : M'.2.2 = M.2.2) (hp : q_PI M) : q_PI M' := by
  refine ⟨?_, fun l hl e he => ?_, ?_⟩
  · show M'.2.2.2.1 = 437
    rw [h]
    exact hp.1
  · rw [h]
    exact hp.2.1 l hl e he
  · rw [h]
    exact hp.2.2
theorem q_ft_f {i a : Nat} {M M' : ir_M} (hp : q_PI M) (hi : i < 4) (h1 : M'.1 = M.1) (h2 : M'.2.2 = M.2.2) (h3 : ∀ b, b ≠ a → M'.2.1 b = M.2.1 b) (ha : a = 405 + 2 * i) : q_ft i M M' := by
  refine ⟨⟨q_PI_tt h2 hp, fun x hx => ⟨by rw [h1], h3 x (by omega), by rw [h2]⟩, ?_, ?_⟩, fun x _ => by rw [h1], fun x k _ _ _ _ => by rw [h1], fun x _ h4 _ => h3 x (by omega), fun k _ => congrFun (h3 435 (by omega)) k, fun x k _ => by rw [h1]⟩
  · show M'.2.2.2.2.1 ≤ M.2.2.2.2.1 + 0
    rw [h2]
    exact Nat.le_refl _
  · show M'.2.2.2.2.2.1 ≤ M.2.2.2.2.2.1 + 6 * 0
    rw [h2]
    exact Nat.le_refl _
theorem n_mn {a b : Nat} (ha : a < 2 ^ 31) (hb : b < 2 ^ 31) : ir_mn (nI a) (nI b) = nI (min a b) := by
  unfold ir_mn
  by_cases q : b < a
  · rw [if_pos (by rw [n_lt hb ha]; exact q), Nat.min_eq_right (by omega)]
  · rw [if_neg (by rw [n_lt hb ha]; exact q), Nat.min_eq_left (by omega)]
section T1
variable {M : ir_M} {d i : Nat}
theorem q_405 (hi : i < 4) : (Nat.ble 100 (ir_kd (405 + 2 * i)) && Nat.blt (405 + 2 * i) 437) = true ∧ q_ln (405 + 2 * i) = 30 := by
  have : i = 0 ∨ i = 1 ∨ i = 2 ∨ i = 3 := by omega
  rcases this with rfl | rfl | rfl | rfl <;> exact ⟨rfl, rfl⟩
theorem c_lay (hp : q_PI M) (hi : i < 4) {so mn : Nat} : ∃ M', m_X10_lay (d + 2) (404 + 2 * i) (nI so) (nI mn) M = ir_oV M' ∧ q_ft i M M' ∧ ir_I M' (404 + 2 * i) 0 = 0 ∧ ir_I M' (404 + 2 * i) 1 = nI mn ∧ ir_I M' (404 + 2 * i) 2 = nI so ∧ ∀ k, k < 30 → ir_J M' (405 + 2 * i) k = 0 := by
  obtain ⟨N, eN⟩ : ∃ N, N = ir_sI (ir_sI (ir_sI M (404 + 2 * i) 0 (nI 0)) (404 + 2 * i) 2 (nI so)) (404 + 2 * i) 1 (nI mn) := ⟨_, rfl⟩
  have hpN : q_PI N := by rw [eN]; exact hp
  obtain ⟨M', e1, h1, h2, h3, h4⟩ := f_J (d := d) (v := 0) hpN (N := 30) (a := 405 + 2 * i) (by decide) (q_405 hi).1 (by rw [q_ln_eq (by omega), (q_405 hi).2]) (fun M' hp' => (q_Yt hp' hi).2.2.2.1)
  have fN : q_ft i M N := by
    rw [eN]
    exact ((q_ft_c hp hi).tr (q_ft_c (M := ir_sI M (404 + 2 * i) 0 (nI 0)) hp hi)).tr (q_ft_c (M := ir_sI (ir_sI M (404 + 2 * i) 0 (nI 0)) (404 + 2 * i) 2 (nI so)) hp hi)
  have g : ∀ k, ir_I M' (404 + 2 * i) k = ir_I N (404 + 2 * i) k := fun k => by
    show M'.1 _ _ = N.1 _ _
    rw [h1]
  refine ⟨M', ?_, fN.tr (q_ft_f hpN hi h1 h2 h3 rfl), ?_, ?_, ?_, h4⟩
  · rw [E_X10_lay]
    simp (disch := omega) only [q_ckt, q_lt, q_cI, q_cJ, q_cV, q_cP, q_xI, q_xV, q_xP, q_xJ, g_gk, g_ga, g_gw, g_gp, g_gq, g_P, g_J, q_I_s, q_I_n, q_I_k, nI_add, pk_sub, pk_mul, nI_clamp, n_lt0, n_0lt, n_eq0, n_lt, n_le, n_eq, n_m1, n_m2, n_m9, n_12, n_19, n_10, n_01, n_1n1, n_0n1, n_1n0, n_0n0, n_dI, n_m1lt, q_inb, n_nar, n_nar0, n_nar1, n_bool, Bool.false_eq_true, Bool.true_eq_false, if_true, if_false, ↓reduceIte, Nat.reduceAdd, Nat.reduceMul, Nat.reduceSub, Nat.reduceLT, Nat.reduceLeDiff, Nat.reduceEqDiff, Nat.reduceMod, Nat.reduceDiv, q_Yt hp hi, show ir_isB (nI 0) = true from rfl, Bool.and_self]
    rw [← eN]
    simp (disch := omega) only [q_ckt, q_lt, q_cI, q_cJ, q_cV, q_cP, q_xI, q_xV, q_xP, q_xJ, g_gk, g_ga, g_gw, g_gp, g_gq, g_P, g_J, q_I_s, q_I_n, q_I_k, nI_add, pk_sub, pk_mul, nI_clamp, n_lt0, n_0lt, n_eq0, n_lt, n_le, n_eq, n_m1, n_m2, n_m9, n_12, n_19, n_10, n_01, n_1n1, n_0n1, n_1n0, n_0n0, n_dI, n_m1lt, q_inb, n_nar, n_nar0, n_nar1, n_bool, Bool.false_eq_true, Bool.true_eq_false, if_true, if_false, ↓reduceIte, Nat.reduceAdd, Nat.reduceMul, Nat.reduceSub, Nat.reduceLT, Nat.reduceLeDiff, Nat.reduceEqDiff, Nat.reduceMod, Nat.reduceDiv, e1]
  · rw [g, eN, q_I_k (by decide), q_I_k (by decide), q_I_s]
    rfl
  · rw [g, eN, q_I_s]
  · rw [g, eN, q_I_k (by decide), q_I_s]
theorem r_lay (hp : q_PI M) (hi : i < 4) {so mn : Nat} : ∃ M', v_X12_tray_41 d 412 (nI i) (nI so) (nI mn) 412 (nI 0) M = ir_oV M' ∧ q_ft i M M' ∧ (∀ a, a ≠ 412 → a ≠ 433 → a ≠ 434 → M'.1 a = M.1 a) ∧ (∀ a, a ≠ 435 → M'.2.1 a = M.2.1 a) ∧ ir_I M' 433 i = nI so ∧ ir_I M' 434 i = nI mn ∧ (∀ k, k < 30 → ir_J M' 435 (30 * i + k) = 0) ∧ ir_I M' 412 4 = nI 0 := by
  obtain ⟨N, eN⟩ : ∃ N, N = ir_sI (ir_sI (ir_sI M 412 4 (nI 0)) 433 i (nI so)) 434 i (nI mn) := ⟨_, rfl⟩
  have hpN : q_PI N := by rw [eN]; exact hp
  have fN : q_ft i M N := by
    rw [eN]
    exact ((q_ft_st (q_st_4 hp rfl)).tr (q_ft_r (M := ir_sI M 412 4 (nI 0)) hp (Or.inl rfl))).tr (q_ft_r (M := ir_sI (ir_sI M 412 4 (nI 0)) 433 i (nI so)) hp (Or.inr rfl))
  have Lp := q_up (σ := ir_M) (V := fun x t => v_X12_tray_69 d 412 (nI i) (nI x) t) (N := 30) (I := fun x t => q_ft i N t ∧ t.1 = N.1 ∧ (∀ a, a ≠ 435 → t.2.1 a = N.2.1 a) ∧ ∀ k, k < x → ir_J t 435 (30 * i + k) = 0) (K := ir_oV) (by
    rintro x t hx ⟨h1, h2, h3, h4⟩
    have hpt := h1.1.1
    refine ⟨ir_sJ t 435 (30 * i + x) 0, ⟨h1.tr (q_ft_J hpt (Or.inr ⟨rfl, by omega, by omega⟩) hi), h2, fun a ha => (if_neg ha).trans (h3 a ha), fun k hk => ?_⟩, ?_⟩
    · rw [s_J]
      by_cases q : k = x
      · rw [if_pos (by omega)]
      · rw [if_neg (by omega)]
        exact h4 k (by omega)
    · rw [L_X12_tray_69]
      simp (disch := omega) only [q_ckt, q_lt, q_cI, q_cJ, q_cV, q_cP, q_xI, q_xV, q_xP, q_xJ, g_gk, g_ga, g_gw, g_gp, g_gq, g_P, g_J, q_I_s, q_I_n, q_I_k, nI_add, pk_sub, pk_mul, nI_clamp, n_lt0, n_0lt, n_eq0, n_lt, n_le, n_eq, n_m1, n_m2, n_m9, n_12, n_19, n_10, n_01, n_1n1, n_0n1, n_1n0, n_0n0, n_dI, n_m1lt, q_inb, n_nar, n_nar0, n_nar1, n_bool, Bool.false_eq_true, Bool.true_eq_false, if_true, if_false, ↓reduceIte, Nat.reduceAdd, Nat.reduceMul, Nat.reduceSub, Nat.reduceLT, Nat.reduceLeDiff, Nat.reduceEqDiff, Nat.reduceMod, Nat.reduceDiv, hx, q_R hpt]) (by
    rintro t ⟨h1, h2, h3, h4⟩
    rw [L_X12_tray_69]
    simp (disch := omega) only [q_ckt, q_lt, q_cI, q_cJ, q_cV, q_cP, q_xI, q_xV, q_xP, q_xJ, g_gk, g_ga, g_gw, g_gp, g_gq, g_P, g_J, q_I_s, q_I_n, q_I_k, nI_add, pk_sub, pk_mul, nI_clamp, n_lt0, n_0lt, n_eq0, n_lt, n_le, n_eq, n_m1, n_m2, n_m9, n_12, n_19, n_10, n_01, n_1n1, n_0n1, n_1n0, n_0n0, n_dI, n_m1lt, q_inb, n_nar, n_nar0, n_nar1, n_bool, Bool.false_eq_true, Bool.true_eq_false, if_true, if_false, ↓reduceIte, Nat.reduceAdd, Nat.reduceMul, Nat.reduceSub, Nat.reduceLT, Nat.reduceLeDiff, Nat.reduceEqDiff, Nat.reduceMod, Nat.reduceDiv]) (i := 0) (t := N) (by omega) ⟨q_ft_st (q_st.rf hpN), rfl, fun _ _ => rfl, fun k hk => absurd hk (by omega)⟩
  obtain ⟨t, ⟨h1, h2, h3, h4⟩, ee⟩ := Lp
  have g : ∀ a k, ir_I t a k = ir_I N a k := fun a k => by
    show t.1 _ _ = N.1 _ _
    rw [h2]
  refine ⟨t, ?_, fN.tr h1, fun a h5 h6 h7 => ?_, fun a ha => (h3 a ha).trans (by rw [eN]; rfl), ?_, ?_, h4, ?_⟩
  · rw [L_X12_tray_41]
    simp (disch := omega) only [q_ckt, q_lt, q_cI, q_cJ, q_cV, q_cP, q_xI, q_xV, q_xP, q_xJ, g_gk, g_ga, g_gw, g_gp, g_gq, g_P, g_J, q_I_s, q_I_n, q_I_k, nI_add, pk_sub, pk_mul, nI_clamp, n_lt0, n_0lt, n_eq0, n_lt, n_le, n_eq, n_m1, n_m2, n_m9, n_12, n_19, n_10, n_01, n_1n1, n_0n1, n_1n0, n_0n0, n_dI, n_m1lt, q_inb, n_nar, n_nar0, n_nar1, n_bool, Bool.false_eq_true, Bool.true_eq_false, if_true, if_false, ↓reduceIte, Nat.reduceAdd, Nat.reduceMul, Nat.reduceSub, Nat.reduceLT, Nat.reduceLeDiff, Nat.reduceEqDiff, Nat.reduceMod, Nat.reduceDiv, q_R hp]
    rw [← eN]
    exact ee
  · rw [h2, eN]
    exact (if_neg h7).trans ((if_neg h6).trans (if_neg h5))
  · rw [g, eN, q_I_n (by decide), q_I_s]
  · rw [g, eN, q_I_s]
  · rw [g, eN, q_I_n (by decide), q_I_n (by decide), q_I_s]
end T1
section T2
variable {L : Nat} {xs : Nat → Int32} {f g : ir_M → ir_R}
theorem q_Sv_t {j k : Nat} {M M2 : ir_M} (hI : q_Iv L xs j M) (hf : f M = ir_oI (nI k) (ir_th M)) (hg : g (ir_th M) = ir_oV M2) (s : q_st 0 (ir_th M) M2) (h4 : ir_I M2 412 4 = nI k) : ∃ k M1 M2, f M = ir_oI k M1 ∧ q_PI M1 ∧ q_X L xs M1 ∧ g M1 = ir_oV M2 ∧ M2.1 412 4 = k ∧ q_Iv L xs (j + 1) M2 :=
  ⟨nI k, ir_th M, M2, hf, (q_Iv_X hI (q_st_th hI.1).1).1, (q_Iv_X hI (q_st_th hI.1).1).2, hg, h4, q_Iv_st hI ((q_st_th hI.1).tr s) (by omega)⟩
theorem q_Sj_t {j k : Nat} {b : Int64} {M M2 : ir_M} (hI : q_Iv L xs j M) (hf : f M = ir_oI (nI k) (ir_th M)) (hk : 0 < k ∧ k < 9) (hg : g (ir_th M) = ir_oJ b M2) (s : q_st 0 (ir_th M) M2) (h4 : ir_I M2 412 4 = nI k) : ∃ k M1 b M2, f M = ir_oI k M1 ∧ q_PI M1 ∧ q_X L xs M1 ∧ g M1 = ir_oJ b M2 ∧ M2.1 412 4 = k ∧ (k = 0 → M2.2.1 436 0 = b) ∧ q_Iv L xs (j + 1) M2 :=
  ⟨nI k, ir_th M, b, M2, hf, (q_Iv_X hI (q_st_th hI.1).1).1, (q_Iv_X hI (q_st_th hI.1).1).2, hg, h4, fun q => by
    rw [n_eq0 (by omega)] at q
    omega, q_Iv_st hI ((q_st_th hI.1).tr s) (by omega)⟩
theorem S_tray (a b c : Int32) : q_Sv L xs (q_Iv L xs) (m_L_tray 200 1 a b c) (m_X12_tray 200 412 a b c) := by
  intro j M hI
  have hp := hI.1
  have hpt : q_PI (ir_th M) := (q_st_th hp).1.1
  have w3 : ∀ x : Int32, ((0 : Int64).toInt ≤ x.toInt64.toInt ∧ x.toInt64.toInt ≤ (3 : Int64).toInt) = (k_rng x 4 = true) := fun x => k_wir (c := 3) (n := 3) (by decide +kernel)
  have w30 : ∀ x : Int32, ((0 : Int64).toInt ≤ x.toInt64.toInt ∧ x.toInt64.toInt ≤ (30 : Int64).toInt) = (k_rng x 31 = true) := fun x => k_wir (c := 30) (n := 30) (by decide +kernel)
  by_cases ha : k_rng a 4
  · by_cases hbc : k_rng b 4 = true ∧ k_rng c 31 = true
    · obtain ⟨i, hi, rfl⟩ := k_rng_of ha (by decide)
      obtain ⟨so, hso, rfl⟩ := k_rng_of hbc.1 (by decide)
      obtain ⟨mn, hmn, rfl⟩ := k_rng_of hbc.2 (by decide)
      obtain ⟨M1, e1, f1, a0, a1, a2, aJ⟩ := c_lay (d := 196) hp hi (so := so) (mn := mn)
      obtain ⟨M2, e2, f2, g1, g2, b0, b1, bJ, b4⟩ := r_lay (d := 199) f1.1.1 hi (so := so) (mn := mn)
      have gX := q_Iv_X hI f1.1
      refine ⟨nI 0, M1, M2, ?_, gX.1, gX.2, ?_, b4, q_Iv_ft hi hI (f1.tr f2) (Or.inr ⟨?_, so, mn, hso, by omega, ?_, b0, ?_, b1, fun k hk => ?_⟩)⟩
      · rw [E_L_tray 199, E_X11_tray 198]
        simp (disch := omega) only [q_ckt, q_lt, q_cI, q_cJ, q_cV, q_cP, q_xI, q_xV, q_xP, q_xJ, g_gk, g_ga, g_gw, g_gp, g_gq, g_P, g_J, q_I_s, q_I_n, q_I_k, nI_add, pk_sub, pk_mul, nI_clamp, n_lt0, n_0lt, n_eq0, n_lt, n_le, n_eq, n_m1, n_m2, n_m9, n_12, n_19, n_10, n_01, n_1n1, n_0n1, n_1n0, n_0n0, n_dI, n_m1lt, q_inb, n_nar, n_nar0, n_nar1, n_bool, Bool.false_eq_true, Bool.true_eq_false, if_true, if_false, ↓reduceIte, Nat.reduceAdd, Nat.reduceMul, Nat.reduceSub, Nat.reduceLT, Nat.reduceLeDiff, Nat.reduceEqDiff, Nat.reduceMod, Nat.reduceDiv, q_W hp, c_it, ha, show so < 4 from hso, show ¬ 30 < mn by omega, q_Yt hp hi, n_blt, Bool.or_true, Bool.and_self, e1, q_bV1]
      · rw [E_X12_tray 199]
        simp (disch := omega) only [q_ckt, q_lt, q_cI, q_cJ, q_cV, q_cP, q_xI, q_xV, q_xP, q_xJ, g_gk, g_ga, g_gw, g_gp, g_gq, g_P, g_J, q_I_s, q_I_n, q_I_k, nI_add, pk_sub, pk_mul, nI_clamp, n_lt0, n_0lt, n_eq0, n_lt, n_le, n_eq, n_m1, n_m2, n_m9, n_12, n_19, n_10, n_01, n_1n1, n_0n1, n_1n0, n_0n0, n_dI, n_m1lt, q_inb, n_nar, n_nar0, n_nar1, n_bool, Bool.false_eq_true, Bool.true_eq_false, if_true, if_false, ↓reduceIte, Nat.reduceAdd, Nat.reduceMul, Nat.reduceSub, Nat.reduceLT, Nat.reduceLeDiff, Nat.reduceEqDiff, Nat.reduceMod, Nat.reduceDiv, r_it, ha, r_within, w3, hbc.1, w30, hbc.2, e2]
      · exact (congrFun (g1 _ (by omega) (by omega) (by omega)) 0).trans a0
      · exact (congrFun (g1 _ (by omega) (by omega) (by omega)) 2).trans a2
      · exact (congrFun (g1 _ (by omega) (by omega) (by omega)) 1).trans a1
      · rw [bJ k (by omega)]
        exact (congrFun (g2 _ (by omega)) k).trans (aJ k (by omega))
    · refine q_Sv_t (k := 2) (M2 := ir_sI (ir_th M) 412 4 (nI 2)) hI ?_ ?_ (q_st_4 hpt rfl) q_I_s
      · rw [E_L_tray 199, E_X11_tray 198]
        simp (disch := omega) only [q_ckt, q_lt, q_cI, q_cJ, q_cV, q_cP, q_xI, q_xV, q_xP, q_xJ, g_gk, g_ga, g_gw, g_gp, g_gq, g_P, g_J, q_I_s, q_I_n, q_I_k, nI_add, pk_sub, pk_mul, nI_clamp, n_lt0, n_0lt, n_eq0, n_lt, n_le, n_eq, n_m1, n_m2, n_m9, n_12, n_19, n_10, n_01, n_1n1, n_0n1, n_1n0, n_0n0, n_dI, n_m1lt, q_inb, n_nar, n_nar0, n_nar1, n_bool, Bool.false_eq_true, Bool.true_eq_false, if_true, if_false, ↓reduceIte, Nat.reduceAdd, Nat.reduceMul, Nat.reduceSub, Nat.reduceLT, Nat.reduceLeDiff, Nat.reduceEqDiff, Nat.reduceMod, Nat.reduceDiv, q_W hp, c_it, ha]
        by_cases hb : k_rng b 4 = true
        · have hc : ¬ k_rng c 31 = true := fun q => hbc ⟨hb, q⟩
          obtain ⟨so, hso, rfl⟩ := k_rng_of hb (by decide)
          simp (disch := omega) only [q_ckt, q_lt, q_cI, q_cJ, q_cV, q_cP, q_xI, q_xV, q_xP, q_xJ, g_gk, g_ga, g_gw, g_gp, g_gq, g_P, g_J, q_I_s, q_I_n, q_I_k, nI_add, pk_sub, pk_mul, nI_clamp, n_lt0, n_0lt, n_eq0, n_lt, n_le, n_eq, n_m1, n_m2, n_m9, n_12, n_19, n_10, n_01, n_1n1, n_0n1, n_1n0, n_0n0, n_dI, n_m1lt, q_inb, n_nar, n_nar0, n_nar1, n_bool, Bool.false_eq_true, Bool.true_eq_false, if_true, if_false, ↓reduceIte, Nat.reduceAdd, Nat.reduceMul, Nat.reduceSub, Nat.reduceLT, Nat.reduceLeDiff, Nat.reduceEqDiff, Nat.reduceMod, Nat.reduceDiv, hso]
          rw [k_rng_d (n := 30) (by decide), if_neg hc]
          simp (disch := omega) only [q_ckt, q_lt, q_cI, q_cJ, q_cV, q_cP, q_xI, q_xV, q_xP, q_xJ, g_gk, g_ga, g_gw, g_gp, g_gq, g_P, g_J, q_I_s, q_I_n, q_I_k, nI_add, pk_sub, pk_mul, nI_clamp, n_lt0, n_0lt, n_eq0, n_lt, n_le, n_eq, n_m1, n_m2, n_m9, n_12, n_19, n_10, n_01, n_1n1, n_0n1, n_1n0, n_0n0, n_dI, n_m1lt, q_inb, n_nar, n_nar0, n_nar1, n_bool, Bool.false_eq_true, Bool.true_eq_false, if_true, if_false, ↓reduceIte, Nat.reduceAdd, Nat.reduceMul, Nat.reduceSub, Nat.reduceLT, Nat.reduceLeDiff, Nat.reduceEqDiff, Nat.reduceMod, Nat.reduceDiv, q_bV2]
        · rw [show (if b < 0 then ir_oX 3 (ir_th M) else if b < nI 4 then (if c < 0 then ir_oX 3 (ir_th M) else if nI 30 < c then ir_oX 3 (ir_th M) else _) else ir_oX 3 (ir_th M)) = _ from k_rng_c (by decide), if_neg hb]
          simp (disch := omega) only [q_ckt, q_lt, q_cI, q_cJ, q_cV, q_cP, q_xI, q_xV, q_xP, q_xJ, g_gk, g_ga, g_gw, g_gp, g_gq, g_P, g_J, q_I_s, q_I_n, q_I_k, nI_add, pk_sub, pk_mul, nI_clamp, n_lt0, n_0lt, n_eq0, n_lt, n_le, n_eq, n_m1, n_m2, n_m9, n_12, n_19, n_10, n_01, n_1n1, n_0n1, n_1n0, n_0n0, n_dI, n_m1lt, q_inb, n_nar, n_nar0, n_nar1, n_bool, Bool.false_eq_true, Bool.true_eq_false, if_true, if_false, ↓reduceIte, Nat.reduceAdd, Nat.reduceMul, Nat.reduceSub, Nat.reduceLT, Nat.reduceLeDiff, Nat.reduceEqDiff, Nat.reduceMod, Nat.reduceDiv, q_bV2]
      · rw [E_X12_tray 199]
        by_cases hb : k_rng b 4 = true
        · have hc : ¬ k_rng c 31 = true := fun q => hbc ⟨hb, q⟩
          simp (disch := omega) only [q_ckt, q_lt, q_cI, q_cJ, q_cV, q_cP, q_xI, q_xV, q_xP, q_xJ, g_gk, g_ga, g_gw, g_gp, g_gq, g_P, g_J, q_I_s, q_I_n, q_I_k, nI_add, pk_sub, pk_mul, nI_clamp, n_lt0, n_0lt, n_eq0, n_lt, n_le, n_eq, n_m1, n_m2, n_m9, n_12, n_19, n_10, n_01, n_1n1, n_0n1, n_1n0, n_0n0, n_dI, n_m1lt, q_inb, n_nar, n_nar0, n_nar1, n_bool, Bool.false_eq_true, Bool.true_eq_false, if_true, if_false, ↓reduceIte, Nat.reduceAdd, Nat.reduceMul, Nat.reduceSub, Nat.reduceLT, Nat.reduceLeDiff, Nat.reduceEqDiff, Nat.reduceMod, Nat.reduceDiv, r_it, ha, r_within, w3, hb, w30, hc, L_X12_tray_41, q_R hpt]
        · simp (disch := omega) only [q_ckt, q_lt, q_cI, q_cJ, q_cV, q_cP, q_xI, q_xV, q_xP, q_xJ, g_gk, g_ga, g_gw, g_gp, g_gq, g_P, g_J, q_I_s, q_I_n, q_I_k, nI_add, pk_sub, pk_mul, nI_clamp, n_lt0, n_0lt, n_eq0, n_lt, n_le, n_eq, n_m1, n_m2, n_m9, n_12, n_19, n_10, n_01, n_1n1, n_0n1, n_1n0, n_0n0, n_dI, n_m1lt, q_inb, n_nar, n_nar0, n_nar1, n_bool, Bool.false_eq_true, Bool.true_eq_false, if_true, if_false, ↓reduceIte, Nat.reduceAdd, Nat.reduceMul, Nat.reduceSub, Nat.reduceLT, Nat.reduceLeDiff, Nat.reduceEqDiff, Nat.reduceMod, Nat.reduceDiv, r_it, ha, r_within, w3, hb, L_X12_tray_41, q_R hpt]
  · refine q_Sv_t (k := 1) (M2 := ir_sI (ir_th M) 412 4 (nI 1)) hI ?_ ?_ (q_st_4 hpt rfl) q_I_s
    · rw [E_L_tray 199, E_X11_tray 198]
      simp (disch := omega) only [q_ckt, q_lt, q_cI, q_cJ, q_cV, q_cP, q_xI, q_xV, q_xP, q_xJ, g_gk, g_ga, g_gw, g_gp, g_gq, g_P, g_J, q_I_s, q_I_n, q_I_k, nI_add, pk_sub, pk_mul, nI_clamp, n_lt0, n_0lt, n_eq0, n_lt, n_le, n_eq, n_m1, n_m2, n_m9, n_12, n_19, n_10, n_01, n_1n1, n_0n1, n_1n0, n_0n0, n_dI, n_m1lt, q_inb, n_nar, n_nar0, n_nar1, n_bool, Bool.false_eq_true, Bool.true_eq_false, if_true, if_false, ↓reduceIte, Nat.reduceAdd, Nat.reduceMul, Nat.reduceSub, Nat.reduceLT, Nat.reduceLeDiff, Nat.reduceEqDiff, Nat.reduceMod, Nat.reduceDiv, q_W hp, c_it, ha, q_bV2]
    · rw [E_X12_tray 199]
      simp (disch := omega) only [q_ckt, q_lt, q_cI, q_cJ, q_cV, q_cP, q_xI, q_xV, q_xP, q_xJ, g_gk, g_ga, g_gw, g_gp, g_gq, g_P, g_J, q_I_s, q_I_n, q_I_k, nI_add, pk_sub, pk_mul, nI_clamp, n_lt0, n_0lt, n_eq0, n_lt, n_le, n_eq, n_m1, n_m2, n_m9, n_12, n_19, n_10, n_01, n_1n1, n_0n1, n_1n0, n_0n0, n_dI, n_m1lt, q_inb, n_nar, n_nar0, n_nar1, n_bool, Bool.false_eq_true, Bool.true_eq_false, if_true, if_false, ↓reduceIte, Nat.reduceAdd, Nat.reduceMul, Nat.reduceSub, Nat.reduceLT, Nat.reduceLeDiff, Nat.reduceEqDiff, Nat.reduceMod, Nat.reduceDiv, r_it, ha, L_X12_tray_41, q_R hpt]
theorem S_write (a b : Int32) (v : Int64) : q_Sj L xs (q_Iv L xs) (m_L_write 200 1 a b v 436) (m_X12_write 200 412 a b v) := by
  intro j M hI
  have hp := hI.1
  have hst := q_st_th hp
  have hpt : q_PI (ir_th M) := hst.1.1
  have hty := hI.2.2.2.2.2.1.2.1
  by_cases ha : k_rng a 4
  · obtain ⟨i, hi, rfl⟩ := k_rng_of ha (by decide)
    rcases c_ty_use hi (hty i hi) with ⟨m1, m2⟩ | ⟨so, mn, T, hso, s1, s2, ct, rt⟩
    · refine q_Sj_t (k := 2) (M2 := ir_sI (ir_th M) 412 4 (nI 2)) (b := 0) hI ?_ (by omega) ?_ (q_st_4 hpt rfl) q_I_s
      · rw [E_L_write 199, E_X11_write 198]
        simp (disch := omega) only [q_ckt, q_lt, q_cI, q_cJ, q_cV, q_cP, q_xI, q_xV, q_xP, q_xJ, g_gk, g_ga, g_gw, g_gp, g_gq, g_P, g_J, q_I_s, q_I_n, q_I_k, nI_add, pk_sub, pk_mul, nI_clamp, n_lt0, n_0lt, n_eq0, n_lt, n_le, n_eq, n_m1, n_m2, n_m9, n_12, n_19, n_10, n_01, n_1n1, n_0n1, n_1n0, n_0n0, n_dI, n_m1lt, q_inb, n_nar, n_nar0, n_nar1, n_bool, Bool.false_eq_true, Bool.true_eq_false, if_true, if_false, ↓reduceIte, Nat.reduceAdd, Nat.reduceMul, Nat.reduceSub, Nat.reduceLT, Nat.reduceLeDiff, Nat.reduceEqDiff, Nat.reduceMod, Nat.reduceDiv, q_W hp, c_nt1 hp hi m1, q_bJ2]
      · rw [E_X12_write 199]
        simp (disch := omega) only [q_ckt, q_lt, q_cI, q_cJ, q_cV, q_cP, q_xI, q_xV, q_xP, q_xJ, g_gk, g_ga, g_gw, g_gp, g_gq, g_P, g_J, q_I_s, q_I_n, q_I_k, nI_add, pk_sub, pk_mul, nI_clamp, n_lt0, n_0lt, n_eq0, n_lt, n_le, n_eq, n_m1, n_m2, n_m9, n_12, n_19, n_10, n_01, n_1n1, n_0n1, n_1n0, n_0n0, n_dI, n_m1lt, q_inb, n_nar, n_nar0, n_nar1, n_bool, Bool.false_eq_true, Bool.true_eq_false, if_true, if_false, ↓reduceIte, Nat.reduceAdd, Nat.reduceMul, Nat.reduceSub, Nat.reduceLT, Nat.reduceLeDiff, Nat.reduceEqDiff, Nat.reduceMod, Nat.reduceDiv, q_R hpt, r_tf1 hpt hi ((hst.2.2.1.1 433 i rfl).trans m2)]
    · have nt := c_nt2 (d := 196) hp hi ct.2.2.1
      have h30 := ct.2.1
      by_cases hb : k_rng b mn
      · obtain ⟨y, hy, rfl⟩ := k_rng_of hb (by omega)
        have pu := c_put (d := 196) hp hi hso s1 ct.2.2.2.1 h30 hy v
        obtain ⟨w, ew⟩ : ∃ w, w = k_cut so v := ⟨_, rfl⟩
        rw [← ew] at pu
        obtain ⟨M1, eM1⟩ : ∃ N, N = ir_sJ (ir_sJ M (405 + 2 * i) y w) 436 0 w := ⟨_, rfl⟩
        have f1 : q_ft i M M1 := by
          rw [eM1]
          exact (q_ft_J hp (Or.inl rfl) hi).tr (q_ft_st (q_st_J (M := ir_sJ M (405 + 2 * i) y w) hp))
        have hp1 := f1.1.1
        have i1 : M1.1 = M.1 := by rw [eM1]; rfl
        have cut := r_cut (d := 198) (M := ir_sI M1 412 4 (nI 0)) hp1 hi hso (by
          rw [q_I_n (by decide)]
          show M1.1 433 i = _
          rw [i1]
          exact s2) (show y < 30 by omega) v
        rw [← ew] at cut
        have tf := r_tf2 (d := 196) (M := M1) hp1 hi hso (by
          show M1.1 433 i = _
          rw [i1]
          exact s2)
        have many : ir_I M1 434 i = nI mn := by
          show M1.1 434 i = _
          rw [i1]
          exact rt.2.2.1
        obtain ⟨M2, eM2⟩ : ∃ N, N = ir_sJ (ir_sI M1 412 4 (nI 0)) 435 (30 * i + y) w := ⟨_, rfl⟩
        have f2 : q_ft i M1 M2 := by
          rw [eM2]
          exact (q_ft_st (q_st_4 hp1 rfl)).tr (q_ft_J (M := ir_sI M1 412 4 (nI 0)) hp1 (Or.inr ⟨rfl, by omega, by omega⟩) hi)
        rw [← eM2] at cut
        have gX := q_Iv_X hI f1.1
        have J5 : ∀ k, ir_J M2 (405 + 2 * i) k = if k = y then w else ir_J M (405 + 2 * i) k := fun k => by
          rw [eM2, s_Jn (by omega), q_J_sI, eM1, s_Jn (by omega), s_J]
        have J4 : ∀ k, ir_J M2 435 (30 * i + k) = if k = y then w else ir_J M 435 (30 * i + k) := fun k => by
          rw [eM2, s_J, q_J_sI, eM1, s_Jn (by decide), s_Jn (by omega)]
          by_cases q : k = y
          · rw [if_pos (by omega), if_pos q]
          · rw [if_neg (by omega), if_neg q]
        have I2 : ∀ a k, a ≠ 412 → ir_I M2 a k = ir_I M a k := fun a k h => by
          rw [eM2, s_I, q_I_n h]
          show M1.1 a k = M.1 a k
          rw [i1]
        refine ⟨nI 0, M1, w, M2, ?_, gX.1, gX.2, ?_, ?_, fun _ => ?_, q_Iv_ft hi hI (f1.tr f2) (Or.inr ⟨?_, so, mn, hso, h30, ?_, ?_, ?_, ?_, fun k hk => ?_⟩)⟩
        · rw [E_L_write 199, E_X11_write 198]
          simp (disch := omega) only [q_ckt, q_lt, q_cI, q_cJ, q_cV, q_cP, q_xI, q_xV, q_xP, q_xJ, g_gk, g_ga, g_gw, g_gp, g_gq, g_P, g_J, q_I_s, q_I_n, q_I_k, nI_add, pk_sub, pk_mul, nI_clamp, n_lt0, n_0lt, n_eq0, n_lt, n_le, n_eq, n_m1, n_m2, n_m9, n_12, n_19, n_10, n_01, n_1n1, n_0n1, n_1n0, n_0n0, n_dI, n_m1lt, q_inb, n_nar, n_nar0, n_nar1, n_bool, Bool.false_eq_true, Bool.true_eq_false, if_true, if_false, ↓reduceIte, Nat.reduceAdd, Nat.reduceMul, Nat.reduceSub, Nat.reduceLT, Nat.reduceLeDiff, Nat.reduceEqDiff, Nat.reduceMod, Nat.reduceDiv, q_W hp, nt, q_Yt hp hi, ct.2.2.2.1, hy, pu, q_bJ1, q_R (M := ir_sJ M (405 + 2 * i) y w) hp]
          rw [eM1]
        · have wm : ((0 : Int64).toInt ≤ (nI y).toInt64.toInt ∧ (nI y).toInt64.toInt ≤ (nI (mn - 1)).toInt64.toInt) = True := by
            have z := k_wi (v := nI y) (n := mn) (by omega)
            rw [pk_sub (show 1 ≤ mn by omega)] at z
            rw [z]
            exact eq_true hb
          rw [E_X12_write 199]
          simp (disch := omega) only [q_ckt, q_lt, q_cI, q_cJ, q_cV, q_cP, q_xI, q_xV, q_xP, q_xJ, g_gk, g_ga, g_gw, g_gp, g_gq, g_P, g_J, q_I_s, q_I_n, q_I_k, nI_add, pk_sub, pk_mul, nI_clamp, n_lt0, n_0lt, n_eq0, n_lt, n_le, n_eq, n_m1, n_m2, n_m9, n_12, n_19, n_10, n_01, n_1n1, n_0n1, n_1n0, n_0n0, n_dI, n_m1lt, q_inb, n_nar, n_nar0, n_nar1, n_bool, Bool.false_eq_true, Bool.true_eq_false, if_true, if_false, ↓reduceIte, Nat.reduceAdd, Nat.reduceMul, Nat.reduceSub, Nat.reduceLT, Nat.reduceLeDiff, Nat.reduceEqDiff, Nat.reduceMod, Nat.reduceDiv, q_R hp1, tf, many, r_within, wm, cut]
        · show ir_I M2 412 4 = nI 0
          rw [eM2, s_I]
          exact q_I_s
        · show ir_J M2 436 0 = w
          rw [eM2, s_Jn (by decide), q_J_sI, eM1, s_Js]
        · rw [I2 _ _ (by omega)]; exact ct.2.2.1
        · rw [I2 _ _ (by omega)]; exact s1
        · rw [I2 _ _ (by omega)]; exact s2
        · rw [I2 _ _ (by omega)]; exact ct.2.2.2.1
        · rw [I2 _ _ (by omega)]; exact rt.2.2.1
        · rw [J5, J4, ct.2.2.2.2 k hk, rt.2.2.2 k hk]
      · refine q_Sj_t (k := 3) (M2 := ir_sI (ir_sI (ir_th M) 412 4 (nI 0)) 412 4 (nI 3)) (b := (nI 0).toInt64) hI ?_ (by omega) ?_ ((q_st_4 hpt rfl).tr (q_st_4 (M := ir_sI (ir_th M) 412 4 (nI 0)) hpt rfl)) q_I_s
        · rw [E_L_write 199, E_X11_write 198]
          simp (disch := omega) only [q_ckt, q_lt, q_cI, q_cJ, q_cV, q_cP, q_xI, q_xV, q_xP, q_xJ, g_gk, g_ga, g_gw, g_gp, g_gq, g_P, g_J, q_I_s, q_I_n, q_I_k, nI_add, pk_sub, pk_mul, nI_clamp, n_lt0, n_0lt, n_eq0, n_lt, n_le, n_eq, n_m1, n_m2, n_m9, n_12, n_19, n_10, n_01, n_1n1, n_0n1, n_1n0, n_0n0, n_dI, n_m1lt, q_inb, n_nar, n_nar0, n_nar1, n_bool, Bool.false_eq_true, Bool.true_eq_false, if_true, if_false, ↓reduceIte, Nat.reduceAdd, Nat.reduceMul, Nat.reduceSub, Nat.reduceLT, Nat.reduceLeDiff, Nat.reduceEqDiff, Nat.reduceMod, Nat.reduceDiv, q_W hp, nt, q_Yt hp hi, ct.2.2.2.1]
          rw [k_rng_c (by omega), if_neg hb]
          simp (disch := omega) only [q_ckt, q_lt, q_cI, q_cJ, q_cV, q_cP, q_xI, q_xV, q_xP, q_xJ, g_gk, g_ga, g_gw, g_gp, g_gq, g_P, g_J, q_I_s, q_I_n, q_I_k, nI_add, pk_sub, pk_mul, nI_clamp, n_lt0, n_0lt, n_eq0, n_lt, n_le, n_eq, n_m1, n_m2, n_m9, n_12, n_19, n_10, n_01, n_1n1, n_0n1, n_1n0, n_0n0, n_dI, n_m1lt, q_inb, n_nar, n_nar0, n_nar1, n_bool, Bool.false_eq_true, Bool.true_eq_false, if_true, if_false, ↓reduceIte, Nat.reduceAdd, Nat.reduceMul, Nat.reduceSub, Nat.reduceLT, Nat.reduceLeDiff, Nat.reduceEqDiff, Nat.reduceMod, Nat.reduceDiv, q_bJ2]
        · have many : ir_I (ir_th M) 434 i = nI mn := (hst.2.2.1.1 434 i rfl).trans rt.2.2.1
          rw [E_X12_write 199]
          simp (disch := omega) only [q_ckt, q_lt, q_cI, q_cJ, q_cV, q_cP, q_xI, q_xV, q_xP, q_xJ, g_gk, g_ga, g_gw, g_gp, g_gq, g_P, g_J, q_I_s, q_I_n, q_I_k, nI_add, pk_sub, pk_mul, nI_clamp, n_lt0, n_0lt, n_eq0, n_lt, n_le, n_eq, n_m1, n_m2, n_m9, n_12, n_19, n_10, n_01, n_1n1, n_0n1, n_1n0, n_0n0, n_dI, n_m1lt, q_inb, n_nar, n_nar0, n_nar1, n_bool, Bool.false_eq_true, Bool.true_eq_false, if_true, if_false, ↓reduceIte, Nat.reduceAdd, Nat.reduceMul, Nat.reduceSub, Nat.reduceLT, Nat.reduceLeDiff, Nat.reduceEqDiff, Nat.reduceMod, Nat.reduceDiv, q_R hpt, r_tf2 hpt hi hso ((hst.2.2.1.1 433 i rfl).trans s2), many, r_within, k_wi, hb, r_fails (M := ir_sI (ir_th M) 412 4 (nI 0)) hpt]
  · refine q_Sj_t (k := 1) (M2 := ir_sI (ir_th M) 412 4 (nI 1)) (b := 0) hI ?_ (by omega) ?_ (q_st_4 hpt rfl) q_I_s
    · rw [E_L_write 199, E_X11_write 198]
      simp (disch := omega) only [q_ckt, q_lt, q_cI, q_cJ, q_cV, q_cP, q_xI, q_xV, q_xP, q_xJ, g_gk, g_ga, g_gw, g_gp, g_gq, g_P, g_J, q_I_s, q_I_n, q_I_k, nI_add, pk_sub, pk_mul, nI_clamp, n_lt0, n_0lt, n_eq0, n_lt, n_le, n_eq, n_m1, n_m2, n_m9, n_12, n_19, n_10, n_01, n_1n1, n_0n1, n_1n0, n_0n0, n_dI, n_m1lt, q_inb, n_nar, n_nar0, n_nar1, n_bool, Bool.false_eq_true, Bool.true_eq_false, if_true, if_false, ↓reduceIte, Nat.reduceAdd, Nat.reduceMul, Nat.reduceSub, Nat.reduceLT, Nat.reduceLeDiff, Nat.reduceEqDiff, Nat.reduceMod, Nat.reduceDiv, q_W hp, c_nt0 hp ha, q_bJ2]
    · rw [E_X12_write 199]
      simp (disch := omega) only [q_ckt, q_lt, q_cI, q_cJ, q_cV, q_cP, q_xI, q_xV, q_xP, q_xJ, g_gk, g_ga, g_gw, g_gp, g_gq, g_P, g_J, q_I_s, q_I_n, q_I_k, nI_add, pk_sub, pk_mul, nI_clamp, n_lt0, n_0lt, n_eq0, n_lt, n_le, n_eq, n_m1, n_m2, n_m9, n_12, n_19, n_10, n_01, n_1n1, n_0n1, n_1n0, n_0n0, n_dI, n_m1lt, q_inb, n_nar, n_nar0, n_nar1, n_bool, Bool.false_eq_true, Bool.true_eq_false, if_true, if_false, ↓reduceIte, Nat.reduceAdd, Nat.reduceMul, Nat.reduceSub, Nat.reduceLT, Nat.reduceLeDiff, Nat.reduceEqDiff, Nat.reduceMod, Nat.reduceDiv, q_R hpt, r_tf0 hpt ha]
end T2
