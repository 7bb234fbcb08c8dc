/-! THE WELL: the start of both readings, the reference's end -/
section RS
variable {B : Nat → Nat} {n L : Nat} {xs : Nat → Int32} {M0 M M' : ir_M} {d dp s f p G N : Nat} {K K' : Nat → Int32} {T : Nat → Int32}
theorem c_clT (hp : q_PI M) (hd : 2 ≤ d) : ∃ M', m_X9_clear d 101 M = ir_oV M' ∧ q_eq [101, 103, 104, 108] M M' ∧ (∀ k, k < 7 → k ≠ 4 → ir_I M' 101 k = 0) ∧ ir_I M' 101 4 = nI 1 ∧ (∀ k, k < 8 → ir_I M' 103 k = 0) ∧ (∀ k, k < 64 → ir_I M' 108 k = 0) ∧ ir_I M' 104 0 = 0 := by
  obtain ⟨e, rfl⟩ : ∃ e, d = e + 2 := ⟨d - 2, by omega⟩
  obtain ⟨M7, e7⟩ : ∃ X, X = ir_sI (ir_sI (ir_sI (ir_sI (ir_sI (ir_sI (ir_sI M 101 0 (nI 0)) 101 1 (nI 0)) 101 2 (nI 0)) 101 3 (nI 0)) 101 4 (nI 1)) 101 5 (nI 0)) 101 6 (nI 0) := ⟨_, rfl⟩
  have q7 : q_eq [101] M M7 := by
    rw [e7]
    exact ((((((q_eq.sI (by decide)).tr (q_eq.sI (by decide))).tr (q_eq.sI (by decide))).tr (q_eq.sI (by decide))).tr (q_eq.sI (by decide))).tr (q_eq.sI (by decide))).tr (q_eq.sI (by decide))
  have p7 := q_PI_eq q7 hp
  obtain ⟨M8, e8, q8, k8⟩ := f_I (d := e) (v := nI 0) (a := 103) (N := 8) p7 (by decide) rfl rfl (fun M' h i => q_w103 h i)
  have p8 := q_PI_eq q8 p7
  obtain ⟨M9, e9, q9, k9⟩ := f_I (d := e) (v := nI 0) (a := 108) (N := 64) p8 (by decide) rfl rfl (fun M' h i => q_w108 h i)
  have p9 := q_PI_eq q9 p8
  have q10 : q_eq [104] M9 (ir_sI M9 104 0 (nI 0)) := q_eq.sI (by decide)
  have e10 : m_X1_clear (e + 1) 104 M9 = ir_oV (ir_sI M9 104 0 (nI 0)) := by
    rw [E_X1_clear]
    simp (disch := omega) only [q_ckt, q_lt, q_cI, q_cJ, q_cV, q_cP, q_xI, q_xV, q_xP, q_xJ, g_gk, g_ga, g_gw, g_gp, g_gq, g_P, g_J, q_I_s, q_I_n, q_I_k, nI_add, pk_sub, pk_mul, nI_clamp, n_lt0, n_0lt, n_eq0, n_lt, n_le, n_eq, n_m1, n_m2, n_m9, n_12, n_19, n_10, n_01, n_1n1, n_0n1, n_1n0, n_0n0, n_dI, n_m1lt, q_inb, n_nar, n_nar0, n_nar1, n_bool, Bool.false_eq_true, Bool.true_eq_false, if_true, if_false, ↓reduceIte, Nat.reduceAdd, Nat.reduceMul, Nat.reduceSub, Nat.reduceLT, Nat.reduceLeDiff, Nat.reduceEqDiff, Nat.reduceMod, Nat.reduceDiv, q_N p9]
  have s7 : ∀ k, ir_I (ir_sI M9 104 0 (nI 0)) 101 k = ir_I M7 101 k := fun k => by rw [q_I_eq q10 (by decide), q_I_eq q9 (by decide), q_I_eq q8 (by decide)]
  refine ⟨ir_sI M9 104 0 (nI 0), ?_, (((q7.sub (by decide)).tr (q8.sub (by decide))).tr (q9.sub (by decide))).tr (q10.sub (by decide)), fun k h1 h2 => ?_, ?_, fun k hk => ?_, fun k hk => ?_, q_I_s⟩
  · rw [E_X9_clear]
    simp (disch := omega) only [q_ckt, q_lt, q_cI, q_cJ, q_cV, q_cP, q_xI, q_xV, q_xP, q_xJ, g_gk, g_ga, g_gw, g_gp, g_gq, g_P, g_J, q_I_s, q_I_n, q_I_k, nI_add, pk_sub, pk_mul, nI_clamp, n_lt0, n_0lt, n_eq0, n_lt, n_le, n_eq, n_m1, n_m2, n_m9, n_12, n_19, n_10, n_01, n_1n1, n_0n1, n_1n0, n_0n0, n_dI, n_m1lt, q_inb, n_nar, n_nar0, n_nar1, n_bool, Bool.false_eq_true, Bool.true_eq_false, if_true, if_false, ↓reduceIte, Nat.reduceAdd, Nat.reduceMul, Nat.reduceSub, Nat.reduceLT, Nat.reduceLeDiff, Nat.reduceEqDiff, Nat.reduceMod, Nat.reduceDiv, q_N hp, n_isb]
    rw [← e7, e8, q_cV, q_ck (q_g101_11 p8), q_p101_11 p8, e9, q_cV, q_ck (q_g101_9 p9), q_p101_9 p9, q_ck (q_k104 p9), e10, q_cV]
  · rw [s7, e7]
    have : k = 0 ∨ k = 1 ∨ k = 2 ∨ k = 3 ∨ k = 5 ∨ k = 6 := by omega
    rcases this with z | z | z | z | z | z
    · rw [z, q_I_k (by decide), q_I_k (by decide), q_I_k (by decide), q_I_k (by decide), q_I_k (by decide), q_I_k (by decide), q_I_s]; rfl
    · rw [z, q_I_k (by decide), q_I_k (by decide), q_I_k (by decide), q_I_k (by decide), q_I_k (by decide), q_I_s]; rfl
    · rw [z, q_I_k (by decide), q_I_k (by decide), q_I_k (by decide), q_I_k (by decide), q_I_s]; rfl
    · rw [z, q_I_k (by decide), q_I_k (by decide), q_I_k (by decide), q_I_s]; rfl
    · rw [z, q_I_k (by decide), q_I_s]; rfl
    · rw [z, q_I_s]; rfl
  · rw [s7, e7, q_I_k (by decide), q_I_k (by decide), q_I_s]
  · rw [q_I_eq q10 (by decide), q_I_eq q9 (by decide)]; exact k8 k hk
  · rw [q_I_eq q10 (by decide)]; exact k9 k hk
theorem c_clS (hp : q_PI M) (hd : 2 ≤ d) : ∃ M', m_X8_clear d 109 M = ir_oV M' ∧ q_eq [109, 113] M M' ∧ (∀ k, k < 4 → ir_I M' 109 k = 0) ∧ (∀ k, k < 8 → ir_I M' 113 k = 0) := by
  obtain ⟨e, rfl⟩ : ∃ e, d = e + 2 := ⟨d - 2, by omega⟩
  obtain ⟨M4, e4⟩ : ∃ X, X = ir_sI (ir_sI (ir_sI (ir_sI M 109 0 (nI 0)) 109 1 (nI 0)) 109 2 (nI 0)) 109 3 (nI 0) := ⟨_, rfl⟩
  have q4 : q_eq [109] M M4 := by
    rw [e4]
    exact (((q_eq.sI (by decide)).tr (q_eq.sI (by decide))).tr (q_eq.sI (by decide))).tr (q_eq.sI (by decide))
  have p4 := q_PI_eq q4 hp
  obtain ⟨M5, e5, q5, k5⟩ := f_I (d := e) (v := nI 0) (a := 113) (N := 8) p4 (by decide) rfl rfl (fun M' h i => q_w113 h i)
  refine ⟨M5, ?_, (q4.sub (by decide)).tr (q5.sub (by decide)), fun k hk => ?_, fun k hk => k5 k hk⟩
  · rw [E_X8_clear]
    simp (disch := omega) only [q_ckt, q_lt, q_cI, q_cJ, q_cV, q_cP, q_xI, q_xV, q_xP, q_xJ, g_gk, g_ga, g_gw, g_gp, g_gq, g_P, g_J, q_I_s, q_I_n, q_I_k, nI_add, pk_sub, pk_mul, nI_clamp, n_lt0, n_0lt, n_eq0, n_lt, n_le, n_eq, n_m1, n_m2, n_m9, n_12, n_19, n_10, n_01, n_1n1, n_0n1, n_1n0, n_0n0, n_dI, n_m1lt, q_inb, n_nar, n_nar0, n_nar1, n_bool, Bool.false_eq_true, Bool.true_eq_false, if_true, if_false, ↓reduceIte, Nat.reduceAdd, Nat.reduceMul, Nat.reduceSub, Nat.reduceLT, Nat.reduceLeDiff, Nat.reduceEqDiff, Nat.reduceMod, Nat.reduceDiv, q_N hp, n_isb]
    rw [← e4, q_ck ((show ir_gp M 109 8 7 = true from q_g109_7 hp)), show ir_P M 109 7 = 113 from q_p109_7 hp, e5, q_cV]
  · rw [q_I_eq q5 (by decide), e4]
    have : k = 0 ∨ k = 1 ∨ k = 2 ∨ k = 3 := by omega
    rcases this with z | z | z | z
    · rw [z, q_I_k (by decide), q_I_k (by decide), q_I_k (by decide), q_I_s]; rfl
    · rw [z, q_I_k (by decide), q_I_k (by decide), q_I_s]; rfl
    · rw [z, q_I_k (by decide), q_I_s]; rfl
    · rw [z, q_I_s]; rfl
theorem n_len {n : Nat} (h : n ≤ 900) : ir_mx (nI 0) (ir_mn (nI n) (Int32.ofNat 900)) = nI n := by
  unfold ir_mx ir_mn
  rw [if_neg (show ¬ Int32.ofNat 900 < nI n from fun z => by have := (nI_ltI (a := 900) (b := n) (by decide) (by omega)).mp z; omega)]
  by_cases c : n = 0
  · rw [c, if_neg (by decide +kernel)]
  · rw [if_pos ((nI_ltI (a := 0) (b := n) (by decide) (by omega)).mpr (by omega))]
/-- the class reads -/
theorem c_rd (hp : q_PI M) (hx : q_X L xs M) (h900 : n ≤ 900) (hB : ∀ k, k < n → B k < 256 ∧ ir_I M 2 k = (nI (B k)).toInt8.toInt32) (hl : c_ls M) (hd : 54 ≤ d) (CC : ∀ M0 M d, 53 ≤ d → c_P B n L xs M0 (k_ts B n 0) (k_K0 T) M → ∃ r M1, m_X4_readGoods d 100 M = ir_oI r M1 ∧ ∃ M', (if r = 0 then ir_oV M1 else v_X4_read_64 d 100 (nI 1) (nI 0) M1) = ir_oV M' ∧ c_Q B n L xs M0 f p K' M') : ∃ M', m_X4_read d 100 2 (nI n) M = ir_oV M' ∧ c_Q B n L xs (ir_sP M 100 5 2) f p K' M' := by
  obtain ⟨e, rfl⟩ : ∃ e, d = e + 1 := ⟨d - 1, by omega⟩
  obtain ⟨N0, e0⟩ : ∃ X, X = ir_sP M 100 5 2 := ⟨_, rfl⟩
  have st0 : q_st 0 M N0 := by rw [e0]; exact q_st_P hp (by decide +kernel) (by decide) (by decide)
  have p0 : q_PI N0 := st0.1.1
  have x0 : q_X L xs N0 := fun a ha => by
    obtain ⟨w1, w2, w3⟩ := st0.1.2.1 a ha
    obtain ⟨v1, v2, v3⟩ := hx a ha
    exact ⟨w1.trans v1, w2.trans v2, w3.trans v3⟩
  have P5 : ir_P N0 100 5 = 2 := by rw [e0]; exact p_Ps
  have I0 : ∀ a k, ir_I N0 a k = ir_I M a k := fun a k => by rw [e0]; exact p_I
  obtain ⟨N4, e4⟩ : ∃ X, X = ir_sI (ir_sI (ir_sI (ir_sI N0 100 6 (nI n)) 100 7 (nI 0)) 100 0 (nI 0)) 100 1 (-1) := ⟨_, rfl⟩
  have q4 : q_eq [100] N0 N4 := by
    rw [e4]
    exact (((q_eq.sI (by decide)).tr (q_eq.sI (by decide))).tr (q_eq.sI (by decide))).tr (q_eq.sI (by decide))
  have p4 := q_PI_eq q4 p0
  obtain ⟨N5, e5, q5, a5, b5, c5, d5, f5⟩ := c_clT (d := e) p4 (by omega)
  have p5 := q_PI_eq q5 p4
  obtain ⟨N6, e6, q6, a6, b6⟩ := c_clS (d := e) p5 (by omega)
  have p6 := q_PI_eq q6 p5
  have q06 : q_eq c_fs N0 N6 := ((q4.sub (by decide)).tr (q5.sub (by decide))).tr (q6.sub (by decide))
  have h100 : ∀ k, ir_I N6 100 k = ir_I N4 100 k := fun k => by rw [q_I_eq q6 (by decide), q_I_eq q5 (by decide)]
  have t6 : c_tx B n L xs N6 := by
    refine ⟨p6, h900, fun k hk => ⟨(hB k hk).1, ?_⟩, fun k hk => ?_, ?_, ?_, q_X_eq q06 (by decide) x0⟩
    · rw [q_I_eq q06 (by decide), I0]; exact (hB k hk).2
    · rw [q_I_eq q06 (by decide), I0]; exact hl k hk
    · unfold ir_P at P5 ⊢
      rw [q06.2]
      exact P5
    · rw [h100, e4, q_I_k (by decide), q_I_k (by decide), q_I_k (by decide), q_I_s]
  have h7 : ir_I N6 100 7 = nI 0 := by rw [h100, e4, q_I_k (by decide), q_I_k (by decide), q_I_s]
  obtain ⟨N7, e7, q7, k7, r1, r2, r3, r4⟩ := c_nx (d := e - 8) t6 (p := 0) (Nat.zero_le _) h7 rfl
  rw [show e - 8 + 8 = e by omega] at e7
  have sr := k_sk_r (B := B) (n - 0) 0
  have ss : k_ts B n 0 ≤ n := by
    show k_sk B (n - 0) 0 ≤ n
    omega
  have kk : ∀ {k : Nat}, k < 1640 → k ≠ 3 → (0 : Int32) = k_K0 T k := fun h1 h2 => (k_K0_e h1 h2).symm
  have P7 : c_P B n L xs N0 (k_ts B n 0) (k_K0 T) N7 := by
    refine ⟨⟨c_tx_eq t6 q7 (by decide) (k7 6 (by decide) (by decide) (by decide) (by decide)), q06.tr (q7.sub (by decide)), c_cn_eq q7 (by decide) ⟨0, by decide, by rw [q_I_eq q6 (by decide)]; exact f5⟩, ss, ?_, ?_, r1, r2, r3, r4⟩, c_K_eq q7 (by decide) (c_K_0 ?_ ?_ ?_ ?_ ?_ ?_ ?_ ?_ ?_ ?_ ?_ ?_ (k_K0_e (by decide) (by decide)) (k_K0_e (by decide) (by decide)) (k_K0_e (by decide) (by decide)) (k_K0_e (by decide) (by decide)) (fun p hp => ?_) (fun k hk => ?_) (fun p hp => ?_))⟩
    · rw [k7 0 (by decide) (by decide) (by decide) (by decide), h100, e4, q_I_k (by decide), q_I_s]; rfl
    · rw [k7 1 (by decide) (by decide) (by decide) (by decide), h100, e4, q_I_s]
    · rw [q_I_eq q6 (by decide), a5 0 (by decide) (by decide)]; exact kk (by decide) (by decide)
    · rw [q_I_eq q6 (by decide), a5 1 (by decide) (by decide)]; exact kk (by decide) (by decide)
    · rw [q_I_eq q6 (by decide), a5 2 (by decide) (by decide)]; exact kk (by decide) (by decide)
    · rw [q_I_eq q6 (by decide), a5 3 (by decide) (by decide)]; exact kk (by decide) (by decide)
    · rw [q_I_eq q6 (by decide), b5]; rfl
    · rw [q_I_eq q6 (by decide), a5 5 (by decide) (by decide)]; exact kk (by decide) (by decide)
    · rw [q_I_eq q6 (by decide), a5 6 (by decide) (by decide)]; exact kk (by decide) (by decide)
    · rw [q_I_eq q6 (by decide), f5]; exact kk (by decide) (by decide)
    · rw [a6 0 (by decide)]; exact kk (by decide) (by decide)
    · rw [a6 1 (by decide)]; exact kk (by decide) (by decide)
    · rw [a6 2 (by decide)]; exact kk (by decide) (by decide)
    · rw [a6 3 (by decide)]; exact kk (by decide) (by decide)
    · rw [q_I_eq q6 (by decide)]; exact c5 p hp
    · rw [q_I_eq q6 (by decide), d5 k hk]; exact kk (by omega) (by omega)
    · rw [b6 p hp]; exact kk (by omega) (by omega)
  obtain ⟨r, M8, e8, M', e9, Q9⟩ := CC N0 N7 e (by omega) P7
  have gv : ir_gv M 100 4 2 = true := q_gv0 hp rfl
  have gl : ir_gl N0 2 = true := q_gl0 p0 rfl
  have ln : ir_ln N0 2 = 900 := rfl
  refine ⟨M', ?_, by rw [← e0]; exact Q9⟩
  rw [E_X4_read, q_ck gv, q_lt, ← e0, q_ck gl, ln, n_len h900, q_ck (q_q100 p0), q_lt, q_ck (q_q100 (q_PI_eq (S := [100]) (q_eq.sI (by decide)) p0)), q_lt]
  simp (disch := omega) only [q_ckt, q_lt, q_cI, q_cJ, q_cV, q_cP, q_xI, q_xV, q_xP, q_xJ, g_gk, g_ga, g_gw, g_gp, g_gq, g_P, g_J, q_I_s, q_I_n, q_I_k, nI_add, pk_sub, pk_mul, nI_clamp, n_lt0, n_0lt, n_eq0, n_lt, n_le, n_eq, n_m1, n_m2, n_m9, n_12, n_19, n_10, n_01, n_1n1, n_0n1, n_1n0, n_0n0, n_dI, n_m1lt, q_inb, n_nar, n_nar0, n_nar1, n_bool, Bool.false_eq_true, Bool.true_eq_false, if_true, if_false, ↓reduceIte, Nat.reduceAdd, Nat.reduceMul, Nat.reduceSub, Nat.reduceLT, Nat.reduceLeDiff, Nat.reduceEqDiff, Nat.reduceMod, Nat.reduceDiv, q_D p0]
  rw [← e4, q_ck (q_k101 p0), e5, q_cV, q_ck (q_g100_3 p5), q_p100_3 p5, q_ck (q_k109 p5), e6, q_cV, q_ck (q_k100 p6), e7, q_cV, q_ck (q_k100 P7.1.1.1), e8, q_cI]
  exact e9
end RS
