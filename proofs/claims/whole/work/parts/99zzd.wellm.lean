/-! THE WELL: the reference's reading, whole -/
section RW
variable {B : Nat → Nat} {n L : Nat} {xs : Nat → Int32} {M0 M M' : ir_M} {d dp s f p G N : Nat} {K K' : Nat → Int32} {T : Nat → Int32}
theorem r_zero (hp : q_PI M) : ∃ t, (q_eq [414] M t ∧ (∀ k, k < 1640 → ir_I t 414 k = 0) ∧ ∀ k, 1640 ≤ k → ir_I t 414 k = ir_I M 414 k) ∧ v_X12_well_52 d 412 (nI 0) M = v_X12_well_52 d 412 (nI 1640) t := by
  have Lp := q_up (σ := ir_M) (V := fun x t => v_X12_well_52 d 412 (nI x) t) (N := 1640) (I := fun x t => q_eq [414] M t ∧ (∀ k, k < x → ir_I t 414 k = 0) ∧ ∀ k, x ≤ k → ir_I t 414 k = ir_I M 414 k) (K := fun t => v_X12_well_52 d 412 (nI 1640) t) (by
    rintro x t hx ⟨h1, h4, h5⟩
    have hpt := q_PI_eq h1 hp
    refine ⟨ir_sI t 414 x (nI 0), ⟨h1.tr (q_eq.sI (by decide)), fun k hk => ?_, fun k hk => by rw [q_I_k (by omega)]; exact h5 k (by omega)⟩, ?_⟩
    · rw [q_I_u]
      by_cases q : k = x
      · rw [if_pos q]; rfl
      · rw [if_neg q]
        exact h4 k (by omega)
    · rw [L_X12_well_52, if_pos ((nI_ltI (by omega) (by decide)).mpr hx)]
      simp (disch := omega) only [q_ckt, q_lt, q_cI, q_cJ, q_cV, q_cP, q_xI, q_xV, q_xP, q_xJ, g_gk, g_ga, g_gw, g_gp, g_gq, g_P, g_J, q_I_s, q_I_n, q_I_k, nI_add, pk_sub, pk_mul, nI_clamp, n_lt0, n_0lt, n_eq0, n_lt, n_le, n_eq, n_m1, n_m2, n_m9, n_12, n_19, n_10, n_01, n_1n1, n_0n1, n_1n0, n_0n0, n_dI, n_m1lt, q_inb, n_nar, n_nar0, n_nar1, n_bool, Bool.false_eq_true, Bool.true_eq_false, if_true, if_false, ↓reduceIte, Nat.reduceAdd, Nat.reduceMul, Nat.reduceSub, Nat.reduceLT, Nat.reduceLeDiff, Nat.reduceEqDiff, Nat.reduceMod, Nat.reduceDiv, q_R hpt]) (by
    rintro t _
    rfl) (i := 0) (t := M) (by omega) ⟨q_eq.rf _ _, fun k hk => absurd hk (by omega), fun k _ => rfl⟩
  exact Lp
theorem r_copy (hp : q_PI M) : ∃ t, (q_eq [413] M t ∧ (∀ k, k < 1640 → ir_I t 413 k = ir_I M 414 k) ∧ ∀ k, 1640 ≤ k → ir_I t 413 k = ir_I M 413 k) ∧ v_X12_well_172 d 412 (nI 0) M = ir_oI (ir_I t 413 0) t := by
  have Lp := q_up (σ := ir_M) (V := fun x t => v_X12_well_172 d 412 (nI x) t) (N := 1640) (I := fun x t => q_eq [413] M t ∧ (∀ k, k < x → ir_I t 413 k = ir_I M 414 k) ∧ ∀ k, x ≤ k → ir_I t 413 k = ir_I M 413 k) (K := fun t => ir_oI (ir_I t 413 0) t) (by
    rintro x t hx ⟨h1, h4, h5⟩
    have hpt := q_PI_eq h1 hp
    have e4 : ir_I t 414 x = ir_I M 414 x := q_I_eq h1 (by decide) x
    refine ⟨ir_sI t 413 x (ir_I M 414 x), ⟨h1.tr (q_eq.sI (by decide)), fun k hk => ?_, fun k hk => ?_⟩, ?_⟩
    · rw [q_I_u]
      by_cases q : k = x
      · rw [if_pos q, q]
      · rw [if_neg q]
        exact h4 k (by omega)
    · rw [q_I_k (by omega)]; exact h5 k (by omega)
    · rw [L_X12_well_172, if_pos ((nI_ltI (by omega) (by decide)).mpr hx)]
      simp (disch := omega) only [q_ckt, q_lt, q_cI, q_cJ, q_cV, q_cP, q_xI, q_xV, q_xP, q_xJ, g_gk, g_ga, g_gw, g_gp, g_gq, g_P, g_J, q_I_s, q_I_n, q_I_k, nI_add, pk_sub, pk_mul, nI_clamp, n_lt0, n_0lt, n_eq0, n_lt, n_le, n_eq, n_m1, n_m2, n_m9, n_12, n_19, n_10, n_01, n_1n1, n_0n1, n_1n0, n_0n0, n_dI, n_m1lt, q_inb, n_nar, n_nar0, n_nar1, n_bool, Bool.false_eq_true, Bool.true_eq_false, if_true, if_false, ↓reduceIte, Nat.reduceAdd, Nat.reduceMul, Nat.reduceSub, Nat.reduceLT, Nat.reduceLeDiff, Nat.reduceEqDiff, Nat.reduceMod, Nat.reduceDiv, q_R hpt, e4]) (by
    rintro t ⟨h1, -, -⟩
    have hpt := q_PI_eq h1 hp
    rw [L_X12_well_172, if_neg (fun z => by have := (nI_ltI (a := 1640) (b := 1640) (by decide) (by decide)).mp z; omega)]
    simp (disch := omega) only [q_ckt, q_lt, q_cI, q_cJ, q_cV, q_cP, q_xI, q_xV, q_xP, q_xJ, g_gk, g_ga, g_gw, g_gp, g_gq, g_P, g_J, q_I_s, q_I_n, q_I_k, nI_add, pk_sub, pk_mul, nI_clamp, n_lt0, n_0lt, n_eq0, n_lt, n_le, n_eq, n_m1, n_m2, n_m9, n_12, n_19, n_10, n_01, n_1n1, n_0n1, n_1n0, n_0n0, n_dI, n_m1lt, q_inb, n_nar, n_nar0, n_nar1, n_bool, Bool.false_eq_true, Bool.true_eq_false, if_true, if_false, ↓reduceIte, Nat.reduceAdd, Nat.reduceMul, Nat.reduceSub, Nat.reduceLT, Nat.reduceLeDiff, Nat.reduceEqDiff, Nat.reduceMod, Nat.reduceDiv, q_R hpt]) (i := 0) (t := M) (by omega) ⟨q_eq.rf _ _, fun k hk => absurd hk (by omega), fun k _ => rfl⟩
  exact Lp
theorem r_wl {tp : Nat} (hp : q_PI M) (hx : q_X L xs M) (htp : tp ≤ 900) (hn : n ≤ tp) (h6 : ir_I M 412 6 = nI tp) (hB : ∀ k, k < n → B k < 256 ∧ ir_I M 417 k = nI (B k)) (hd : 54 ≤ d) (hf4 : f ≤ 4) (RR : ∀ M0 M' d, 53 ≤ d → r_P B n L xs M0 0 (k_ts B n 0) (k_K0 (ir_I M 414)) M' → ∃ M3 r M4 M7, m_X12_mustWord d 412 1000033 M' = ir_oV M3 ∧ q_PI M3 ∧ m_X12_number d 412 (nI 1) (nI 6) M3 = ir_oI r M4 ∧ q_PI M4 ∧ m_X12_readStop d 412 (ir_sI M4 414 1 r) = ir_oV M7 ∧ ∃ M9, v_X12_well_107 d 412 M7 = v_X12_well_128 d 412 M9 ∧ r_Q B n L xs M0 0 f p K' M9) : ∃ M', m_X12_well d 412 (nI n) M = ir_oI (if f = 0 then K' 0 else (-10 : Int32) - nI f) M' ∧ q_eq [412, 413, 414] M M' ∧ ir_I M' 412 4 = nI 0 ∧ ir_I M' 412 6 = nI 0 ∧ ir_I M' 412 14 = nI f ∧ ir_I M' 412 15 = (if f = 0 then -1 else nI p) ∧ (f = 0 → (∀ k, k < 1640 → ir_I M' 413 k = K' k) ∧ ∀ k, 1640 ≤ k → ir_I M' 413 k = ir_I M 413 k) ∧ (f ≠ 0 → ∀ k, ir_I M' 413 k = ir_I M 413 k) := by
  obtain ⟨e, rfl⟩ : ∃ e, d = e + 1 := ⟨d - 1, by omega⟩
  obtain ⟨N8, e8⟩ : ∃ X, X = ir_sI (ir_sI (ir_sI (ir_sI (ir_sI (ir_sI M 412 4 (nI 0)) 412 7 (nI n)) 412 6 (nI 0)) 412 8 (nI 0)) 412 12 (nI 0)) 412 16 (nI 0) := ⟨_, rfl⟩
  have q8 : q_eq [412] M N8 := by
    rw [e8]
    exact (((((q_eq.sI (by decide)).tr (q_eq.sI (by decide))).tr (q_eq.sI (by decide))).tr (q_eq.sI (by decide))).tr (q_eq.sI (by decide))).tr (q_eq.sI (by decide))
  have p8 := q_PI_eq q8 hp
  have w := r_within (d := e - 1) (a := (nI n).toInt64) (b := 0) (c := (nI tp).toInt64) (M := ir_sI M 412 4 (nI 0))
  rw [show e - 1 + 1 = e by omega, Int32.toInt_toInt64, Int32.toInt_toInt64, nI_toInt (by omega), nI_toInt (by omega), show (0 : Int64).toInt = 0 by decide +kernel, if_pos (by omega)] at w
  obtain ⟨N9, ⟨q9, z9, y9⟩, e9⟩ := r_zero (d := e) p8
  have p9 := q_PI_eq q9 p8
  obtain ⟨N10, e10⟩ : ∃ X, X = ir_sI N9 414 3 (nI 1) := ⟨_, rfl⟩
  have q10 : q_eq [414] N9 N10 := by rw [e10]; exact q_eq.sI (by decide)
  have p10 := q_PI_eq q10 p9
  have i12 : ∀ k, ir_I N10 412 k = ir_I N8 412 k := fun k => by rw [q_I_eq q10 (by decide), q_I_eq q9 (by decide)]
  have qM : q_eq [412, 414] M N10 := ((q8.sub (by decide)).tr (q9.sub (by decide))).tr (q10.sub (by decide))
  have t10 : r_tx B n L xs N10 := by
    refine ⟨p10, by omega, fun k hk => ⟨(hB k hk).1, ?_⟩, ?_, q_X_eq qM (by decide) hx⟩
    · rw [q_I_eq qM (by decide)]; exact (hB k hk).2
    · rw [i12, e8, q_I_k (by decide), q_I_k (by decide), q_I_k (by decide), q_I_k (by decide), q_I_s]
  have h8 : ir_I N10 412 8 = nI 0 := by rw [i12, e8, q_I_k (by decide), q_I_k (by decide), q_I_s]
  obtain ⟨N11, e11, q11, k11, r1, r2, r3, r4⟩ := r_nx (d := e - 3) t10 (p := 0) (Nat.zero_le _) h8 rfl
  rw [show e - 3 + 3 = e by omega] at e11
  have sr := k_sk_r (B := B) (n - 0) 0
  have ss : k_ts B n 0 ≤ n := by
    show k_sk B (n - 0) 0 ≤ n
    omega
  have P11 : r_P B n L xs N8 0 (k_ts B n 0) (k_K0 (ir_I M 414)) N11 := by
    refine ⟨⟨r_tx_eq t10 q11 (by decide) (k11 7 (by decide) (by decide) (by decide) (by decide)), ((q9.sub (by decide)).tr (q10.sub (by decide))).tr (q11.sub (by decide)), fun k hk => ?_, ss, ?_, r1, r3, r2, r4, ?_⟩, fun k => ?_⟩
    · rw [k11 k (by omega) (by omega) (by omega) (by omega)]; exact i12 k
    · rw [k11 12 (by decide) (by decide) (by decide) (by decide), i12, e8, q_I_k (by decide), q_I_s]; rfl
    · rw [k11 16 (by decide) (by decide) (by decide) (by decide), i12, e8, q_I_s]
    · rw [q_I_eq q11 (by decide), e10]
      unfold k_K0
      by_cases c : k = 3
      · rw [if_pos c, c, q_I_s]
      · rw [if_neg c, q_I_k c]
        by_cases c2 : k < 1640
        · rw [if_pos c2]; exact z9 k c2
        · rw [if_neg c2]
          rw [y9 k (by omega)]
          exact q_I_eq q8 (by decide) k
  obtain ⟨M3, r, M4, M7, f3, p3, f4, p4, f7, M9, f9, Q9⟩ := RR N8 N11 e (by omega) P11
  have go : m_X12_well (e + 1) 412 (nI n) M = v_X12_well_128 e 412 M9 := by
    rw [E_X12_well]
    simp (disch := omega) only [q_ckt, q_lt, q_cI, q_cJ, q_cV, q_cP, q_xI, q_xV, q_xP, q_xJ, g_gk, g_ga, g_gw, g_gp, g_gq, g_P, g_J, q_I_s, q_I_n, q_I_k, nI_add, pk_sub, pk_mul, nI_clamp, n_lt0, n_0lt, n_eq0, n_lt, n_le, n_eq, n_m1, n_m2, n_m9, n_12, n_19, n_10, n_01, n_1n1, n_0n1, n_1n0, n_0n0, n_dI, n_m1lt, q_inb, n_nar, n_nar0, n_nar1, n_bool, Bool.false_eq_true, Bool.true_eq_false, if_true, if_false, ↓reduceIte, Nat.reduceAdd, Nat.reduceMul, Nat.reduceSub, Nat.reduceLT, Nat.reduceLeDiff, Nat.reduceEqDiff, Nat.reduceMod, Nat.reduceDiv, q_R hp, h6, w]
    rw [← e8, e9, L_X12_well_52, if_neg (fun z => by have := (nI_ltI (a := 1640) (b := 1640) (by decide) (by decide)).mp z; omega)]
    simp (disch := omega) only [q_ckt, q_lt, q_cI, q_cJ, q_cV, q_cP, q_xI, q_xV, q_xP, q_xJ, g_gk, g_ga, g_gw, g_gp, g_gq, g_P, g_J, q_I_s, q_I_n, q_I_k, nI_add, pk_sub, pk_mul, nI_clamp, n_lt0, n_0lt, n_eq0, n_lt, n_le, n_eq, n_m1, n_m2, n_m9, n_12, n_19, n_10, n_01, n_1n1, n_0n1, n_1n0, n_0n0, n_dI, n_m1lt, q_inb, n_nar, n_nar0, n_nar1, n_bool, Bool.false_eq_true, Bool.true_eq_false, if_true, if_false, ↓reduceIte, Nat.reduceAdd, Nat.reduceMul, Nat.reduceSub, Nat.reduceLT, Nat.reduceLeDiff, Nat.reduceEqDiff, Nat.reduceMod, Nat.reduceDiv, q_R p9]
    rw [← e10]
    simp (disch := omega) only [q_ckt, q_lt, q_cI, q_cJ, q_cV, q_cP, q_xI, q_xV, q_xP, q_xJ, g_gk, g_ga, g_gw, g_gp, g_gq, g_P, g_J, q_I_s, q_I_n, q_I_k, nI_add, pk_sub, pk_mul, nI_clamp, n_lt0, n_0lt, n_eq0, n_lt, n_le, n_eq, n_m1, n_m2, n_m9, n_12, n_19, n_10, n_01, n_1n1, n_0n1, n_1n0, n_0n0, n_dI, n_m1lt, q_inb, n_nar, n_nar0, n_nar1, n_bool, Bool.false_eq_true, Bool.true_eq_false, if_true, if_false, ↓reduceIte, Nat.reduceAdd, Nat.reduceMul, Nat.reduceSub, Nat.reduceLT, Nat.reduceLeDiff, Nat.reduceEqDiff, Nat.reduceMod, Nat.reduceDiv, e11, q_R P11.1.1.1, f3, q_R p3, f4, q_R p4, f7, f9]
  have n4 : ir_I N8 412 4 = nI 0 := by rw [e8, q_I_k (by decide), q_I_k (by decide), q_I_k (by decide), q_I_k (by decide), q_I_k (by decide), q_I_s]
  have n6 : ir_I N8 412 6 = nI 0 := by rw [e8, q_I_k (by decide), q_I_k (by decide), q_I_k (by decide), q_I_s]
  by_cases c : f = 0
  · have P9 := Q9.1 c
    obtain ⟨Ma, ea⟩ : ∃ X, X = ir_sI (ir_sI M9 412 14 0) 412 15 (-1) := ⟨_, rfl⟩
    have qa : q_eq [412] M9 Ma := by rw [ea]; exact (q_eq.sI (by decide)).tr (q_eq.sI (by decide))
    have pa := q_PI_eq qa P9.1.1.1
    obtain ⟨t, ⟨qt, t1, t2⟩, et⟩ := r_copy (d := e) pa
    have k4 : ∀ k, ir_I t 413 k = if k < 1640 then K' k else ir_I M 413 k := fun k => by
      by_cases c2 : k < 1640
      · rw [if_pos c2, t1 k c2, q_I_eq qa (by decide)]; exact P9.2 k
      · rw [if_neg c2, t2 k (by omega), q_I_eq qa (by decide), q_I_eq P9.1.2.1 (by decide), q_I_eq q8 (by decide)]
    refine ⟨t, ?_, (((q8.sub (by decide)).tr (P9.1.2.1.sub (by decide))).tr (qa.sub (by decide))).tr (qt.sub (by decide)), ?_, ?_, ?_, ?_, fun _ => ⟨fun k hk => by rw [k4, if_pos hk], fun k hk => by rw [k4, if_neg (by omega)]⟩, fun z => absurd c z⟩
    · rw [go, L_X12_well_128, if_pos c]
      simp (disch := omega) only [q_ckt, q_lt, q_cI, q_cJ, q_cV, q_cP, q_xI, q_xV, q_xP, q_xJ, g_gk, g_ga, g_gw, g_gp, g_gq, g_P, g_J, q_I_s, q_I_n, q_I_k, nI_add, pk_sub, pk_mul, nI_clamp, n_lt0, n_0lt, n_eq0, n_lt, n_le, n_eq, n_m1, n_m2, n_m9, n_12, n_19, n_10, n_01, n_1n1, n_0n1, n_1n0, n_0n0, n_dI, n_m1lt, q_inb, n_nar, n_nar0, n_nar1, n_bool, Bool.false_eq_true, Bool.true_eq_false, if_true, if_false, ↓reduceIte, Nat.reduceAdd, Nat.reduceMul, Nat.reduceSub, Nat.reduceLT, Nat.reduceLeDiff, Nat.reduceEqDiff, Nat.reduceMod, Nat.reduceDiv, q_R P9.1.1.1, P9.1.2.2.2.2.1]
      rw [L_X12_well_152]
      simp (disch := omega) only [q_ckt, q_lt, q_cI, q_cJ, q_cV, q_cP, q_xI, q_xV, q_xP, q_xJ, g_gk, g_ga, g_gw, g_gp, g_gq, g_P, g_J, q_I_s, q_I_n, q_I_k, nI_add, pk_sub, pk_mul, nI_clamp, n_lt0, n_0lt, n_eq0, n_lt, n_le, n_eq, n_m1, n_m2, n_m9, n_12, n_19, n_10, n_01, n_1n1, n_0n1, n_1n0, n_0n0, n_dI, n_m1lt, q_inb, n_nar, n_nar0, n_nar1, n_bool, Bool.false_eq_true, Bool.true_eq_false, if_true, if_false, ↓reduceIte, Nat.reduceAdd, Nat.reduceMul, Nat.reduceSub, Nat.reduceLT, Nat.reduceLeDiff, Nat.reduceEqDiff, Nat.reduceMod, Nat.reduceDiv, q_R P9.1.1.1, P9.1.2.2.2.2.1]
      rw [← ea, et, k4 0, if_pos (by decide)]
    · rw [q_I_eq qt (by decide), ea, q_I_k (by decide), q_I_k (by decide), P9.1.2.2.1 4 (by decide)]; exact n4
    · rw [q_I_eq qt (by decide), ea, q_I_k (by decide), q_I_k (by decide), P9.1.2.2.1 6 (by decide)]; exact n6
    · rw [q_I_eq qt (by decide), ea, q_I_k (by decide), q_I_s, c]; rfl
    · rw [q_I_eq qt (by decide), ea, q_I_s, if_pos c]
  · have F9 := Q9.2 c
    have z9' := r_F_z F9
    have h12 := F9.2.2.2.1.1
    have h13 := F9.2.2.2.2.1
    obtain ⟨Ma, ea⟩ : ∃ X, X = ir_sI (ir_sI M9 412 14 (nI f)) 412 15 (nI p) := ⟨_, rfl⟩
    have qa : q_eq [412] M9 Ma := by rw [ea]; exact (q_eq.sI (by decide)).tr (q_eq.sI (by decide))
    refine ⟨Ma, ?_, ((q8.sub (by decide)).tr (F9.2.1.sub (by decide))).tr (qa.sub (by decide)), ?_, ?_, ?_, ?_, fun z => absurd z c, fun _ k => ?_⟩
    · rw [go, L_X12_well_128, if_neg c]
      simp (disch := omega) only [q_ckt, q_lt, q_cI, q_cJ, q_cV, q_cP, q_xI, q_xV, q_xP, q_xJ, g_gk, g_ga, g_gw, g_gp, g_gq, g_P, g_J, q_I_s, q_I_n, q_I_k, nI_add, pk_sub, pk_mul, nI_clamp, n_lt0, n_0lt, n_eq0, n_lt, n_le, n_eq, n_m1, n_m2, n_m9, n_12, n_19, n_10, n_01, n_1n1, n_0n1, n_1n0, n_0n0, n_dI, n_m1lt, q_inb, n_nar, n_nar0, n_nar1, n_bool, Bool.false_eq_true, Bool.true_eq_false, if_true, if_false, ↓reduceIte, Nat.reduceAdd, Nat.reduceMul, Nat.reduceSub, Nat.reduceLT, Nat.reduceLeDiff, Nat.reduceEqDiff, Nat.reduceMod, Nat.reduceDiv, q_R F9.1.1, h12, c, h13]
      rw [L_X12_well_152]
      simp (disch := omega) only [q_ckt, q_lt, q_cI, q_cJ, q_cV, q_cP, q_xI, q_xV, q_xP, q_xJ, g_gk, g_ga, g_gw, g_gp, g_gq, g_P, g_J, q_I_s, q_I_n, q_I_k, nI_add, pk_sub, pk_mul, nI_clamp, n_lt0, n_0lt, n_eq0, n_lt, n_le, n_eq, n_m1, n_m2, n_m9, n_12, n_19, n_10, n_01, n_1n1, n_0n1, n_1n0, n_0n0, n_dI, n_m1lt, q_inb, n_nar, n_nar0, n_nar1, n_bool, Bool.false_eq_true, Bool.true_eq_false, if_true, if_false, ↓reduceIte, Nat.reduceAdd, Nat.reduceMul, Nat.reduceSub, Nat.reduceLT, Nat.reduceLeDiff, Nat.reduceEqDiff, Nat.reduceMod, Nat.reduceDiv, q_R F9.1.1, h12, c]
      rw [← ea]
    · rw [ea, q_I_k (by decide), q_I_k (by decide), F9.2.2.1 4 (by decide)]; exact n4
    · rw [ea, q_I_k (by decide), q_I_k (by decide), F9.2.2.1 6 (by decide)]; exact n6
    · rw [ea, q_I_k (by decide), q_I_s]
    · rw [ea, q_I_s, if_neg c]
    · rw [q_I_eq qa (by decide), q_I_eq F9.2.1 (by decide), q_I_eq q8 (by decide)]
end RW
