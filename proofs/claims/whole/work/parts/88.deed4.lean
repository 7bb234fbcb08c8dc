/-! days, ring -/
section D4
variable {L : Nat} {xs : Nat → Int32}
theorem k_day_wf {K : Nat → Int32} (h : k_wf K) : k_wf (k_day K) := k_wf_st h (fun k hk => k_day_o h.1 hk) (k_day_ok h.1).1.2
/-- days in a row: what fell, how things stand -/
def k_dys : Nat → (Nat → Int32) → Int32 × (Nat → Int32)
  | 0, K => (0, K)
  | n + 1, K => ((k_dys n K).1 + k_tot (k_dys n K).2, k_day (k_dys n K).2)
theorem k_dys_wf {K : Nat → Int32} (h : k_wf K) : ∀ n, k_wf (k_dys n K).2
  | 0 => h
  | n + 1 => k_day_wf (k_dys_wf h n)
theorem k_rng60 {x : Int32} {b : Int64} {n : Nat} (hb : b.toInt = (n : Int)) : ((1 : Int64).toInt ≤ x.toInt64.toInt ∧ x.toInt64.toInt ≤ b.toInt) = (1 ≤ x.toInt ∧ x.toInt ≤ (n : Int)) := by
  rw [Int32.toInt_toInt64, hb, show (1 : Int64).toInt = 1 by decide +kernel]
theorem k_one {a : Int32} {n : Nat} (hn : n < 2 ^ 31) (h : 1 ≤ a.toInt ∧ a.toInt ≤ (n : Int)) : ∃ y : Nat, 1 ≤ y ∧ y ≤ n ∧ a = nI y := by
  refine ⟨a.toInt.toNat, by omega, by omega, ?_⟩
  rw [← Int32.toInt_inj, nI_toInt (by omega)]
  omega
theorem k_c1n {a : Int32} : (a < nI 1) = (a.toInt < 1) := by rw [Int32.lt_iff_toInt_lt, nI_toInt (by decide)]; rfl
theorem k_cn {a : Int32} {n : Nat} (hn : n < 2 ^ 31) : (nI n < a) = ((n : Int) < a.toInt) := by rw [Int32.lt_iff_toInt_lt, nI_toInt hn]
theorem S_days (a : Int32) : q_St L xs (q_Iv L xs) (m_L_days 200 1 a 436) (m_X12_days 200 412 a) := by
  refine q_Sd_mk (x := m_X11_days 199 1 a) (fun M => E_L_days 199 1 a 436 M) fun M hp hI => ?_
  have hc := c_I_c hp hI.1
  have hr := c_I_r hp hI.1
  obtain ⟨hwf, hsc⟩ := hI.1
  generalize M.1 413 = K at hc hr hwf hsc ⊢
  have e60 : (60 : Int64).toInt = ((60 : Nat) : Int) := by decide +kernel
  by_cases ha : 1 ≤ a.toInt ∧ a.toInt ≤ ((60 : Nat) : Int)
  · obtain ⟨y, hy1, hy2, rfl⟩ := k_one (by decide) ha
    have w1 := k_kp_wf hwf
    refine Or.inl ⟨(k_dys y (k_kp K)).1, (k_dys y (k_kp K)).2, ?_, k_dys_wf w1 y, ?_⟩
    · obtain ⟨M1, e1, d1, z1, s1⟩ := c_keepDeed (d := 195) hp hwf hsc
      have hp1 := d1.p hp
      have L := q_up (σ := Int32 × ir_M) (V := fun x t => v_X11_days_29 198 1 (nI y) t.1 (nI x) t.2) (N := y) (I := fun x t => t.1 = (k_dys x (k_kp K)).1 ∧ q_dc M1 t.2 ∧ ir_I t.2 121 0 = 0 ∧ c_sc t.2 3 (k_dys x (k_kp K)).2) (K := fun t => ir_oI t.1 t.2) (by
        rintro x ⟨v, t⟩ hx ⟨rfl, ht, hz, hs⟩
        have hpt := ht.p hp1
        have wx := k_dys_wf w1 x
        have ct := c_sc_rl hpt wx.1 hs
        obtain ⟨M2, e2, q2, c2⟩ := c_day (d := 193) ct
        refine ⟨(_, M2), ⟨rfl, ht.tr (q_dc_eq q2 (by decide)), (q_I_eq q2 (by decide) 0).trans hz, c_sc_st wx hs (fun k hk => k_day_o wx.1 hk) (fun a h1 h2 h3 h4 => q2.1 a (by simp only [List.mem_cons, List.not_mem_nil, or_false]; omega)) c2.2.2.2.2⟩, ?_⟩
        rw [L_X11_days_29]
        simp (disch := omega) only [q_ckt, q_lt, q_cI, q_cJ, q_cV, q_cP, q_xI, q_xV, q_xP, q_xJ, g_gk, g_ga, g_gw, g_gp, g_gq, g_P, g_J, q_I_s, q_I_n, q_I_k, nI_add, pk_sub, pk_mul, nI_clamp, n_lt0, n_0lt, n_eq0, n_lt, n_le, n_eq, n_m1, n_m2, n_m9, n_12, n_19, n_10, n_01, n_1n1, n_0n1, n_1n0, n_0n0, n_dI, n_m1lt, q_inb, n_nar, n_nar0, n_nar1, n_bool, Bool.false_eq_true, Bool.true_eq_false, if_true, if_false, ↓reduceIte, Nat.reduceAdd, Nat.reduceMul, Nat.reduceSub, Nat.reduceLT, Nat.reduceLeDiff, Nat.reduceEqDiff, Nat.reduceMod, Nat.reduceDiv, hx, q_W hpt, q_F hpt, e2, k_dys]) (by
        rintro ⟨v, t⟩ ⟨rfl, ht, hz, hs⟩
        rw [L_X11_days_29]
        simp (disch := omega) only [q_ckt, q_lt, q_cI, q_cJ, q_cV, q_cP, q_xI, q_xV, q_xP, q_xJ, g_gk, g_ga, g_gw, g_gp, g_gq, g_P, g_J, q_I_s, q_I_n, q_I_k, nI_add, pk_sub, pk_mul, nI_clamp, n_lt0, n_0lt, n_eq0, n_lt, n_le, n_eq, n_m1, n_m2, n_m9, n_12, n_19, n_10, n_01, n_1n1, n_0n1, n_1n0, n_0n0, n_dI, n_m1lt, q_inb, n_nar, n_nar0, n_nar1, n_bool, Bool.false_eq_true, Bool.true_eq_false, if_true, if_false, ↓reduceIte, Nat.reduceAdd, Nat.reduceMul, Nat.reduceSub, Nat.reduceLT, Nat.reduceLeDiff, Nat.reduceEqDiff, Nat.reduceMod, Nat.reduceDiv, Nat.lt_irrefl]) (i := 0) (t := (0, M1)) (by omega) ⟨rfl, q_dc.rf, z1, s1⟩
      obtain ⟨⟨v, t⟩, ⟨rfl, ht, hz, hs⟩, ee⟩ := L
      refine ⟨t, ?_, d1.tr ht, hz, hs⟩
      rw [E_X11_days 198]
      simp (disch := omega) only [q_ckt, q_lt, q_cI, q_cJ, q_cV, q_cP, q_xI, q_xV, q_xP, q_xJ, g_gk, g_ga, g_gw, g_gp, g_gq, g_P, g_J, q_I_s, q_I_n, q_I_k, nI_add, pk_sub, pk_mul, nI_clamp, n_lt0, n_0lt, n_eq0, n_lt, n_le, n_eq, n_m1, n_m2, n_m9, n_12, n_19, n_10, n_01, n_1n1, n_0n1, n_1n0, n_0n0, n_dI, n_m1lt, q_inb, n_nar, n_nar0, n_nar1, n_bool, Bool.false_eq_true, Bool.true_eq_false, if_true, if_false, ↓reduceIte, Nat.reduceAdd, Nat.reduceMul, Nat.reduceSub, Nat.reduceLT, Nat.reduceLeDiff, Nat.reduceEqDiff, Nat.reduceMod, Nat.reduceDiv, show ¬ y < 1 by omega, show ¬ 60 < y by omega, q_W hp, e1]
      exact ee
    · intro M' hr'
      have h4 := r_4 (v := nI 0) hr'
      obtain ⟨N1, f1, t1, u1⟩ := d_kp (d := 198) h4 hwf
      have L := q_up (σ := Int32 × ir_M) (V := fun x t => v_X12_days_31 199 412 (nI y) t.1 (nI x) t.2) (N := y) (I := fun x t => t.1 = (k_dys x (k_kp K)).1 ∧ q_eq [413, 418, 419, 420] N1 t.2 ∧ r_rl t.2 (k_dys x (k_kp K)).2) (K := fun t => ir_oI t.1 t.2) (by
        rintro x ⟨v, t⟩ hx ⟨rfl, ht, hs⟩
        obtain ⟨M2, e2, q2, c2⟩ := r_day (d := 192) hs
        refine ⟨(_, M2), ⟨rfl, ht.tr q2, c2⟩, ?_⟩
        rw [L_X12_days_31]
        simp (disch := omega) only [q_ckt, q_lt, q_cI, q_cJ, q_cV, q_cP, q_xI, q_xV, q_xP, q_xJ, g_gk, g_ga, g_gw, g_gp, g_gq, g_P, g_J, q_I_s, q_I_n, q_I_k, nI_add, pk_sub, pk_mul, nI_clamp, n_lt0, n_0lt, n_eq0, n_lt, n_le, n_eq, n_m1, n_m2, n_m9, n_12, n_19, n_10, n_01, n_1n1, n_0n1, n_1n0, n_0n0, n_dI, n_m1lt, q_inb, n_nar, n_nar0, n_nar1, n_bool, Bool.false_eq_true, Bool.true_eq_false, if_true, if_false, ↓reduceIte, Nat.reduceAdd, Nat.reduceMul, Nat.reduceSub, Nat.reduceLT, Nat.reduceLeDiff, Nat.reduceEqDiff, Nat.reduceMod, Nat.reduceDiv, hx, q_R hs.1, e2, k_dys]) (by
        rintro ⟨v, t⟩ ⟨rfl, ht, hs⟩
        rw [L_X12_days_31]
        simp (disch := omega) only [q_ckt, q_lt, q_cI, q_cJ, q_cV, q_cP, q_xI, q_xV, q_xP, q_xJ, g_gk, g_ga, g_gw, g_gp, g_gq, g_P, g_J, q_I_s, q_I_n, q_I_k, nI_add, pk_sub, pk_mul, nI_clamp, n_lt0, n_0lt, n_eq0, n_lt, n_le, n_eq, n_m1, n_m2, n_m9, n_12, n_19, n_10, n_01, n_1n1, n_0n1, n_1n0, n_0n0, n_dI, n_m1lt, q_inb, n_nar, n_nar0, n_nar1, n_bool, Bool.false_eq_true, Bool.true_eq_false, if_true, if_false, ↓reduceIte, Nat.reduceAdd, Nat.reduceMul, Nat.reduceSub, Nat.reduceLT, Nat.reduceLeDiff, Nat.reduceEqDiff, Nat.reduceMod, Nat.reduceDiv, Nat.lt_irrefl]) (i := 0) (t := (0, N1)) (by omega) ⟨rfl, q_eq.rf _ _, u1⟩
      obtain ⟨⟨v, t⟩, ⟨rfl, ht, hs⟩, ee⟩ := L
      refine ⟨t, ?_, (q_dr_4 rfl).tr ((q_dr_eq t1 (by decide)).tr (q_dr_eq ht (by decide))), hs.2.2, ?_⟩
      · rw [E_X12_days 199]
        simp (disch := omega) only [q_ckt, q_lt, q_cI, q_cJ, q_cV, q_cP, q_xI, q_xV, q_xP, q_xJ, g_gk, g_ga, g_gw, g_gp, g_gq, g_P, g_J, q_I_s, q_I_n, q_I_k, nI_add, pk_sub, pk_mul, nI_clamp, n_lt0, n_0lt, n_eq0, n_lt, n_le, n_eq, n_m1, n_m2, n_m9, n_12, n_19, n_10, n_01, n_1n1, n_0n1, n_1n0, n_0n0, n_dI, n_m1lt, q_inb, n_nar, n_nar0, n_nar1, n_bool, Bool.false_eq_true, Bool.true_eq_false, if_true, if_false, ↓reduceIte, Nat.reduceAdd, Nat.reduceMul, Nat.reduceSub, Nat.reduceLT, Nat.reduceLeDiff, Nat.reduceEqDiff, Nat.reduceMod, Nat.reduceDiv, q_R hr'.1, r_within, k_rng60 e60, ha, and_self, f1]
        exact ee
      · show ir_I t 412 4 = nI 0
        rw [q_I_eq ht (by decide), q_I_eq t1 (by decide), q_I_s]
  · refine Or.inr (Or.inr ⟨3, 1, by omega, by omega, ?_, fun _ => rfl, fun M' s => ⟨nI 0, _, ?_, (q_st_4 s.1.1 (k := 4) (v := nI 0) rfl).tr (q_st_4 (M := ir_sI M' 412 4 (nI 0)) s.1.1 (k := 4) (v := nI 1) rfl), rfl, q_I_s⟩⟩)
    · rw [E_X11_days 198]
      simp only [k_c1n, k_cn (show 60 < 2 ^ 31 by decide)]
      by_cases q : a.toInt < 1
      · rw [if_pos q]
      · rw [if_neg q, if_pos (by omega)]
    · have hr' := q_st_r s hr
      have h4 := r_4 (v := nI 0) hr'
      rw [E_X12_days 199]
      simp (disch := omega) only [q_ckt, q_lt, q_cI, q_cJ, q_cV, q_cP, q_xI, q_xV, q_xP, q_xJ, g_gk, g_ga, g_gw, g_gp, g_gq, g_P, g_J, q_I_s, q_I_n, q_I_k, nI_add, pk_sub, pk_mul, nI_clamp, n_lt0, n_0lt, n_eq0, n_lt, n_le, n_eq, n_m1, n_m2, n_m9, n_12, n_19, n_10, n_01, n_1n1, n_0n1, n_1n0, n_0n0, n_dI, n_m1lt, q_inb, n_nar, n_nar0, n_nar1, n_bool, Bool.false_eq_true, Bool.true_eq_false, if_true, if_false, ↓reduceIte, Nat.reduceAdd, Nat.reduceMul, Nat.reduceSub, Nat.reduceLT, Nat.reduceLeDiff, Nat.reduceEqDiff, Nat.reduceMod, Nat.reduceDiv, q_R hr'.1, r_within, k_rng60 e60, ha, r_fails h4.1]
/-- the ring turned -/
theorem k_ring_ok {K : Nat → Int32} (hk : k_ok K) {v : Int32} (hv : v = 0 ∨ v = 1) : k_okS (upd K 43 v) := by
  have h : ∀ k, k ≠ 43 → upd K 43 v k = K k := fun k hk => if_neg hk
  have hb := k_bds hk
  have eg : k_g (upd K 43 v) = k_g K := by unfold k_g; rw [h 1 (by omega)]
  have en : k_n (upd K 43 v) = k_n K := by unfold k_n; rw [h 2 (by omega)]
  have ew : k_w (upd K 43 v) = k_w K := by unfold k_w; rw [h 44 (by omega)]
  have em : k_m (upd K 43 v) = k_m K := by unfold k_m; rw [h 9 (by omega)]
  have eq : ∀ i, i < k_m K → k_q (upd K 43 v) i = k_q K i := fun i hi => by unfold k_q; rw [h _ (by omega)]
  have ea : ∀ p, p < k_n K → k_a (upd K 43 v) p = k_a K p := fun p hp => by unfold k_a; rw [h _ (by omega)]
  obtain ⟨s1, s2, s3, s4, s5, s6, s7, s8, s9, s10, s11⟩ := hk.2
  unfold k_okS
  rw [en, ew, em, eg, h 9 (by omega), h 44 (by omega), show upd K 43 v 43 = v from if_pos rfl]
  refine ⟨s1, s2, fun i hi => ?_, fun i hi => ?_, fun i j hi hj e => ?_, fun p hp => ?_, fun p hp => ?_, hv, s9, s10, fun i hi => ?_⟩
  · rw [eq i hi, h _ (by omega)]
    exact s3 i hi
  · rw [eq i hi]
    exact s4 i hi
  · rw [eq i hi, eq j hj] at e
    exact s5 i j hi hj e
  · rw [ea p hp, h _ (by omega)]
    exact s6 p hp
  · rw [ea p hp]
    exact s7 p hp
  · rw [h _ (by omega)]
    unfold k_gd
    rw [eg]
    exact s11 i hi
theorem c_st_ring {M : ir_M} {K : Nat → Int32} {s : Nat} (hk : k_ok K) (hc : c_st M s K) {v : Int32} : c_st (ir_sI M s 2 v) s (upd K 43 v) := by
  have hb := k_bds hk
  have h : ∀ k, k ≠ 43 → upd K 43 v k = K k := fun k hk => if_neg hk
  have en : k_n (upd K 43 v) = k_n K := by unfold k_n; rw [h 2 (by omega)]
  have ew : k_w (upd K 43 v) = k_w K := by unfold k_w; rw [h 44 (by omega)]
  have em : k_m (upd K 43 v) = k_m K := by unfold k_m; rw [h 9 (by omega)]
  obtain ⟨b0, b1, b2, b3, b4, b5, b6, b7, b8⟩ := hc
  unfold c_st
  rw [en, ew, em, h 9 (by omega), h 42 (by omega), h 44 (by omega), show upd K 43 v 43 = v from if_pos rfl]
  refine ⟨?_, ?_, q_I_s, ?_, fun i hi => ?_, fun x hx => ?_, fun x hx => ?_, fun x hx => ?_, fun i hi => ?_⟩
  · rw [q_I_k (by omega)]; exact b0
  · rw [q_I_k (by omega)]; exact b1
  · rw [q_I_k (by omega)]; exact b3
  · rw [q_I_n (by omega), h _ (by omega)]; exact b4 i hi
  · rw [q_I_n (by omega), h _ (by omega)]; exact b5 x hx
  · rw [q_I_n (by omega), h _ (by omega)]; exact b6 x hx
  · rw [q_I_n (by omega), h _ (by omega)]; exact b7 x hx
  · rw [q_I_n (by omega), h _ (by omega)]; exact b8 i hi
theorem S_ring : q_Sp L xs (q_Iv L xs) (m_X11_ring 200 1) (m_X12_ring 200 412) := by
  refine q_Sq_mk fun M hp hI => Or.inl ?_
  have hr := c_I_r hp hI.1
  obtain ⟨hwf, hsc⟩ := hI.1
  generalize M.1 413 = K at hr hwf hsc ⊢
  have w1 := k_kp_wf hwf
  have h43 := w1.1.2.2.2.2.2.2.2.2.1
  obtain ⟨v, hv, hv1⟩ : ∃ v : Nat, v ≤ 1 ∧ ((k_kp K 43 = 0 ∧ v = 1) ∨ (k_kp K 43 = 1 ∧ v = 0)) := by
    rcases h43 with q | q
    · exact ⟨1, by omega, Or.inl ⟨q, rfl⟩⟩
    · exact ⟨0, by omega, Or.inr ⟨q, rfl⟩⟩
  have v01 : nI v = 0 ∨ nI v = 1 := by
    rcases hv1 with ⟨-, rfl⟩ | ⟨-, rfl⟩
    · exact Or.inr rfl
    · exact Or.inl rfl
  have okS := k_ring_ok w1.1 v01
  have o2 : ∀ k, ¬ (9 ≤ k ∧ k < 53) → upd (k_kp K) 43 (nI v) k = k_kp K k := fun k hk => k_upd_n (by omega)
  have w2 := k_wf_st w1 o2 okS
  refine ⟨nI v, upd (k_kp K) 43 (nI v), ?_, w2, ?_⟩
  · obtain ⟨M1, e1, d1, z1, s1⟩ := c_keepDeed (d := 196) hp hwf hsc
    have hp1 := d1.p hp
    have e2 : ir_I M1 12 2 = k_kp K 43 := s1.2.2.1.2.2.1
    refine ⟨ir_sI M1 12 2 (nI v), ?_, d1.tr (q_dc_eq (q_eq.sI (S := [12]) (by decide)) (by decide)), ?_, c_sc_st w1 s1 o2 (fun a h1 h2 h3 h4 => if_neg (by omega)) (c_st_ring w1.1 s1.2.2.1)⟩
    · rw [E_X11_ring 199]
      rcases hv1 with ⟨q, rfl⟩ | ⟨q, rfl⟩
      · simp (disch := omega) only [q_ckt, q_lt, q_cI, q_cJ, q_cV, q_cP, q_xI, q_xV, q_xP, q_xJ, g_gk, g_ga, g_gw, g_gp, g_gq, g_P, g_J, q_I_s, q_I_n, q_I_k, nI_add, pk_sub, pk_mul, nI_clamp, n_lt0, n_0lt, n_eq0, n_lt, n_le, n_eq, n_m1, n_m2, n_m9, n_12, n_19, n_10, n_01, n_1n1, n_0n1, n_1n0, n_0n0, n_dI, n_m1lt, q_inb, n_nar, n_nar0, n_nar1, n_bool, Bool.false_eq_true, Bool.true_eq_false, if_true, if_false, ↓reduceIte, Nat.reduceAdd, Nat.reduceMul, Nat.reduceSub, Nat.reduceLT, Nat.reduceLeDiff, Nat.reduceEqDiff, Nat.reduceMod, Nat.reduceDiv, q_W hp, e1, q_W hp1, q_S hp1 (a := 12) (by decide), e2, q, L_X11_ring_23, n_isB _ v01, Bool.and_self]
      · simp (disch := omega) only [q_ckt, q_lt, q_cI, q_cJ, q_cV, q_cP, q_xI, q_xV, q_xP, q_xJ, g_gk, g_ga, g_gw, g_gp, g_gq, g_P, g_J, q_I_s, q_I_n, q_I_k, nI_add, pk_sub, pk_mul, nI_clamp, n_lt0, n_0lt, n_eq0, n_lt, n_le, n_eq, n_m1, n_m2, n_m9, n_12, n_19, n_10, n_01, n_1n1, n_0n1, n_1n0, n_0n0, n_dI, n_m1lt, q_inb, n_nar, n_nar0, n_nar1, n_bool, Bool.false_eq_true, Bool.true_eq_false, if_true, if_false, ↓reduceIte, Nat.reduceAdd, Nat.reduceMul, Nat.reduceSub, Nat.reduceLT, Nat.reduceLeDiff, Nat.reduceEqDiff, Nat.reduceMod, Nat.reduceDiv, q_W hp, e1, q_W hp1, q_S hp1 (a := 12) (by decide), e2, q, L_X11_ring_23, n_isB _ v01, Bool.and_self]
    · rw [q_I_n (by decide)]
      exact z1
  · intro M' hr'
    have h4 := r_4 (v := nI 0) hr'
    obtain ⟨N1, f1, t1, u1⟩ := d_kp (d := 198) h4 hwf
    have ev : nI 1 - k_kp K 43 = nI v := by
      rcases hv1 with ⟨q, rfl⟩ | ⟨q, rfl⟩
      · rw [q]; decide +kernel
      · rw [q]; decide +kernel
    refine ⟨ir_sI N1 413 43 (nI v), ?_, (q_dr_4 rfl).tr ((q_dr_eq t1 (by decide)).tr (q_dr_eq (q_eq.sI (S := [413]) (by decide)) (by decide))), fun k => by rw [q_I_u, u1.2.2]; rfl, ?_⟩
    · rw [E_X12_ring 199]
      simp (disch := omega) only [q_ckt, q_lt, q_cI, q_cJ, q_cV, q_cP, q_xI, q_xV, q_xP, q_xJ, g_gk, g_ga, g_gw, g_gp, g_gq, g_P, g_J, q_I_s, q_I_n, q_I_k, nI_add, pk_sub, pk_mul, nI_clamp, n_lt0, n_0lt, n_eq0, n_lt, n_le, n_eq, n_m1, n_m2, n_m9, n_12, n_19, n_10, n_01, n_1n1, n_0n1, n_1n0, n_0n0, n_dI, n_m1lt, q_inb, n_nar, n_nar0, n_nar1, n_bool, Bool.false_eq_true, Bool.true_eq_false, if_true, if_false, ↓reduceIte, Nat.reduceAdd, Nat.reduceMul, Nat.reduceSub, Nat.reduceLT, Nat.reduceLeDiff, Nat.reduceEqDiff, Nat.reduceMod, Nat.reduceDiv, q_R hr'.1, f1, q_R u1.1, u1.2.2, ev]
    · rw [q_I_n (by decide), q_I_eq t1 (by decide), q_I_s]
end D4
