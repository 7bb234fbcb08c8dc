/-! perform, season -/
theorem k_wy_kp {K : Nat → Int32} (hk : k_ok K) {v : Int64} : k_wy (k_kp K) v = k_wy K v := by
  obtain ⟨a, b, c⟩ := k_kp_n (K := K)
  unfold k_wy k_wx
  rw [a, b, c, k_kp_pl hk]
def k_pi (K : Nat → Int32) (T : Nat → Int64) : Nat → (Nat → Int32)
  | 0 => K
  | i + 1 => (k_mk (k_kp (k_pi K T i)) (T i)).2
def k_px (K : Nat → Int32) (T : Nat → Int64) : Nat → Nat → Nat
  | 0, i => i
  | r + 1, i => if k_wy (k_pi K T i) (T i) = 0 then k_px K T r (i + 1) else i
theorem k_px_le {K : Nat → Int32} {T : Nat → Int64} : ∀ (r i : Nat), i ≤ k_px K T r i ∧ k_px K T r i ≤ i + r
  | 0, i => ⟨Nat.le_refl _, Nat.le_refl _⟩
  | r + 1, i => by
    unfold k_px
    by_cases q : k_wy (k_pi K T i) (T i) = 0
    · rw [if_pos q]
      obtain ⟨a, b⟩ := k_px_le (K := K) (T := T) r (i + 1)
      exact ⟨by omega, by omega⟩
    · rw [if_neg q]
      exact ⟨by omega, by omega⟩
/-- a deed done, with what the trays say -/
def d_rv (g : ir_M → ir_R) (M : ir_M) (K : Nat → Int32) (v : Int32) (K' : Nat → Int32) : Prop := ∀ M', r_rl M' K → q_v2 M M' → ∃ M2, g M' = ir_oI v M2 ∧ q_dr M' M2 ∧ (∀ k, ir_I M2 413 k = K' k) ∧ ir_I M2 412 4 = nI 0
section SE
variable {L : Nat} {xs : Nat → Int32} {f g x : ir_M → ir_R} {hd : Nat → ir_M → ir_R}
theorem q_v2.tr {A B C : ir_M} (h : q_v2 A B) (g : q_v2 B C) : q_v2 A C := ⟨fun a k ha => (g.1 a k ha).trans (h.1 a k ha), fun a ha => (g.2 a ha).trans (h.2 a ha)⟩
theorem q_Se_mk (hw : c_W f x hd) (h : ∀ M, q_PI M → c_I M → (∃ v K', d_c x M v K' ∧ k_wf K' ∧ d_rv g M (M.1 413) v K') ∨ (∃ v, c_ans x M v ∧ ∀ M', q_st 0 M M' → r_ans g M' v 0) ∨ (∃ e k, 0 < k ∧ k < 9 ∧ x M = ir_oX e (ir_th M) ∧ (∀ M, hd e M = ir_oI (nI k) M) ∧ ∀ M', q_st 1 M M' → ∃ b, r_ans g M' b k)) : q_St L xs (q_Iv L xs) f g := by
  intro j M hI
  have hp := hI.1
  rcases h M hp hI.2.2.2.2 with ⟨v, K', ⟨M1, e1, d1, h0, hs⟩, hwf, hr⟩ | h'
  · have hp1 := d1.p hp
    have hJ := q_st_J hp1 (k := 0) (v := v.toInt64)
    have hk : ∀ k, ir_I (ir_sJ M1 436 0 v.toInt64) 413 k = M.1 413 k := fun k => congrFun (d1.1 413 rfl) k
    obtain ⟨M2, e2, d2, hK, h4⟩ := hr (ir_sJ M1 436 0 v.toInt64) ⟨hp1, hI.2.2.2.2.1.1.1, hk⟩ (d1.v2.tr hJ.2.2.1)
    have gX := q_Iv_X hI ((d1.go hp).tr hJ.1)
    refine ⟨nI 0, ir_sJ M1 436 0 v.toInt64, v, M2, ?_, gX.1, gX.2, e2, h4, fun _ => ?_, q_Iv_d hI d1 h0 hs hwf hJ d2 hK⟩
    · rw [hw M, e1]
      simp (disch := omega) only [q_ckt, q_lt, q_cI, q_cJ, q_cV, q_cP, q_xI, q_xV, q_xP, q_xJ, g_gk, g_ga, g_gw, g_gp, g_gq, g_P, g_J, q_I_s, q_I_n, q_I_k, nI_add, pk_sub, pk_mul, nI_clamp, n_lt0, n_0lt, n_eq0, n_lt, n_le, n_eq, n_m1, n_m2, n_m9, n_12, n_19, n_10, n_01, n_1n1, n_0n1, n_1n0, n_0n0, n_dI, n_m1lt, q_inb, n_nar, n_nar0, n_nar1, n_bool, Bool.false_eq_true, Bool.true_eq_false, if_true, if_false, ↓reduceIte, Nat.reduceAdd, Nat.reduceMul, Nat.reduceSub, Nat.reduceLT, Nat.reduceLeDiff, Nat.reduceEqDiff, Nat.reduceMod, Nat.reduceDiv, q_W hp, q_bI1, q_R hp1]
    · rw [d2.2.2]
      show (if 436 = 436 then vp_updL (M1.2.1 436) 0 v.toInt64 else M1.2.1 436) 0 = v.toInt64
      rw [if_pos rfl]
      exact pk_uLs
  · exact q_St_1 hw h' hI
theorem r_tt_v2 {M M' : ir_M} {i mn : Nat} {T : Nat → Int64} (h : r_tt M i mn T) (he : q_v2 M M') : r_tt M' i mn T := by
  obtain ⟨h1, h2, h3, h4⟩ := h
  refine ⟨h1, h2, (he.1 434 i rfl).trans h3, fun k hk => ?_⟩
  rw [← h4 k hk]
  exact congrFun (he.2 435 rfl) _
end SE
section PF
variable {d : Nat}
/-- one told deed is kept and made -/
theorem c_kmk {M : ir_M} {K : Nat → Int32} (hw : k_wf K) (hp : q_PI M) (hs : c_sc M 3 K) {v : Int64} (hv : k_wy K v = 0) : ∃ M1 M2, m_X11_keepDeed (d + 6) 1 M = ir_oV M1 ∧ q_dc M M1 ∧ m_X11_make (d + 6) 1 v.toInt32 12 M1 = ir_oI (k_mk (k_kp K) v).1 M2 ∧ q_dc M M2 ∧ M2.1 1 = M.1 1 ∧ ir_I M2 121 0 = 0 ∧ c_sc M2 3 (k_mk (k_kp K) v).2 ∧ k_wf (k_mk (k_kp K) v).2 := by
  have w1 := k_kp_wf hw
  have hv1 : k_wy (k_kp K) v = 0 := by rw [k_wy_kp hw.1]; exact hv
  obtain ⟨M1, e1, d1, o1, z1, s1⟩ := c_keepDeed0 (d := d + 3) hp hw hs
  have c1 := c_sc_rl (d1.p hp) w1.1 s1
  obtain ⟨M2, e2, q2, c2⟩ := c_mk (d := d) c1 hv1
  refine ⟨M1, M2, e1, d1, e2, d1.tr (q_dc_eq q2 (by decide)), (q2.1 1 (by decide)).trans o1, ?_, c_sc_st w1 s1 (k_mk_o w1.1 hv1).1 (fun a h1 h2 h3 h4 => q2.1 a (by simp only [List.mem_cons, List.not_mem_nil, or_false]; omega)) c2.2.2.2.2, k_mk_wf w1 hv1⟩
  rw [q_I_eq q2 (by decide)]
  exact z1
theorem r_kmk {M : ir_M} {K : Nat → Int32} (hw : k_wf K) (h : r_rl M K) {v : Int64} (hv : k_wy K v = 0) : ∃ M1 M2, m_X12_keeps (d + 8) 412 M = ir_oV M1 ∧ q_eq [413] M M1 ∧ m_X12_does (d + 8) 412 v.toInt32 M1 = ir_oI (k_mk (k_kp K) v).1 M2 ∧ q_eq [413, 418, 419, 420] M M2 ∧ r_rl M2 (k_mk (k_kp K) v).2 := by
  have hv1 : k_wy (k_kp K) v = 0 := by rw [k_wy_kp hw.1]; exact hv
  obtain ⟨M1, e1, q1, r1⟩ := d_kp (d := d + 7) h hw
  obtain ⟨M2, e2, q2, r2⟩ := r_mk (d := d) r1 hv1
  exact ⟨M1, M2, e1, q1, e2, (q1.sub (by decide)).tr q2, r2⟩
theorem c_pf {K : Nat → Int32} {T : Nat → Int64} {t mn : Nat} : ∀ (r i : Nat) {M : ir_M}, k_wf (k_pi K T i) → q_PI M → c_sc M 3 (k_pi K T i) → c_tt M t mn T → i + r = mn → ∃ M', v_X11_perform_8 (d + 6) 1 (404 + 2 * t) (nI i) M = ir_oI (nI (k_px K T r i)) M' ∧ q_dc M M' ∧ c_sc M' 3 (k_pi K T (k_px K T r i)) ∧ k_wf (k_pi K T (k_px K T r i)) ∧ (ir_I M 121 0 = 0 → ir_I M' 121 0 = 0) ∧ (i < k_px K T r i → ir_I M' 121 0 = 0) ∧ (k_px K T r i = i → M' = M)
  | 0, i, M, hw, hp, hs, ht, hi => by
    refine ⟨M, ?_, q_dc.rf, hs, hw, fun q => q, fun q => absurd q (Nat.lt_irrefl _), fun _ => rfl⟩
    rw [L_X11_perform_8]
    have := ht.2.1
    simp (disch := omega) only [q_ckt, q_lt, q_cI, q_cJ, q_cV, q_cP, q_xI, q_xV, q_xP, q_xJ, g_gk, g_ga, g_gw, g_gp, g_gq, g_P, g_J, q_I_s, q_I_n, q_I_k, nI_add, pk_sub, pk_mul, nI_clamp, n_lt0, n_0lt, n_eq0, n_lt, n_le, n_eq, n_m1, n_m2, n_m9, n_12, n_19, n_10, n_01, n_1n1, n_0n1, n_1n0, n_0n0, n_dI, n_m1lt, q_inb, n_nar, n_nar0, n_nar1, n_bool, Bool.false_eq_true, Bool.true_eq_false, if_true, if_false, ↓reduceIte, Nat.reduceAdd, Nat.reduceMul, Nat.reduceSub, Nat.reduceLT, Nat.reduceLeDiff, Nat.reduceEqDiff, Nat.reduceMod, Nat.reduceDiv, q_Yt hp ht.1, ht.2.2.2.1, show ¬ i < mn by omega, k_px]
  | r + 1, i, M, hw, hp, hs, ht, hi => by
    have h30 := ht.2.1
    have hc := c_sc_rl hp hw.1 hs
    have na := c_na (d := d + 5) hp ht.1 ht.2.2.2.1 h30 (show i < mn by omega)
    rw [ht.2.2.2.2 i (by omega)] at na
    have wy := c_why (d := d + 4) hc (T i)
    unfold k_px
    by_cases q : k_wy (k_pi K T i) (T i) = 0
    · rw [if_pos q]
      obtain ⟨M1, M2, e1, d1, e2, d2, -, z2, s2, w2⟩ := c_kmk (d := d) hw hp hs q
      have ht1 := c_tt_dc ht d1
      have p1 := d1.p hp
      have na1 := c_na (d := d + 5) p1 ht1.1 ht1.2.2.2.1 h30 (show i < mn by omega)
      rw [ht1.2.2.2.2 i (by omega)] at na1
      obtain ⟨M3, e3, d3, s3, w3, z3, -, -⟩ := c_pf r (i + 1) (M := M2) w2 (d2.p hp) s2 (c_tt_dc ht d2) (by omega)
      have le := (k_px_le (K := K) (T := T) r (i + 1)).1
      refine ⟨M3, ?_, d2.tr d3, s3, w3, fun _ => z3 z2, fun _ => z3 z2, fun w => absurd w (by omega)⟩
      rw [q] at wy
      rw [L_X11_perform_8]
      simp (disch := omega) only [q_ckt, q_lt, q_cI, q_cJ, q_cV, q_cP, q_xI, q_xV, q_xP, q_xJ, g_gk, g_ga, g_gw, g_gp, g_gq, g_P, g_J, q_I_s, q_I_n, q_I_k, nI_add, pk_sub, pk_mul, nI_clamp, n_lt0, n_0lt, n_eq0, n_lt, n_le, n_eq, n_m1, n_m2, n_m9, n_12, n_19, n_10, n_01, n_1n1, n_0n1, n_1n0, n_0n0, n_dI, n_m1lt, q_inb, n_nar, n_nar0, n_nar1, n_bool, Bool.false_eq_true, Bool.true_eq_false, if_true, if_false, ↓reduceIte, Nat.reduceAdd, Nat.reduceMul, Nat.reduceSub, Nat.reduceLT, Nat.reduceLeDiff, Nat.reduceEqDiff, Nat.reduceMod, Nat.reduceDiv, q_Yt hp ht.1, ht.2.2.2.1, show i < mn by omega, na, q_W hp, wy, e1, q_Yt p1 ht.1, na1, q_W p1, e2]
      exact e3
    · rw [if_neg q]
      have := k_wy_le (K := k_pi K T i) (v := T i)
      refine ⟨M, ?_, q_dc.rf, hs, hw, fun q => q, fun q => absurd q (Nat.lt_irrefl _), fun _ => rfl⟩
      rw [L_X11_perform_8]
      simp (disch := omega) only [q_ckt, q_lt, q_cI, q_cJ, q_cV, q_cP, q_xI, q_xV, q_xP, q_xJ, g_gk, g_ga, g_gw, g_gp, g_gq, g_P, g_J, q_I_s, q_I_n, q_I_k, nI_add, pk_sub, pk_mul, nI_clamp, n_lt0, n_0lt, n_eq0, n_lt, n_le, n_eq, n_m1, n_m2, n_m9, n_12, n_19, n_10, n_01, n_1n1, n_0n1, n_1n0, n_0n0, n_dI, n_m1lt, q_inb, n_nar, n_nar0, n_nar1, n_bool, Bool.false_eq_true, Bool.true_eq_false, if_true, if_false, ↓reduceIte, Nat.reduceAdd, Nat.reduceMul, Nat.reduceSub, Nat.reduceLT, Nat.reduceLeDiff, Nat.reduceEqDiff, Nat.reduceMod, Nat.reduceDiv, q_Yt hp ht.1, ht.2.2.2.1, show i < mn by omega, na, q_W hp, wy, q]
theorem r_pf {K : Nat → Int32} {T : Nat → Int64} {t mn : Nat} : ∀ (r i : Nat) {M : ir_M}, k_wf (k_pi K T i) → r_rl M (k_pi K T i) → r_tt M t mn T → i + r = mn → ∃ M', v_X12_perform_20 (d + 8) 412 (nI t) (nI i) M = ir_oI (nI (k_px K T r i)) M' ∧ q_eq [413, 418, 419, 420] M M' ∧ r_rl M' (k_pi K T (k_px K T r i)) ∧ (k_px K T r i = i → M' = M)
  | 0, i, M, hw, h, ht, hi => by
    refine ⟨M, ?_, q_eq.rf _ _, h, fun _ => rfl⟩
    have := ht.1
    have := ht.2.1
    rw [L_X12_perform_20]
    simp (disch := omega) only [q_ckt, q_lt, q_cI, q_cJ, q_cV, q_cP, q_xI, q_xV, q_xP, q_xJ, g_gk, g_ga, g_gw, g_gp, g_gq, g_P, g_J, q_I_s, q_I_n, q_I_k, nI_add, pk_sub, pk_mul, nI_clamp, n_lt0, n_0lt, n_eq0, n_lt, n_le, n_eq, n_m1, n_m2, n_m9, n_12, n_19, n_10, n_01, n_1n1, n_0n1, n_1n0, n_0n0, n_dI, n_m1lt, q_inb, n_nar, n_nar0, n_nar1, n_bool, Bool.false_eq_true, Bool.true_eq_false, if_true, if_false, ↓reduceIte, Nat.reduceAdd, Nat.reduceMul, Nat.reduceSub, Nat.reduceLT, Nat.reduceLeDiff, Nat.reduceEqDiff, Nat.reduceMod, Nat.reduceDiv, q_R h.1, ht.2.2.1, show ¬ i < mn by omega, k_px]
  | r + 1, i, M, hw, h, ht, hi => by
    have h4 := ht.1
    have h30 := ht.2.1
    have na := ht.2.2.2 i (by omega)
    have wy := r_why (d := d + 5) h (T i)
    unfold k_px
    by_cases q : k_wy (k_pi K T i) (T i) = 0
    · rw [if_pos q]
      obtain ⟨M1, M2, e1, q1, e2, q2, r2⟩ := r_kmk (d := d) hw h q
      have p1 := q_PI_eq q1 h.1
      have na1 := (r_tt_eq ht q1 (by decide)).2.2.2 i (by omega)
      have w2 : k_wf (k_pi K T (i + 1)) := k_mk_wf (k_kp_wf hw) (by rw [k_wy_kp hw.1]; exact q)
      obtain ⟨M3, e3, q3, r3, -⟩ := r_pf r (i + 1) (M := M2) w2 r2 (r_tt_eq ht q2 (by decide)) (by omega)
      have le := (k_px_le (K := K) (T := T) r (i + 1)).1
      refine ⟨M3, ?_, q2.tr q3, r3, fun w => absurd w (by omega)⟩
      rw [q] at wy
      rw [L_X12_perform_20]
      simp (disch := omega) only [q_ckt, q_lt, q_cI, q_cJ, q_cV, q_cP, q_xI, q_xV, q_xP, q_xJ, g_gk, g_ga, g_gw, g_gp, g_gq, g_P, g_J, q_I_s, q_I_n, q_I_k, nI_add, pk_sub, pk_mul, nI_clamp, n_lt0, n_0lt, n_eq0, n_lt, n_le, n_eq, n_m1, n_m2, n_m9, n_12, n_19, n_10, n_01, n_1n1, n_0n1, n_1n0, n_0n0, n_dI, n_m1lt, q_inb, n_nar, n_nar0, n_nar1, n_bool, Bool.false_eq_true, Bool.true_eq_false, if_true, if_false, ↓reduceIte, Nat.reduceAdd, Nat.reduceMul, Nat.reduceSub, Nat.reduceLT, Nat.reduceLeDiff, Nat.reduceEqDiff, Nat.reduceMod, Nat.reduceDiv, q_R h.1, ht.2.2.1, show i < mn by omega, na, wy, e1, q_R p1, na1, e2]
      exact e3
    · rw [if_neg q]
      have := k_wy_le (K := k_pi K T i) (v := T i)
      refine ⟨M, ?_, q_eq.rf _ _, h, fun _ => rfl⟩
      rw [L_X12_perform_20]
      simp (disch := omega) only [q_ckt, q_lt, q_cI, q_cJ, q_cV, q_cP, q_xI, q_xV, q_xP, q_xJ, g_gk, g_ga, g_gw, g_gp, g_gq, g_P, g_J, q_I_s, q_I_n, q_I_k, nI_add, pk_sub, pk_mul, nI_clamp, n_lt0, n_0lt, n_eq0, n_lt, n_le, n_eq, n_m1, n_m2, n_m9, n_12, n_19, n_10, n_01, n_1n1, n_0n1, n_1n0, n_0n0, n_dI, n_m1lt, q_inb, n_nar, n_nar0, n_nar1, n_bool, Bool.false_eq_true, Bool.true_eq_false, if_true, if_false, ↓reduceIte, Nat.reduceAdd, Nat.reduceMul, Nat.reduceSub, Nat.reduceLT, Nat.reduceLeDiff, Nat.reduceEqDiff, Nat.reduceMod, Nat.reduceDiv, q_R h.1, ht.2.2.1, show i < mn by omega, na, wy, q]
end PF
section PS
variable {L : Nat} {xs : Nat → Int32}
theorem S_perform (a : Int32) : q_St L xs (q_Iv L xs) (m_L_perform 200 1 a 436) (m_X12_perform 200 412 a) := by
  refine q_Se_mk (x := m_X11_perform 199 1 a) (fun M => E_L_perform 199 1 a 436 M) fun M hp hI => ?_
  have hr := c_I_r hp hI.1
  have hty := hI.2.1.2.1
  obtain ⟨hwf, hsc⟩ := hI.1
  generalize M.1 413 = K at hr hwf hsc ⊢
  by_cases ha : k_rng a 4
  · obtain ⟨t, ht4, rfl⟩ := k_rng_of ha (by decide)
    rcases c_ty_use ht4 (hty t ht4) with ⟨m1, m2⟩ | ⟨so, mn, T, hso, s1, s2, ct, rt⟩
    · refine Or.inr (Or.inr ⟨2, 2, by omega, by omega, ?_, fun _ => rfl, fun M' s => ⟨nI 0, _, ?_, q_st_4 s.1.1 (k := 4) (v := nI 2) rfl, rfl, q_I_s⟩⟩)
      · rw [E_X11_perform 198]
        simp (disch := omega) only [q_ckt, q_lt, q_cI, q_cJ, q_cV, q_cP, q_xI, q_xV, q_xP, q_xJ, g_gk, g_ga, g_gw, g_gp, g_gq, g_P, g_J, q_I_s, q_I_n, q_I_k, nI_add, pk_sub, pk_mul, nI_clamp, n_lt0, n_0lt, n_eq0, n_lt, n_le, n_eq, n_m1, n_m2, n_m9, n_12, n_19, n_10, n_01, n_1n1, n_0n1, n_1n0, n_0n0, n_dI, n_m1lt, q_inb, n_nar, n_nar0, n_nar1, n_bool, Bool.false_eq_true, Bool.true_eq_false, if_true, if_false, ↓reduceIte, Nat.reduceAdd, Nat.reduceMul, Nat.reduceSub, Nat.reduceLT, Nat.reduceLeDiff, Nat.reduceEqDiff, Nat.reduceMod, Nat.reduceDiv, q_W hp, c_nt1 hp ht4 m1]
      · have hr' := q_st_r s hr
        rw [E_X12_perform 199]
        simp (disch := omega) only [q_ckt, q_lt, q_cI, q_cJ, q_cV, q_cP, q_xI, q_xV, q_xP, q_xJ, g_gk, g_ga, g_gw, g_gp, g_gq, g_P, g_J, q_I_s, q_I_n, q_I_k, nI_add, pk_sub, pk_mul, nI_clamp, n_lt0, n_0lt, n_eq0, n_lt, n_le, n_eq, n_m1, n_m2, n_m9, n_12, n_19, n_10, n_01, n_1n1, n_0n1, n_1n0, n_0n0, n_dI, n_m1lt, q_inb, n_nar, n_nar0, n_nar1, n_bool, Bool.false_eq_true, Bool.true_eq_false, if_true, if_false, ↓reduceIte, Nat.reduceAdd, Nat.reduceMul, Nat.reduceSub, Nat.reduceLT, Nat.reduceLeDiff, Nat.reduceEqDiff, Nat.reduceMod, Nat.reduceDiv, q_R hr'.1, r_tf1 hr'.1 ht4 ((s.2.2.1.1 433 t rfl).trans m2)]
    · have nt := c_nt2 (d := 196) hp ht4 ct.2.2.1
      obtain ⟨M1, e1, d1, sc1, w1, -, z1, i1⟩ := c_pf (d := 192) (K := K) (T := T) (t := t) (mn := mn) mn 0 (M := M) hwf hp hsc ct (by omega)
      have ec : m_X11_perform 199 1 (nI t) M = ir_oI (nI (k_px K T mn 0)) M1 := by
        rw [E_X11_perform 198]
        simp (disch := omega) only [q_ckt, q_lt, q_cI, q_cJ, q_cV, q_cP, q_xI, q_xV, q_xP, q_xJ, g_gk, g_ga, g_gw, g_gp, g_gq, g_P, g_J, q_I_s, q_I_n, q_I_k, nI_add, pk_sub, pk_mul, nI_clamp, n_lt0, n_0lt, n_eq0, n_lt, n_le, n_eq, n_m1, n_m2, n_m9, n_12, n_19, n_10, n_01, n_1n1, n_0n1, n_1n0, n_0n0, n_dI, n_m1lt, q_inb, n_nar, n_nar0, n_nar1, n_bool, Bool.false_eq_true, Bool.true_eq_false, if_true, if_false, ↓reduceIte, Nat.reduceAdd, Nat.reduceMul, Nat.reduceSub, Nat.reduceLT, Nat.reduceLeDiff, Nat.reduceEqDiff, Nat.reduceMod, Nat.reduceDiv, q_W hp, nt]
        exact e1
      have rr : ∀ M', r_rl M' K → r_tt M' t mn T → ir_I M' 433 t = nI so → ∃ M2, m_X12_perform 200 412 (nI t) M' = ir_oI (nI (k_px K T mn 0)) M2 ∧ q_eq [413, 418, 419, 420] (ir_sI M' 412 4 (nI 0)) M2 ∧ r_rl M2 (k_pi K T (k_px K T mn 0)) ∧ (k_px K T mn 0 = 0 → M2 = ir_sI M' 412 4 (nI 0)) := fun M' hr' rt' s2' => by
        have h4 := r_4 (v := nI 0) hr'
        have rt4 : r_tt (ir_sI M' 412 4 (nI 0)) t mn T := r_tt_st rt' (q_st_4 hr'.1 (k := 4) (v := nI 0) rfl)
        obtain ⟨M2, e2, q2, r2, i2⟩ := r_pf (d := 191) (K := K) (T := T) (t := t) (mn := mn) mn 0 hwf h4 rt4 (by omega)
        refine ⟨M2, ?_, q2, r2, i2⟩
        rw [E_X12_perform 199]
        simp (disch := omega) only [q_ckt, q_lt, q_cI, q_cJ, q_cV, q_cP, q_xI, q_xV, q_xP, q_xJ, g_gk, g_ga, g_gw, g_gp, g_gq, g_P, g_J, q_I_s, q_I_n, q_I_k, nI_add, pk_sub, pk_mul, nI_clamp, n_lt0, n_0lt, n_eq0, n_lt, n_le, n_eq, n_m1, n_m2, n_m9, n_12, n_19, n_10, n_01, n_1n1, n_0n1, n_1n0, n_0n0, n_dI, n_m1lt, q_inb, n_nar, n_nar0, n_nar1, n_bool, Bool.false_eq_true, Bool.true_eq_false, if_true, if_false, ↓reduceIte, Nat.reduceAdd, Nat.reduceMul, Nat.reduceSub, Nat.reduceLT, Nat.reduceLeDiff, Nat.reduceEqDiff, Nat.reduceMod, Nat.reduceDiv, q_R hr'.1, r_tf2 hr'.1 ht4 hso s2']
        exact e2
      by_cases q0 : k_px K T mn 0 = 0
      · refine Or.inr (Or.inl ⟨nI (k_px K T mn 0), ⟨M1, ec, by rw [i1 q0]; exact q_st.rf hp⟩, fun M' s => ?_⟩)
        have hr' := q_st_r s hr
        obtain ⟨M2, e2, q2, r2, i2⟩ := rr M' hr' (r_tt_st rt s) ((s.2.2.1.1 433 t rfl).trans s2)
        have i2' := i2 q0
        refine ⟨M2, e2, by rw [i2']; exact q_st_4 hr'.1 rfl, by rw [i2']; rfl, by rw [i2']; exact q_I_s⟩
      · refine Or.inl ⟨nI (k_px K T mn 0), k_pi K T (k_px K T mn 0), ⟨M1, ec, d1, z1 (by omega), sc1⟩, w1, ?_⟩
        intro M' hr' v2
        obtain ⟨M2, e2, q2, r2, -⟩ := rr M' hr' (r_tt_v2 rt v2) ((v2.1 433 t rfl).trans s2)
        exact ⟨M2, e2, (q_dr_4 rfl).tr (q_dr_eq q2 (by decide)), r2.2.2, (q_I_eq q2 (by decide) 4).trans q_I_s⟩
  · refine Or.inr (Or.inr ⟨1, 1, by omega, by omega, ?_, fun _ => rfl, fun M' s => ⟨nI 0, _, ?_, q_st_4 s.1.1 (k := 4) (v := nI 1) rfl, rfl, q_I_s⟩⟩)
    · rw [E_X11_perform 198]
      simp (disch := omega) only [q_ckt, q_lt, q_cI, q_cJ, q_cV, q_cP, q_xI, q_xV, q_xP, q_xJ, g_gk, g_ga, g_gw, g_gp, g_gq, g_P, g_J, q_I_s, q_I_n, q_I_k, nI_add, pk_sub, pk_mul, nI_clamp, n_lt0, n_0lt, n_eq0, n_lt, n_le, n_eq, n_m1, n_m2, n_m9, n_12, n_19, n_10, n_01, n_1n1, n_0n1, n_1n0, n_0n0, n_dI, n_m1lt, q_inb, n_nar, n_nar0, n_nar1, n_bool, Bool.false_eq_true, Bool.true_eq_false, if_true, if_false, ↓reduceIte, Nat.reduceAdd, Nat.reduceMul, Nat.reduceSub, Nat.reduceLT, Nat.reduceLeDiff, Nat.reduceEqDiff, Nat.reduceMod, Nat.reduceDiv, q_W hp, c_nt0 hp ha]
    · have hr' := q_st_r s hr
      rw [E_X12_perform 199]
      simp (disch := omega) only [q_ckt, q_lt, q_cI, q_cJ, q_cV, q_cP, q_xI, q_xV, q_xP, q_xJ, g_gk, g_ga, g_gw, g_gp, g_gq, g_P, g_J, q_I_s, q_I_n, q_I_k, nI_add, pk_sub, pk_mul, nI_clamp, n_lt0, n_0lt, n_eq0, n_lt, n_le, n_eq, n_m1, n_m2, n_m9, n_12, n_19, n_10, n_01, n_1n1, n_0n1, n_1n0, n_0n0, n_dI, n_m1lt, q_inb, n_nar, n_nar0, n_nar1, n_bool, Bool.false_eq_true, Bool.true_eq_false, if_true, if_false, ↓reduceIte, Nat.reduceAdd, Nat.reduceMul, Nat.reduceSub, Nat.reduceLT, Nat.reduceLeDiff, Nat.reduceEqDiff, Nat.reduceMod, Nat.reduceDiv, q_R hr'.1, r_tf0 hr'.1 ha]
end PS
