/-! orders in step -/
theorem q_l2_412 {k : Nat} (h : q_l2 412 k = true) : k < 26 := by
  have e : q_l2 412 k = (Nat.beq k 6 || Nat.beq k 14 || Nat.beq k 15) := rfl
  rw [e] at h
  simp only [Bool.or_eq_true, Nat.beq_eq] at h
  omega
theorem q_Iv_su {L : Nat} {xs : Nat → Int32} {j : Nat} {M M' : ir_M} (h : q_Iv L xs j M) (s : q_su M M') (h3 : c_I3 M') : q_Iv L xs j M' := by
  have hx := q_Iv_X h s.1
  obtain ⟨h1, h2, h3', h4, h5, h6, h7⟩ := h
  exact ⟨hx.1, hx.2, by have := s.1.2.2.1; omega, by have := s.1.2.2.2; omega, c_I1_fr s.2.1 h5, c_I2_fr s.2.2 h6, h3⟩
section SU
variable {L : Nat} {xs : Nat → Int32} {f g x : ir_M → ir_R} {hd : Nat → ir_M → ir_R}
theorem q_Sp_s (h : ∀ M, q_PI M → c_I M → ∃ v M1, f M = ir_oI v M1 ∧ q_su M M1 ∧ c_I3 M1 ∧ ∃ M2, g M1 = ir_oI v M2 ∧ q_st 0 M1 M2) : q_Sp L xs (q_Iv L xs) f g := by
  intro j M hI
  obtain ⟨v, M1, e1, s1, i3, M2, e2, s2⟩ := h M hI.1 hI.2.2.2.2
  have hI1 := q_Iv_su hI s1 i3
  exact ⟨v, M1, M2, e1, hI1.1, hI1.2.1, e2, q_Iv_st hI1 s2 (by omega)⟩
theorem q_Ss_mk (hw : c_W f x hd) (h : ∀ M, q_PI M → c_I M → ∃ M0, q_su M M0 ∧ c_I3 M0 ∧ ((∃ v K' M1, x M = ir_oI v M1 ∧ q_dc M0 M1 ∧ ir_I M1 121 0 = 0 ∧ c_sc M1 3 K' ∧ k_wf K' ∧ d_r g (M.1 413) v K') ∨ (∃ v, x M = ir_oI v M0 ∧ ∀ M', q_st 0 M0 M' → r_ans g M' v 0) ∨ (∃ e k, 0 < k ∧ k < 9 ∧ x M = ir_oX e (ir_th M0) ∧ (∀ M, hd e M = ir_oI (nI k) M) ∧ ∀ M', q_st 1 M0 M' → ∃ b, r_ans g M' b k))) : q_St L xs (q_Iv L xs) f g := by
  intro j M hI0
  have hp0 := hI0.1
  obtain ⟨M0, su, i3, h'⟩ := h M hp0 hI0.2.2.2.2
  have hI := q_Iv_su hI0 su i3
  have hp := hI.1
  have k0 : M0.1 413 = M.1 413 := su.2.1 413 rfl
  rcases h' with ⟨v, K', M1, e1, d1, h0, hs, hwf, hr⟩ | ⟨v, e1, hr⟩ | ⟨e, k, k0', k9, e1, hh, hr⟩
  · have hp1 := d1.p hp
    have hJ := q_st_J hp1 (k := 0) (v := v.toInt64)
    have hk : ∀ k, ir_I (ir_sJ M1 436 0 v.toInt64) 413 k = M.1 413 k := fun k => (congrFun (d1.1 413 rfl) k).trans (congrFun k0 k)
    obtain ⟨M2, e2, d2, hK, h4⟩ := hr (ir_sJ M1 436 0 v.toInt64) ⟨hp1, hI0.2.2.2.2.1.1.1, hk⟩
    have gX := q_Iv_X hI ((d1.go hp).tr hJ.1)
    refine ⟨nI 0, ir_sJ M1 436 0 v.toInt64, v, M2, ?_, gX.1, gX.2, e2, h4, fun _ => ?_, q_Iv_d hI d1 h0 hs hwf hJ d2 hK⟩
    · rw [hw M, e1]
      simp (disch := omega) only [q_ckt, q_lt, q_cI, q_cJ, q_cV, q_cP, q_xI, q_xV, q_xP, q_xJ, g_gk, g_ga, g_gw, g_gp, g_gq, g_P, g_J, q_I_s, q_I_n, q_I_k, nI_add, pk_sub, pk_mul, nI_clamp, n_lt0, n_0lt, n_eq0, n_lt, n_le, n_eq, n_m1, n_m2, n_m9, n_12, n_19, n_10, n_01, n_1n1, n_0n1, n_1n0, n_0n0, n_dI, n_m1lt, q_inb, n_nar, n_nar0, n_nar1, n_bool, Bool.false_eq_true, Bool.true_eq_false, if_true, if_false, ↓reduceIte, Nat.reduceAdd, Nat.reduceMul, Nat.reduceSub, Nat.reduceLT, Nat.reduceLeDiff, Nat.reduceEqDiff, Nat.reduceMod, Nat.reduceDiv, q_W hp0, q_bI1, q_R hp1]
    · rw [d2.2.2]
      show (if 436 = 436 then vp_updL (M1.2.1 436) 0 v.toInt64 else M1.2.1 436) 0 = v.toInt64
      rw [if_pos rfl]
      exact pk_uLs
  · have s1' := q_st_J hp (k := 0) (v := v.toInt64)
    obtain ⟨M2, e2, s2, h2, h4⟩ := hr _ s1'
    refine ⟨nI 0, ir_sJ M0 436 0 v.toInt64, v, M2, ?_, (q_Iv_X hI s1'.1).1, (q_Iv_X hI s1'.1).2, e2, h4, fun _ => ?_, q_Iv_st hI (s1'.tr s2) (by omega)⟩
    · rw [hw M, e1]
      simp (disch := omega) only [q_ckt, q_lt, q_cI, q_cJ, q_cV, q_cP, q_xI, q_xV, q_xP, q_xJ, g_gk, g_ga, g_gw, g_gp, g_gq, g_P, g_J, q_I_s, q_I_n, q_I_k, nI_add, pk_sub, pk_mul, nI_clamp, n_lt0, n_0lt, n_eq0, n_lt, n_le, n_eq, n_m1, n_m2, n_m9, n_12, n_19, n_10, n_01, n_1n1, n_0n1, n_1n0, n_0n0, n_dI, n_m1lt, q_inb, n_nar, n_nar0, n_nar1, n_bool, Bool.false_eq_true, Bool.true_eq_false, if_true, if_false, ↓reduceIte, Nat.reduceAdd, Nat.reduceMul, Nat.reduceSub, Nat.reduceLT, Nat.reduceLeDiff, Nat.reduceEqDiff, Nat.reduceMod, Nat.reduceDiv, q_W hp0, q_bI1, q_R hp]
    · rw [h2]
      show (if 436 = 436 then vp_updL (M0.2.1 436) 0 v.toInt64 else M0.2.1 436) 0 = v.toInt64
      rw [if_pos rfl]
      exact pk_uLs
  · have s1 := q_st_th hp
    obtain ⟨b, M2, e2, s2, h2, h4⟩ := hr _ s1
    refine ⟨nI k, ir_th M0, b, M2, ?_, (q_Iv_X hI s1.1).1, (q_Iv_X hI s1.1).2, e2, h4, fun q => ?_, q_Iv_st hI (s1.tr s2) (by omega)⟩
    · rw [hw M, e1]
      simp (disch := omega) only [q_ckt, q_lt, q_cI, q_cJ, q_cV, q_cP, q_xI, q_xV, q_xP, q_xJ, g_gk, g_ga, g_gw, g_gp, g_gq, g_P, g_J, q_I_s, q_I_n, q_I_k, nI_add, pk_sub, pk_mul, nI_clamp, n_lt0, n_0lt, n_eq0, n_lt, n_le, n_eq, n_m1, n_m2, n_m9, n_12, n_19, n_10, n_01, n_1n1, n_0n1, n_1n0, n_0n0, n_dI, n_m1lt, q_inb, n_nar, n_nar0, n_nar1, n_bool, Bool.false_eq_true, Bool.true_eq_false, if_true, if_false, ↓reduceIte, Nat.reduceAdd, Nat.reduceMul, Nat.reduceSub, Nat.reduceLT, Nat.reduceLeDiff, Nat.reduceEqDiff, Nat.reduceMod, Nat.reduceDiv, q_W hp0, q_bI2, hh]
    · rw [n_eq0 (by omega)] at q
      omega
end SU
section OS
variable {K : Nat → Int32} {d : Nat}
theorem k_bo_og {least : Int32} : (k_og K least (k_m K) [] (nI 0, none)).2 = k_bo K := k_og_b _ _ _
theorem c_ob_of {M : ir_M} {least : Int32} (h : c_of M (k_m K) (k_og K least (k_m K) [] (nI 0, none))) : c_ob M K := by
  have h2 := h.2
  rw [k_bo_og] at h2
  exact h2
/-- what is best is a row of those in the queue -/
def k_bg (K : Nat → Int32) (b : Option (Int32 × List Nat)) : Prop := ∀ f r, b = some (f, r) → r.length = k_m K ∧ k_rw K r ∧ f = k_tot (k_row K r)
theorem k_og_g (hk : k_ok K) {least : Int32} : ∀ (k : Nat) {r : List Nat} {ρ : Int32 × Option (Int32 × List Nat)}, r.length + k = k_m K → k_rw K r → k_bg K ρ.2 → k_bg K (k_og K least k r ρ).2
  | 0, r, ρ, hm, hw, h => by
    intro f x e
    have e' : k_b1 K ρ.2 r = some (f, x) := e
    unfold k_b1 at e'
    cases eb : ρ.2 with
    | none =>
      rw [eb] at e'
      cases e'
      exact ⟨by omega, hw, rfl⟩
    | some y =>
      obtain ⟨g, z⟩ := y
      rw [eb] at e'
      dsimp only at e'
      by_cases q : g < k_tot (k_row K r)
      · rw [if_pos q] at e'
        cases e'
        exact ⟨by omega, hw, rfl⟩
      · rw [if_neg q] at e'
        exact h f x (eb.trans e')
  | k + 1, r, ρ, hm, hw, h => by
    have hb := k_bds hk
    unfold k_og
    have key : ∀ n, n ≤ k_n K → k_bg K ((List.range n).foldl (fun ρ p => if k_oc K r p = true then k_og K least k (r ++ [p]) ρ else ρ) ρ).2 := by
      intro n
      induction n with
      | zero => intro _; exact h
      | succ n ih =>
        intro hn
        rw [k_foldl]
        by_cases qc : k_oc K r n = true
        · rw [if_pos qc]
          have mc : k_mem K n = true ∧ r.contains n = false := by
            unfold k_oc at qc
            simp only [Bool.and_eq_true, Bool.not_eq_true'] at qc
            exact qc.1
          exact k_og_g hk k (by rw [List.length_append]; show r.length + 1 + k = k_m K; omega) (k_rw_s hw (by omega) mc.2) (ih (by omega))
        · rw [if_neg qc]
          exact ih (by omega)
    exact key _ (Nat.le_refl _)
theorem k_bo_g (hk : k_ok K) : k_bg K (k_bo K) := by
  rw [← k_bo_og (K := K) (least := 0)]
  exact k_og_g hk (k_m K) (by show 0 + k_m K = k_m K; omega) ⟨fun i hi => absurd hi (by show ¬ i < 0; omega), fun i j hi => absurd hi (by show ¬ i < 0; omega)⟩ (fun f r e => nomatch e)
/-- what is best, found -/
theorem c_fbt {M : ir_M} (hp : q_PI M) (hI : c_I M) (hK : M.1 413 = K) : ∃ M1, m_X11_findBest (d + 15) 1 M = ir_oV M1 ∧ q_su M M1 ∧ c_I3 M1 ∧ c_ob M1 K ∧ c_rl M1 12 K ∧ c_sc M1 3 K := by
  have hc := c_I_c hp hI.1
  have hsc := hI.1.2
  have hwf := hI.1.1
  rw [hK] at hc hsc hwf
  rcases hI.2.2 with h0 | ⟨h1, hob⟩
  · obtain ⟨M1, e1, s1, z1, o1⟩ := c_se (d := d) (least := nI 0) hc hwf hsc.2.1
    have k1 : M1.1 413 = K := (s1.2.1 413 rfl).trans hK
    have sc1 : c_sc M1 3 K := c_sc_fr (fun j hj h6 => s1.2.1 _ (q_l1_of (by omega))) hsc
    have ob1 := c_ob_of o1
    refine ⟨M1, ?_, s1, Or.inr ⟨z1, by rw [k1]; exact ob1⟩, ob1, c_sc_rl s1.1.1 hwf.1 sc1, sc1⟩
    rw [E_X11_findBest]
    simp (disch := omega) only [q_ckt, q_lt, q_cI, q_cJ, q_cV, q_cP, q_xI, q_xV, q_xP, q_xJ, g_gk, g_ga, g_gw, g_gp, g_gq, g_P, g_J, q_I_s, q_I_n, q_I_k, nI_add, pk_sub, pk_mul, nI_clamp, n_lt0, n_0lt, n_eq0, n_lt, n_le, n_eq, n_m1, n_m2, n_m9, n_12, n_19, n_10, n_01, n_1n1, n_0n1, n_1n0, n_0n0, n_dI, n_m1lt, q_inb, n_nar, n_nar0, n_nar1, n_bool, Bool.false_eq_true, Bool.true_eq_false, if_true, if_false, ↓reduceIte, Nat.reduceAdd, Nat.reduceMul, Nat.reduceSub, Nat.reduceLT, Nat.reduceLeDiff, Nat.reduceEqDiff, Nat.reduceMod, Nat.reduceDiv, q_W hp, q_O hp, h0, e1]
  · rw [hK] at hob
    refine ⟨M, ?_, (q_st.rf hp).su, Or.inr ⟨h1, by rw [hK]; exact hob⟩, hob, hc, hsc⟩
    rw [E_X11_findBest]
    simp (disch := omega) only [q_ckt, q_lt, q_cI, q_cJ, q_cV, q_cP, q_xI, q_xV, q_xP, q_xJ, g_gk, g_ga, g_gw, g_gp, g_gq, g_P, g_J, q_I_s, q_I_n, q_I_k, nI_add, pk_sub, pk_mul, nI_clamp, n_lt0, n_0lt, n_eq0, n_lt, n_le, n_eq, n_m1, n_m2, n_m9, n_12, n_19, n_10, n_01, n_1n1, n_0n1, n_1n0, n_0n0, n_dI, n_m1lt, q_inb, n_nar, n_nar0, n_nar1, n_bool, Bool.false_eq_true, Bool.true_eq_false, if_true, if_false, ↓reduceIte, Nat.reduceAdd, Nat.reduceMul, Nat.reduceSub, Nat.reduceLT, Nat.reduceLeDiff, Nat.reduceEqDiff, Nat.reduceMod, Nat.reduceDiv, q_W hp, q_O hp, h1, n_10]
end OS
section OS2
variable {L : Nat} {xs : Nat → Int32}
theorem S_orders (a : Int32) : q_Sp L xs (q_Iv L xs) (m_X11_orders 200 1 a) (m_X12_orders 200 412 a) := by
  refine q_Sp_s fun M hp hI => ?_
  have hc := c_I_c hp hI.1
  have hr := c_I_r hp hI.1
  obtain ⟨hwf, hsc⟩ := hI.1
  have eK : M.1 413 = M.1 413 := rfl
  generalize hK : M.1 413 = K at hc hr hwf hsc
  obtain ⟨M1, e1, s1, z1, o1⟩ := c_se (d := 185) (least := a) hc hwf hsc.2.1
  have k1 : M1.1 413 = K := (s1.2.1 413 rfl).trans hK
  have r1 : r_rl M1 K := ⟨s1.1.1, hr.2.1, fun k => congrFun k1 k⟩
  have r4 := r_4 (v := nI 0) r1
  obtain ⟨N, f1, t1, t2, o2⟩ := r_lo (d := 182) (least := a) r4 hwf
  have pN := q_PI_eq t1 r4.1
  refine ⟨(k_og K a (k_m K) [] (nI 0, none)).1, M1, ?_, s1, Or.inr ⟨z1, by rw [k1]; exact c_ob_of o1⟩, N, ?_, (q_st_4 r1.1 rfl).tr (q_st_412 r4.1 t1 (by decide) (fun k hk => t2 k (q_l2_412 hk)))⟩
  · rw [E_X11_orders 199]
    simp (disch := omega) only [q_ckt, q_lt, q_cI, q_cJ, q_cV, q_cP, q_xI, q_xV, q_xP, q_xJ, g_gk, g_ga, g_gw, g_gp, g_gq, g_P, g_J, q_I_s, q_I_n, q_I_k, nI_add, pk_sub, pk_mul, nI_clamp, n_lt0, n_0lt, n_eq0, n_lt, n_le, n_eq, n_m1, n_m2, n_m9, n_12, n_19, n_10, n_01, n_1n1, n_0n1, n_1n0, n_0n0, n_dI, n_m1lt, q_inb, n_nar, n_nar0, n_nar1, n_bool, Bool.false_eq_true, Bool.true_eq_false, if_true, if_false, ↓reduceIte, Nat.reduceAdd, Nat.reduceMul, Nat.reduceSub, Nat.reduceLT, Nat.reduceLeDiff, Nat.reduceEqDiff, Nat.reduceMod, Nat.reduceDiv, q_W hp, q_O hp, e1, q_W s1.1.1, q_O s1.1.1, o1.1]
  · rw [E_X12_orders 199]
    simp (disch := omega) only [q_ckt, q_lt, q_cI, q_cJ, q_cV, q_cP, q_xI, q_xV, q_xP, q_xJ, g_gk, g_ga, g_gw, g_gp, g_gq, g_P, g_J, q_I_s, q_I_n, q_I_k, nI_add, pk_sub, pk_mul, nI_clamp, n_lt0, n_0lt, n_eq0, n_lt, n_le, n_eq, n_m1, n_m2, n_m9, n_12, n_19, n_10, n_01, n_1n1, n_0n1, n_1n0, n_0n0, n_dI, n_m1lt, q_inb, n_nar, n_nar0, n_nar1, n_bool, Bool.false_eq_true, Bool.true_eq_false, if_true, if_false, ↓reduceIte, Nat.reduceAdd, Nat.reduceMul, Nat.reduceSub, Nat.reduceLT, Nat.reduceLeDiff, Nat.reduceEqDiff, Nat.reduceMod, Nat.reduceDiv, q_R r1.1, f1, q_R pN, o2.1]
theorem k_2w {a : Int32} : ((10 : Int64).toInt ≤ a.toInt64.toInt ∧ a.toInt64.toInt ≤ (17 : Int64).toInt) = (10 ≤ a.toInt ∧ a.toInt < 18) := by
  rw [Int32.toInt_toInt64, show (10 : Int64).toInt = 10 by decide +kernel, show (17 : Int64).toInt = 17 by decide +kernel]
  exact propext ⟨fun h => ⟨h.1, by omega⟩, fun h => ⟨h.1, by omega⟩⟩
theorem S_best (a : Int32) : q_St L xs (q_Iv L xs) (m_L_best 200 1 a 436) (m_X12_best 200 412 a) := by
  refine q_Ss_mk (x := m_X11_best 199 1 a) (fun M => E_L_best 199 1 a 436 M) fun M hp hI => ?_
  have hc := c_I_c hp hI.1
  have hr := c_I_r hp hI.1
  obtain ⟨hwf, hsc⟩ := hI.1
  generalize hK : M.1 413 = K at hc hr hwf hsc
  have hk := hwf.1
  have hb := k_bds hk
  by_cases ha : a = 0 ∨ ∃ y, y < 8 ∧ a = nI (10 + y)
  · obtain ⟨M1, e1, s1, i3, ob, c1, sc1⟩ := c_fbt (d := 183) hp hI hK
    refine ⟨M1, s1, i3, Or.inr (Or.inl ⟨match k_bo K with | none => -1 | some (f, r) => if a = 0 then f else if (a - nI 10).toNatClampNeg < k_m K then nI (r.getD (a - nI 10).toNatClampNeg 0) else -1, ?_, fun M' s => ?_⟩)⟩
    · have E : m_X11_best 199 1 a M = v_X11_best_27 198 1 a M := by
        rw [E_X11_best 198]
        rcases ha with rfl | ⟨y, hy, rfl⟩
        · simp (disch := omega) only [q_ckt, q_lt, q_cI, q_cJ, q_cV, q_cP, q_xI, q_xV, q_xP, q_xJ, g_gk, g_ga, g_gw, g_gp, g_gq, g_P, g_J, q_I_s, q_I_n, q_I_k, nI_add, pk_sub, pk_mul, nI_clamp, n_lt0, n_0lt, n_eq0, n_lt, n_le, n_eq, n_m1, n_m2, n_m9, n_12, n_19, n_10, n_01, n_1n1, n_0n1, n_1n0, n_0n0, n_dI, n_m1lt, q_inb, n_nar, n_nar0, n_nar1, n_bool, Bool.false_eq_true, Bool.true_eq_false, if_true, if_false, ↓reduceIte, Nat.reduceAdd, Nat.reduceMul, Nat.reduceSub, Nat.reduceLT, Nat.reduceLeDiff, Nat.reduceEqDiff, Nat.reduceMod, Nat.reduceDiv]
        · simp (disch := omega) only [q_ckt, q_lt, q_cI, q_cJ, q_cV, q_cP, q_xI, q_xV, q_xP, q_xJ, g_gk, g_ga, g_gw, g_gp, g_gq, g_P, g_J, q_I_s, q_I_n, q_I_k, nI_add, pk_sub, pk_mul, nI_clamp, n_lt0, n_0lt, n_eq0, n_lt, n_le, n_eq, n_m1, n_m2, n_m9, n_12, n_19, n_10, n_01, n_1n1, n_0n1, n_1n0, n_0n0, n_dI, n_m1lt, q_inb, n_nar, n_nar0, n_nar1, n_bool, Bool.false_eq_true, Bool.true_eq_false, if_true, if_false, ↓reduceIte, Nat.reduceAdd, Nat.reduceMul, Nat.reduceSub, Nat.reduceLT, Nat.reduceLeDiff, Nat.reduceEqDiff, Nat.reduceMod, Nat.reduceDiv, show ¬ 10 + y = 0 by omega, show ¬ 10 + y < 10 by omega, show 10 + y < 18 by omega]
      rw [E, L_X11_best_27]
      rcases ob with ⟨b1, b2⟩ | ⟨f, r, b1, b2, b3, b4⟩
      · rw [b1]
        simp (disch := omega) only [q_ckt, q_lt, q_cI, q_cJ, q_cV, q_cP, q_xI, q_xV, q_xP, q_xJ, g_gk, g_ga, g_gw, g_gp, g_gq, g_P, g_J, q_I_s, q_I_n, q_I_k, nI_add, pk_sub, pk_mul, nI_clamp, n_lt0, n_0lt, n_eq0, n_lt, n_le, n_eq, n_m1, n_m2, n_m9, n_12, n_19, n_10, n_01, n_1n1, n_0n1, n_1n0, n_0n0, n_dI, n_m1lt, q_inb, n_nar, n_nar0, n_nar1, n_bool, Bool.false_eq_true, Bool.true_eq_false, if_true, if_false, ↓reduceIte, Nat.reduceAdd, Nat.reduceMul, Nat.reduceSub, Nat.reduceLT, Nat.reduceLeDiff, Nat.reduceEqDiff, Nat.reduceMod, Nat.reduceDiv, q_W hp, e1, q_W c1.1, q_O c1.1, b2]
      · rw [b1]
        dsimp only
        rcases ha with rfl | ⟨y, hy, rfl⟩
        · simp (disch := omega) only [q_ckt, q_lt, q_cI, q_cJ, q_cV, q_cP, q_xI, q_xV, q_xP, q_xJ, g_gk, g_ga, g_gw, g_gp, g_gq, g_P, g_J, q_I_s, q_I_n, q_I_k, nI_add, pk_sub, pk_mul, nI_clamp, n_lt0, n_0lt, n_eq0, n_lt, n_le, n_eq, n_m1, n_m2, n_m9, n_12, n_19, n_10, n_01, n_1n1, n_0n1, n_1n0, n_0n0, n_dI, n_m1lt, q_inb, n_nar, n_nar0, n_nar1, n_bool, Bool.false_eq_true, Bool.true_eq_false, if_true, if_false, ↓reduceIte, Nat.reduceAdd, Nat.reduceMul, Nat.reduceSub, Nat.reduceLT, Nat.reduceLeDiff, Nat.reduceEqDiff, Nat.reduceMod, Nat.reduceDiv, q_W hp, e1, q_W c1.1, q_O c1.1, b2, n_10, b3]
        · have ip := c_ip (d := 197) (x := nI y) c1
          by_cases q : y < k_m K
          · rw [k_rng_nI q (by omega), if_pos rfl] at ip
            simp (disch := omega) only [q_ckt, q_lt, q_cI, q_cJ, q_cV, q_cP, q_xI, q_xV, q_xP, q_xJ, g_gk, g_ga, g_gw, g_gp, g_gq, g_P, g_J, q_I_s, q_I_n, q_I_k, nI_add, pk_sub, pk_mul, nI_clamp, n_lt0, n_0lt, n_eq0, n_lt, n_le, n_eq, n_m1, n_m2, n_m9, n_12, n_19, n_10, n_01, n_1n1, n_0n1, n_1n0, n_0n0, n_dI, n_m1lt, q_inb, n_nar, n_nar0, n_nar1, n_bool, Bool.false_eq_true, Bool.true_eq_false, if_true, if_false, ↓reduceIte, Nat.reduceAdd, Nat.reduceMul, Nat.reduceSub, Nat.reduceLT, Nat.reduceLeDiff, Nat.reduceEqDiff, Nat.reduceMod, Nat.reduceDiv, q_W hp, e1, q_W c1.1, q_O c1.1, b2, n_10, show ¬ 10 + y = 0 by omega, show 10 + y - 10 = y by omega, ip, q, b4 y q]
          · rw [if_neg (by rw [k_rng_i, nI_toInt (by omega)]; omega)] at ip
            simp (disch := omega) only [q_ckt, q_lt, q_cI, q_cJ, q_cV, q_cP, q_xI, q_xV, q_xP, q_xJ, g_gk, g_ga, g_gw, g_gp, g_gq, g_P, g_J, q_I_s, q_I_n, q_I_k, nI_add, pk_sub, pk_mul, nI_clamp, n_lt0, n_0lt, n_eq0, n_lt, n_le, n_eq, n_m1, n_m2, n_m9, n_12, n_19, n_10, n_01, n_1n1, n_0n1, n_1n0, n_0n0, n_dI, n_m1lt, q_inb, n_nar, n_nar0, n_nar1, n_bool, Bool.false_eq_true, Bool.true_eq_false, if_true, if_false, ↓reduceIte, Nat.reduceAdd, Nat.reduceMul, Nat.reduceSub, Nat.reduceLT, Nat.reduceLeDiff, Nat.reduceEqDiff, Nat.reduceMod, Nat.reduceDiv, q_W hp, e1, q_W c1.1, q_O c1.1, b2, n_10, show ¬ 10 + y = 0 by omega, show 10 + y - 10 = y by omega, ip, q]
    · have r0 : r_rl M1 K := ⟨s1.1.1, hk, fun k => congrFun ((s1.2.1 413 rfl).trans hK) k⟩
      have hr' := q_st_r s r0
      have r4 := r_4 (v := nI 0) hr'
      obtain ⟨N, f1, t1, t2, o2⟩ := r_lo (d := 182) (least := nI 0) r4 hwf
      have rN := r_rl_eq r4 t1 (by decide)
      have o2' := o2.2
      rw [k_bo_og] at o2'
      refine ⟨N, ?_, (q_st_4 hr'.1 rfl).tr (q_st_412 r4.1 t1 (by decide) (fun k hk => t2 k (q_l2_412 hk))), by rw [t1.2]; rfl, (t2 4 (by decide)).trans q_I_s⟩
      have E : m_X12_best 200 412 a M' = v_X12_best_29 199 412 a (ir_sI M' 412 4 (nI 0)) := by
        rw [E_X12_best 199]
        rcases ha with rfl | ⟨y, hy, rfl⟩
        · simp (disch := omega) only [q_ckt, q_lt, q_cI, q_cJ, q_cV, q_cP, q_xI, q_xV, q_xP, q_xJ, g_gk, g_ga, g_gw, g_gp, g_gq, g_P, g_J, q_I_s, q_I_n, q_I_k, nI_add, pk_sub, pk_mul, nI_clamp, n_lt0, n_0lt, n_eq0, n_lt, n_le, n_eq, n_m1, n_m2, n_m9, n_12, n_19, n_10, n_01, n_1n1, n_0n1, n_1n0, n_0n0, n_dI, n_m1lt, q_inb, n_nar, n_nar0, n_nar1, n_bool, Bool.false_eq_true, Bool.true_eq_false, if_true, if_false, ↓reduceIte, Nat.reduceAdd, Nat.reduceMul, Nat.reduceSub, Nat.reduceLT, Nat.reduceLeDiff, Nat.reduceEqDiff, Nat.reduceMod, Nat.reduceDiv, q_R hr'.1]
        · have wn : ((10 : Int64).toInt ≤ (nI (10 + y)).toInt64.toInt ∧ (nI (10 + y)).toInt64.toInt ≤ (17 : Int64).toInt) = True := by
            rw [k_2w, nI_toInt (by omega)]
            exact eq_true ⟨by omega, by omega⟩
          simp (disch := omega) only [q_ckt, q_lt, q_cI, q_cJ, q_cV, q_cP, q_xI, q_xV, q_xP, q_xJ, g_gk, g_ga, g_gw, g_gp, g_gq, g_P, g_J, q_I_s, q_I_n, q_I_k, nI_add, pk_sub, pk_mul, nI_clamp, n_lt0, n_0lt, n_eq0, n_lt, n_le, n_eq, n_m1, n_m2, n_m9, n_12, n_19, n_10, n_01, n_1n1, n_0n1, n_1n0, n_0n0, n_dI, n_m1lt, q_inb, n_nar, n_nar0, n_nar1, n_bool, Bool.false_eq_true, Bool.true_eq_false, if_true, if_false, ↓reduceIte, Nat.reduceAdd, Nat.reduceMul, Nat.reduceSub, Nat.reduceLT, Nat.reduceLeDiff, Nat.reduceEqDiff, Nat.reduceMod, Nat.reduceDiv, q_R hr'.1, show ¬ 10 + y = 0 by omega, r_within, wn]
      rw [E, L_X12_best_29]
      rcases o2' with ⟨b1, b2⟩ | ⟨f, r, b1, b2, b3, b4⟩
      · rw [b1]
        simp (disch := omega) only [q_ckt, q_lt, q_cI, q_cJ, q_cV, q_cP, q_xI, q_xV, q_xP, q_xJ, g_gk, g_ga, g_gw, g_gp, g_gq, g_P, g_J, q_I_s, q_I_n, q_I_k, nI_add, pk_sub, pk_mul, nI_clamp, n_lt0, n_0lt, n_eq0, n_lt, n_le, n_eq, n_m1, n_m2, n_m9, n_12, n_19, n_10, n_01, n_1n1, n_0n1, n_1n0, n_0n0, n_dI, n_m1lt, q_inb, n_nar, n_nar0, n_nar1, n_bool, Bool.false_eq_true, Bool.true_eq_false, if_true, if_false, ↓reduceIte, Nat.reduceAdd, Nat.reduceMul, Nat.reduceSub, Nat.reduceLT, Nat.reduceLeDiff, Nat.reduceEqDiff, Nat.reduceMod, Nat.reduceDiv, q_R r4.1, f1, q_R rN.1, b2]
      · rw [b1]
        dsimp only
        rcases ha with rfl | ⟨y, hy, rfl⟩
        · simp (disch := omega) only [q_ckt, q_lt, q_cI, q_cJ, q_cV, q_cP, q_xI, q_xV, q_xP, q_xJ, g_gk, g_ga, g_gw, g_gp, g_gq, g_P, g_J, q_I_s, q_I_n, q_I_k, nI_add, pk_sub, pk_mul, nI_clamp, n_lt0, n_0lt, n_eq0, n_lt, n_le, n_eq, n_m1, n_m2, n_m9, n_12, n_19, n_10, n_01, n_1n1, n_0n1, n_1n0, n_0n0, n_dI, n_m1lt, q_inb, n_nar, n_nar0, n_nar1, n_bool, Bool.false_eq_true, Bool.true_eq_false, if_true, if_false, ↓reduceIte, Nat.reduceAdd, Nat.reduceMul, Nat.reduceSub, Nat.reduceLT, Nat.reduceLeDiff, Nat.reduceEqDiff, Nat.reduceMod, Nat.reduceDiv, q_R r4.1, f1, q_R rN.1, b2, n_10, b3]
        · by_cases q : y < k_m K
          · simp (disch := omega) only [q_ckt, q_lt, q_cI, q_cJ, q_cV, q_cP, q_xI, q_xV, q_xP, q_xJ, g_gk, g_ga, g_gw, g_gp, g_gq, g_P, g_J, q_I_s, q_I_n, q_I_k, nI_add, pk_sub, pk_mul, nI_clamp, n_lt0, n_0lt, n_eq0, n_lt, n_le, n_eq, n_m1, n_m2, n_m9, n_12, n_19, n_10, n_01, n_1n1, n_0n1, n_1n0, n_0n0, n_dI, n_m1lt, q_inb, n_nar, n_nar0, n_nar1, n_bool, Bool.false_eq_true, Bool.true_eq_false, if_true, if_false, ↓reduceIte, Nat.reduceAdd, Nat.reduceMul, Nat.reduceSub, Nat.reduceLT, Nat.reduceLeDiff, Nat.reduceEqDiff, Nat.reduceMod, Nat.reduceDiv, q_R r4.1, f1, q_R rN.1, b2, n_10, show ¬ 10 + y = 0 by omega, show 10 + y - 10 = y by omega, r_qd rN, q, b4 y q]
          · simp (disch := omega) only [q_ckt, q_lt, q_cI, q_cJ, q_cV, q_cP, q_xI, q_xV, q_xP, q_xJ, g_gk, g_ga, g_gw, g_gp, g_gq, g_P, g_J, q_I_s, q_I_n, q_I_k, nI_add, pk_sub, pk_mul, nI_clamp, n_lt0, n_0lt, n_eq0, n_lt, n_le, n_eq, n_m1, n_m2, n_m9, n_12, n_19, n_10, n_01, n_1n1, n_0n1, n_1n0, n_0n0, n_dI, n_m1lt, q_inb, n_nar, n_nar0, n_nar1, n_bool, Bool.false_eq_true, Bool.true_eq_false, if_true, if_false, ↓reduceIte, Nat.reduceAdd, Nat.reduceMul, Nat.reduceSub, Nat.reduceLT, Nat.reduceLeDiff, Nat.reduceEqDiff, Nat.reduceMod, Nat.reduceDiv, q_R r4.1, f1, q_R rN.1, b2, n_10, show ¬ 10 + y = 0 by omega, show 10 + y - 10 = y by omega, r_qd rN, q]
  · have h0 : ¬ a = 0 := fun q => ha (Or.inl q)
    have h10 : ¬ (10 ≤ a.toInt ∧ a.toInt < 18) := fun q => ha (Or.inr ⟨a.toInt.toNat - 10, by omega, by
      rw [← Int32.toInt_inj, nI_toInt (by omega)]
      omega⟩)
    refine ⟨M, (q_st.rf hp).su, hI.2.2, Or.inr (Or.inr ⟨3, 1, by omega, by omega, ?_, fun _ => rfl, fun M' s => ⟨nI 0, ir_sI (ir_sI M' 412 4 (nI 0)) 412 4 (nI 1), ?_, (q_st_4 s.1.1 (k := 4) rfl).tr (q_st_4 (M := ir_sI M' 412 4 (nI 0)) s.1.1 (k := 4) (v := nI 1) rfl), rfl, q_I_s⟩⟩)⟩
    · rw [E_X11_best 198, if_neg h0]
      by_cases q : a < nI 10
      · rw [if_pos q]
      · rw [if_neg q, if_neg ?_]
        intro w
        rw [Int32.lt_iff_toInt_lt, nI_toInt (by decide)] at q w
        exact h10 ⟨by omega, by omega⟩
    · have hr' := q_st_r s hr
      have h4 := r_4 (v := nI 0) hr'
      have wn : ((10 : Int64).toInt ≤ a.toInt64.toInt ∧ a.toInt64.toInt ≤ (17 : Int64).toInt) = False := by
        rw [k_2w]
        exact eq_false h10
      rw [E_X12_best 199]
      simp (disch := omega) only [q_ckt, q_lt, q_cI, q_cJ, q_cV, q_cP, q_xI, q_xV, q_xP, q_xJ, g_gk, g_ga, g_gw, g_gp, g_gq, g_P, g_J, q_I_s, q_I_n, q_I_k, nI_add, pk_sub, pk_mul, nI_clamp, n_lt0, n_0lt, n_eq0, n_lt, n_le, n_eq, n_m1, n_m2, n_m9, n_12, n_19, n_10, n_01, n_1n1, n_0n1, n_1n0, n_0n0, n_dI, n_m1lt, q_inb, n_nar, n_nar0, n_nar1, n_bool, Bool.false_eq_true, Bool.true_eq_false, if_true, if_false, ↓reduceIte, Nat.reduceAdd, Nat.reduceMul, Nat.reduceSub, Nat.reduceLT, Nat.reduceLeDiff, Nat.reduceEqDiff, Nat.reduceMod, Nat.reduceDiv, q_R hr'.1, h0, r_within, wn, r_fails h4.1]
/-! the best stand -/
theorem k_kp_wt {K : Nat → Int32} {p : Nat} {g : Int32} (hp : p < 8) (hg : k_gd K g) (h6 : k_g K ≤ 6) : k_wt (k_kp K) p g = k_wt K p g := by
  unfold k_wt
  rcases hg with rfl | ⟨j, hj, rfl⟩
  · rw [if_pos rfl, if_pos rfl]
  · rw [nI_clamp (by omega), k_kp_o (by omega)]
theorem k_kp_ev {K : Nat → Int32} {wd : Nat → Int32} : ∀ n, k_ev (k_kp K) wd n = k_ev K wd n
  | 0 => rfl
  | n + 1 => by
    unfold k_ev k_sp
    rw [k_kp_o (by omega), k_kp_ev n]
theorem k_kp_al {K : Nat → Int32} {p : Nat} {g pl : Int32} (hp : p < 8) (hg : k_gd K g) (h6 : k_g K ≤ 6) : k_al (k_kp K) p g pl = k_al K p g pl := by
  have e : k_wd (k_kp K) p g pl = k_wd K p g pl := funext fun w => by
    unfold k_wd
    rw [k_kp_wt hp hg h6, k_kp_o (k := 53 + p) (by omega), k_kp_o (k := 26 + p) (by omega), k_kp_o (k := 9) (by omega), k_kp_o (k := 34 + p) (by omega), k_kp_o (k := 42) (by omega)]
  unfold k_al
  rw [e, k_kp_ev, k_kp_o (k := 7) (by omega)]
theorem k_kp_row {K : Nat → Int32} {r : List Nat} (hk : k_ok K) (hm : r.length = k_m K) (hw : k_rw K r) : k_tot (k_row (k_kp K) r) = k_tot (k_row K r) := by
  have hb := k_bds hk
  obtain ⟨kn, kg, km⟩ := k_kp_n (K := K)
  have ky : k_y (k_kp K) = k_y K := by unfold k_y; rw [k_kp_o (by omega)]
  have kw : k_w (k_kp K) = k_w K := by unfold k_w; rw [k_kp_o (by omega)]
  have r8 : ∀ i, i < r.length → r.getD i 0 < 8 := fun i hi => by have := hw.1 i hi; omega
  rw [k_tot_row (by omega) (by omega) r8, k_tot_row (by omega) (by omega) r8, km]
  refine k_sm_cg _ fun i hi => ?_
  unfold k_ox
  rw [km, ky]
  have ar : ∀ j, j < k_m K → k_ar (k_kp K) r j = k_ar K r j := fun j hj => by
    have ea : k_a (k_kp K) (r.getD j 0) = k_a K (r.getD j 0) := by
      unfold k_a
      rw [k_kp_o (by have := r8 j (by omega); omega)]
    unfold k_ar k_ak
    rw [ea, k_kp_al (r8 j (by omega)) (k_gd_na (k_ag hk (hw.1 j (by omega)))) hb.1]
  have fe : k_fe (k_kp K) false (k_m K) (k_ar (k_kp K) r) (k_y K) i = k_fe K false (k_m K) (k_ar K r) (k_y K) i := by
    refine (k_fe_cg ar hi).trans ?_
    have ah : ∀ n, 1 ≤ n → k_ah (k_kp K) false (k_m K) (k_ar K r) i n = k_ah K false (k_m K) (k_ar K r) i n := fun n hn => by
      unfold k_ah
      rw [k_kp_o (k := 43) (by omega), k_kp_o (k := 5) (by omega), kw, k_kp_o (k := 45 + (k_w K - (n - i))) (by omega)]
    unfold k_fe
    rw [ah 3 (by decide), ah 2 (by decide), ah 1 (by decide)]
  rw [fe]
  exact k_kp_wt (r8 i (by omega)) (k_fe_gd hk (fun j hj => k_ak_gd hk (hw.1 j (by omega))) hi) hb.1
theorem S_standBest : q_St L xs (q_Iv L xs) (m_L_standBest 200 1 436) (m_X12_standBest 200 412) := by
  refine q_Ss_mk (x := m_X11_standBest 199 1) (fun M => E_L_standBest 199 1 436 M) fun M hp hI => ?_
  have hc := c_I_c hp hI.1
  have hr := c_I_r hp hI.1
  obtain ⟨hwf, hsc⟩ := hI.1
  generalize hK : M.1 413 = K at hc hr hwf hsc ⊢
  have hk := hwf.1
  have hb := k_bds hk
  obtain ⟨M1, e1, s1, i3, ob, c1, sc1⟩ := c_fbt (d := 183) hp hI hK
  refine ⟨M1, s1, i3, ?_⟩
  by_cases hg : ∃ f r, k_bo K = some (f, r) ∧ 0 < k_m K
  · obtain ⟨f, r, eb, m0⟩ := hg
    obtain ⟨rl, rw', ef⟩ := k_bo_g hk f r eb
    have r8 : ∀ i, i < r.length → r.getD i 0 < 8 := fun i hi => by have := rw'.1 i hi; omega
    obtain ⟨kn, kg, km⟩ := k_kp_n (K := K)
    have w1 := k_kp_wf hwf
    have rw1 : k_rw (k_kp K) r := ⟨fun i hi => by rw [kn]; exact rw'.1 i hi, rw'.2⟩
    obtain ⟨K2, eK2⟩ : ∃ K2, K2 = k_row (k_kp K) r := ⟨_, rfl⟩
    have ok2 : k_ok K2 := by rw [eK2]; exact k_row_ok w1.1 (by omega) rw1
    have o2 : ∀ k, ¬ (9 ≤ k ∧ k < 53) → K2 k = k_kp K k := fun k hk => by rw [eK2]; exact if_neg (by omega)
    have q2 : ∀ i, i < k_m K → K2 (10 + i) = nI (r.getD i 0) := fun i hi => by
      rw [eK2]
      show (if 10 ≤ 10 + i ∧ 10 + i < 10 + r.length then nI (r.getD (10 + i - 10) 0) else _) = _
      rw [if_pos (by omega), show 10 + i - 10 = i by omega]
    have e2o : ∀ k, ¬ (10 ≤ k ∧ k < 10 + k_m K) → K2 k = k_kp K k := fun k hk => by rw [eK2]; exact if_neg (by omega)
    have m2 : k_m K2 = k_m K := by unfold k_m; rw [e2o 9 (by omega), k_kp_o (by omega)]
    have w2 := k_wf_st w1 o2 ok2.2
    have ft : k_tot K2 = f := by rw [eK2, k_kp_row hk rl rw', ef]
    have ob' : ir_I M1 121 1 = 1 ∧ ∀ i, i < k_m K → ir_I M1 122 i = nI (r.getD i 0) := by
      rcases ob with ⟨b1, -⟩ | ⟨f', r', b1, b2, b3, b4⟩
      · rw [eb] at b1; exact nomatch b1
      · rw [eb] at b1; cases b1; exact ⟨b2, b4⟩
    refine Or.inl ⟨f, K2, ?_⟩
    obtain ⟨M2, e2, d2, z2, s2⟩ := c_keepDeed (d := 195) s1.1.1 hwf sc1
    have p2 := d2.p s1.1.1
    have c2 := c_sc_rl p2 w1.1 s2
    have o122 : ∀ i, i < k_m K → ir_I M2 122 i = nI (r.getD i 0) := fun i hi => (congrFun (d2.1 122 rfl) i).trans (ob'.2 i hi)
    have Lp := q_up (σ := ir_M) (V := fun x t => v_X11_standBest_41 198 1 (nI x) t) (N := k_m K) (I := fun x t => q_eq [13] M2 t ∧ ∀ i, i < x → ir_I t 13 i = nI (r.getD i 0)) (K := fun t => v_X11_standBest_41 198 1 (nI (k_m K)) t) (by
      rintro x t hx ⟨hq, ht⟩
      have hpt := q_PI_eq hq p2
      have z0 : ir_I t 12 0 = nI (k_m K) := by rw [q_I_eq hq (by decide), ← km]; exact (c_use c2).2.2.2.2.2.1
      have z1 : ir_I t 122 x = nI (r.getD x 0) := by rw [q_I_eq hq (by decide)]; exact o122 x hx
      have := r8 x (by omega)
      refine ⟨ir_sI t 13 x (nI (r.getD x 0)), ⟨hq.tr (q_eq.sI (by decide)), fun i hi => ?_⟩, ?_⟩
      · rw [q_I_u]
        by_cases q : i = x
        · rw [if_pos q, q]
        · rw [if_neg q]; exact ht i (by omega)
      · rw [L_X11_standBest_41]
        simp (disch := omega) only [q_ckt, q_lt, q_cI, q_cJ, q_cV, q_cP, q_xI, q_xV, q_xP, q_xJ, g_gk, g_ga, g_gw, g_gp, g_gq, g_P, g_J, q_I_s, q_I_n, q_I_k, nI_add, pk_sub, pk_mul, nI_clamp, n_lt0, n_0lt, n_eq0, n_lt, n_le, n_eq, n_m1, n_m2, n_m9, n_12, n_19, n_10, n_01, n_1n1, n_0n1, n_1n0, n_0n0, n_dI, n_m1lt, q_inb, n_nar, n_nar0, n_nar1, n_bool, Bool.false_eq_true, Bool.true_eq_false, if_true, if_false, ↓reduceIte, Nat.reduceAdd, Nat.reduceMul, Nat.reduceSub, Nat.reduceLT, Nat.reduceLeDiff, Nat.reduceEqDiff, Nat.reduceMod, Nat.reduceDiv, q_W hpt, q_S hpt (a := 12) (by decide), z0, hx, q_O hpt, z1]) (fun _ _ => rfl) (i := 0) (t := M2) (by omega) ⟨q_eq.rf _ _, fun i hi => absurd hi (by omega)⟩
    obtain ⟨M3, ⟨q3, a3⟩, e3⟩ := Lp
    have p3 := q_PI_eq q3 p2
    have st3 : c_st M3 12 K2 := by
      refine c_st_q (M := M2) (K := k_kp K) s2.2.2.1 (k_bds w1.1).2.2.2.1 (k_bds w1.1).2.1 (fun j h1 h2 => q3.1 _ (by simp; omega)) (fun k h1 h2 => e2o k (by omega)) ?_ (fun j h1 h2 => q_I_eq q3 (by decide) j) (fun i hi => ?_)
      · rw [q_I_eq q3 (by decide), e2o 9 (by omega)]
        exact s2.2.2.1.1
      · rw [a3 i (by omega), q2 i (by omega)]
    have sc3 : c_sc M3 3 K2 := c_sc_st w1 s2 o2 (fun a h1 h2 h3 h4 => q3.1 a (by simp; omega)) st3
    have c3 := c_sc_rl p3 ok2 sc3
    obtain ⟨M4, e4, q4, a4, f4⟩ := c_run (d := 193) c3
    have c4 := c_rl_eq c3 q4 (by decide)
    have wo := c_woa (d := 195) c4 f4 (fun i hi => k_td_gd ok2 hi)
    refine ⟨M4, ?_, (d2.tr (q_dc_eq q3 (by decide))).tr (q_dc_eq q4 (by decide)), ?_, c_sc_fr (fun j hj h6 => q4.1 _ (by simp; omega)) sc3, w2, fun N hN => ?_⟩
    · have z0 : ir_I M1 12 0 = nI (k_m K) := (c_use c1).2.2.2.2.2.1
      have z3 : ir_I M3 12 0 = nI (k_m K) := by rw [← m2]; exact (c_use c3).2.2.2.2.2.1
      rw [E_X11_standBest 198]
      simp (disch := omega) only [q_ckt, q_lt, q_cI, q_cJ, q_cV, q_cP, q_xI, q_xV, q_xP, q_xJ, g_gk, g_ga, g_gw, g_gp, g_gq, g_P, g_J, q_I_s, q_I_n, q_I_k, nI_add, pk_sub, pk_mul, nI_clamp, n_lt0, n_0lt, n_eq0, n_lt, n_le, n_eq, n_m1, n_m2, n_m9, n_12, n_19, n_10, n_01, n_1n1, n_0n1, n_1n0, n_0n0, n_dI, n_m1lt, q_inb, n_nar, n_nar0, n_nar1, n_bool, Bool.false_eq_true, Bool.true_eq_false, if_true, if_false, ↓reduceIte, Nat.reduceAdd, Nat.reduceMul, Nat.reduceSub, Nat.reduceLT, Nat.reduceLeDiff, Nat.reduceEqDiff, Nat.reduceMod, Nat.reduceDiv, q_W hp, e1, q_W c1.1, q_O c1.1, ob'.1, n_10, q_S c1.1 (a := 12) (by decide), z0, show ¬ k_m K = 0 by omega, e2]
      rw [e3, L_X11_standBest_41]
      simp (disch := omega) only [q_ckt, q_lt, q_cI, q_cJ, q_cV, q_cP, q_xI, q_xV, q_xP, q_xJ, g_gk, g_ga, g_gw, g_gp, g_gq, g_P, g_J, q_I_s, q_I_n, q_I_k, nI_add, pk_sub, pk_mul, nI_clamp, n_lt0, n_0lt, n_eq0, n_lt, n_le, n_eq, n_m1, n_m2, n_m9, n_12, n_19, n_10, n_01, n_1n1, n_0n1, n_1n0, n_0n0, n_dI, n_m1lt, q_inb, n_nar, n_nar0, n_nar1, n_bool, Bool.false_eq_true, Bool.true_eq_false, if_true, if_false, ↓reduceIte, Nat.reduceAdd, Nat.reduceMul, Nat.reduceSub, Nat.reduceLT, Nat.reduceLeDiff, Nat.reduceEqDiff, Nat.reduceMod, Nat.reduceDiv, q_W p3, q_S p3 (a := 12) (by decide), z3, Nat.lt_irrefl, q_F p3, e4, q_W c4.1, q_F c4.1, wo]
      rw [show k_sm (k_fw K2 (k_td K2)) (k_m K2) = k_tot K2 from rfl, ft]
    · rw [q_I_eq q4 (by decide), q_I_eq q3 (by decide)]
      exact z2
    · have r4 := r_4 (v := nI 0) hN
      obtain ⟨N1, f1, t1, t2, og⟩ := r_lo (d := 182) (least := nI 0) r4 hwf
      have rN := r_rl_eq r4 t1 (by decide)
      have og' := og.2
      rw [k_bo_og] at og'
      have og2 : ir_I N1 412 29 = 1 ∧ ir_I N1 412 26 = f ∧ ∀ i, i < k_m K → ir_I N1 422 i = nI (r.getD i 0) := by
        rcases og' with ⟨b1, -⟩ | ⟨f', r', b1, b2, b3, b4⟩
        · rw [eb] at b1; exact nomatch b1
        · rw [eb] at b1; cases b1; exact ⟨b2, b3, b4⟩
      obtain ⟨N2, g2, t3, rk⟩ := d_kp (d := 198) rN hwf
      have Lr := q_up (σ := ir_M) (V := fun x t => v_X12_standBest_36 199 412 (nI x) t) (N := k_m K) (I := fun x t => q_eq [413] N2 t ∧ ∀ k, ir_I t 413 k = if 10 ≤ k ∧ k < 10 + x then nI (r.getD (k - 10) 0) else k_kp K k) (K := fun t => v_X12_standBest_36 199 412 (nI (k_m K)) t) (by
        rintro x t hx ⟨hq, ht⟩
        have hpt := q_PI_eq hq rk.1
        have z0 : ir_I t 413 9 = nI (k_m K) := by
          rw [ht 9, if_neg (by omega), k_kp_o (by omega)]
          exact (k_use hk).2.2.2.1
        have qd : m_X12_queued 199 412 t = ir_oI (nI (k_m K)) t := by
          rw [show (199 : Nat) = 198 + 1 from rfl, r_queued (K := fun k => ir_I t 413 k) hpt (fun k _ => rfl), z0]
        have z1 : ir_I t 422 x = nI (r.getD x 0) := by rw [q_I_eq hq (by decide), q_I_eq t3 (by decide)]; exact og2.2.2 x hx
        have := r8 x (by omega)
        refine ⟨ir_sI t 413 (10 + x) (nI (r.getD x 0)), ⟨hq.tr (q_eq.sI (by decide)), fun k => ?_⟩, ?_⟩
        · rw [q_I_u, ht]
          by_cases q : k = 10 + x
          · rw [if_pos q, if_pos (by omega), q, show 10 + x - 10 = x by omega]
          · rw [if_neg q]
            by_cases q3 : 10 ≤ k ∧ k < 10 + x
            · rw [if_pos q3, if_pos (by omega)]
            · rw [if_neg q3, if_neg (by omega)]
        · rw [L_X12_standBest_36]
          simp (disch := omega) only [q_ckt, q_lt, q_cI, q_cJ, q_cV, q_cP, q_xI, q_xV, q_xP, q_xJ, g_gk, g_ga, g_gw, g_gp, g_gq, g_P, g_J, q_I_s, q_I_n, q_I_k, nI_add, pk_sub, pk_mul, nI_clamp, n_lt0, n_0lt, n_eq0, n_lt, n_le, n_eq, n_m1, n_m2, n_m9, n_12, n_19, n_10, n_01, n_1n1, n_0n1, n_1n0, n_0n0, n_dI, n_m1lt, q_inb, n_nar, n_nar0, n_nar1, n_bool, Bool.false_eq_true, Bool.true_eq_false, if_true, if_false, ↓reduceIte, Nat.reduceAdd, Nat.reduceMul, Nat.reduceSub, Nat.reduceLT, Nat.reduceLeDiff, Nat.reduceEqDiff, Nat.reduceMod, Nat.reduceDiv, q_R hpt, qd, hx, z1]) (fun _ _ => rfl) (i := 0) (t := N2) (by omega) ⟨q_eq.rf _ _, fun k => by rw [if_neg (by omega)]; exact rk.2.2 k⟩
      obtain ⟨N3, ⟨t4, a4'⟩, g3⟩ := Lr
      have p4 := q_PI_eq t4 rk.1
      have z0 : ir_I N3 413 9 = nI (k_m K) := by
        rw [a4' 9, if_neg (by omega), k_kp_o (by omega)]
        exact (k_use hk).2.2.2.1
      have qd : m_X12_queued 199 412 N3 = ir_oI (nI (k_m K)) N3 := by
        rw [show (199 : Nat) = 198 + 1 from rfl, r_queued (K := fun k => ir_I N3 413 k) p4 (fun k _ => rfl), z0]
      have z26 : ir_I N3 412 26 = f := by rw [q_I_eq t4 (by decide), q_I_eq t3 (by decide)]; exact og2.2.1
      have z4 : ir_I N3 412 4 = nI 0 := by rw [q_I_eq t4 (by decide), q_I_eq t3 (by decide), t2 4 (by decide)]; exact q_I_s
      have dr1 : q_dr (ir_sI N 412 4 (nI 0)) N1 := ⟨fun a ha => t1.1 a (fun q => by
          have : ∀ a ∈ [421, 412, 418, 419, 420, 422], q_pr a = true := by decide
          rw [this a q] at ha; exact nomatch ha), fun k hk => t2 k (q_l2_412 hk), t1.2⟩
      refine ⟨N3, ?_, (((q_dr_4 rfl).tr dr1).tr (q_dr_eq t3 (by decide))).tr (q_dr_eq t4 (by decide)), fun k => ?_, z4⟩
      · rw [E_X12_standBest 199]
        simp (disch := omega) only [q_ckt, q_lt, q_cI, q_cJ, q_cV, q_cP, q_xI, q_xV, q_xP, q_xJ, g_gk, g_ga, g_gw, g_gp, g_gq, g_P, g_J, q_I_s, q_I_n, q_I_k, nI_add, pk_sub, pk_mul, nI_clamp, n_lt0, n_0lt, n_eq0, n_lt, n_le, n_eq, n_m1, n_m2, n_m9, n_12, n_19, n_10, n_01, n_1n1, n_0n1, n_1n0, n_0n0, n_dI, n_m1lt, q_inb, n_nar, n_nar0, n_nar1, n_bool, Bool.false_eq_true, Bool.true_eq_false, if_true, if_false, ↓reduceIte, Nat.reduceAdd, Nat.reduceMul, Nat.reduceSub, Nat.reduceLT, Nat.reduceLeDiff, Nat.reduceEqDiff, Nat.reduceMod, Nat.reduceDiv, q_R hN.1, f1, q_R rN.1, og2.1, n_10, r_qd rN, show ¬ k_m K = 0 by omega, g2]
        rw [g3, L_X12_standBest_36]
        simp (disch := omega) only [q_ckt, q_lt, q_cI, q_cJ, q_cV, q_cP, q_xI, q_xV, q_xP, q_xJ, g_gk, g_ga, g_gw, g_gp, g_gq, g_P, g_J, q_I_s, q_I_n, q_I_k, nI_add, pk_sub, pk_mul, nI_clamp, n_lt0, n_0lt, n_eq0, n_lt, n_le, n_eq, n_m1, n_m2, n_m9, n_12, n_19, n_10, n_01, n_1n1, n_0n1, n_1n0, n_0n0, n_dI, n_m1lt, q_inb, n_nar, n_nar0, n_nar1, n_bool, Bool.false_eq_true, Bool.true_eq_false, if_true, if_false, ↓reduceIte, Nat.reduceAdd, Nat.reduceMul, Nat.reduceSub, Nat.reduceLT, Nat.reduceLeDiff, Nat.reduceEqDiff, Nat.reduceMod, Nat.reduceDiv, q_R p4, qd, Nat.lt_irrefl, z26]
      · rw [a4', eK2]
        show _ = if 10 ≤ k ∧ k < 10 + r.length then nI (r.getD (k - 10) 0) else k_kp K k
        rw [rl]
  · refine Or.inr (Or.inr ⟨2, 1, by omega, by omega, ?_, fun _ => rfl, fun M' s => ?_⟩)
    · have z0 : ir_I M1 12 0 = nI (k_m K) := (c_use c1).2.2.2.2.2.1
      rw [E_X11_standBest 198]
      rcases ob with ⟨b1, b2⟩ | ⟨f, r, b1, b2, b3, b4⟩
      · simp (disch := omega) only [q_ckt, q_lt, q_cI, q_cJ, q_cV, q_cP, q_xI, q_xV, q_xP, q_xJ, g_gk, g_ga, g_gw, g_gp, g_gq, g_P, g_J, q_I_s, q_I_n, q_I_k, nI_add, pk_sub, pk_mul, nI_clamp, n_lt0, n_0lt, n_eq0, n_lt, n_le, n_eq, n_m1, n_m2, n_m9, n_12, n_19, n_10, n_01, n_1n1, n_0n1, n_1n0, n_0n0, n_dI, n_m1lt, q_inb, n_nar, n_nar0, n_nar1, n_bool, Bool.false_eq_true, Bool.true_eq_false, if_true, if_false, ↓reduceIte, Nat.reduceAdd, Nat.reduceMul, Nat.reduceSub, Nat.reduceLT, Nat.reduceLeDiff, Nat.reduceEqDiff, Nat.reduceMod, Nat.reduceDiv, q_W hp, e1, q_W c1.1, q_O c1.1, b2]
      · have : k_m K = 0 := by
          rcases Nat.eq_zero_or_pos (k_m K) with z | z
          · exact z
          · exact absurd ⟨f, r, b1, z⟩ hg
        simp (disch := omega) only [q_ckt, q_lt, q_cI, q_cJ, q_cV, q_cP, q_xI, q_xV, q_xP, q_xJ, g_gk, g_ga, g_gw, g_gp, g_gq, g_P, g_J, q_I_s, q_I_n, q_I_k, nI_add, pk_sub, pk_mul, nI_clamp, n_lt0, n_0lt, n_eq0, n_lt, n_le, n_eq, n_m1, n_m2, n_m9, n_12, n_19, n_10, n_01, n_1n1, n_0n1, n_1n0, n_0n0, n_dI, n_m1lt, q_inb, n_nar, n_nar0, n_nar1, n_bool, Bool.false_eq_true, Bool.true_eq_false, if_true, if_false, ↓reduceIte, Nat.reduceAdd, Nat.reduceMul, Nat.reduceSub, Nat.reduceLT, Nat.reduceLeDiff, Nat.reduceEqDiff, Nat.reduceMod, Nat.reduceDiv, q_W hp, e1, q_W c1.1, q_O c1.1, b2, n_10, q_S c1.1 (a := 12) (by decide), z0, this]
    · have r0 : r_rl M1 K := ⟨s1.1.1, hk, fun k => congrFun ((s1.2.1 413 rfl).trans hK) k⟩
      have hr' := q_st_r s r0
      have r4 := r_4 (v := nI 0) hr'
      obtain ⟨N, f1, t1, t2, o2⟩ := r_lo (d := 182) (least := nI 0) r4 hwf
      have rN := r_rl_eq r4 t1 (by decide)
      have o2' := o2.2
      rw [k_bo_og] at o2'
      refine ⟨nI 0, ir_sI N 412 4 (nI 1), ?_, ((q_st_4 hr'.1 rfl).tr (q_st_412 r4.1 t1 (by decide) (fun k hk => t2 k (q_l2_412 hk)))).tr (q_st_4 rN.1 rfl), by show N.2.1 436 = _; rw [t1.2]; rfl, q_I_s⟩
      rw [E_X12_standBest 199]
      rcases o2' with ⟨b1, b2⟩ | ⟨f, r, b1, b2, b3, b4⟩
      · simp (disch := omega) only [q_ckt, q_lt, q_cI, q_cJ, q_cV, q_cP, q_xI, q_xV, q_xP, q_xJ, g_gk, g_ga, g_gw, g_gp, g_gq, g_P, g_J, q_I_s, q_I_n, q_I_k, nI_add, pk_sub, pk_mul, nI_clamp, n_lt0, n_0lt, n_eq0, n_lt, n_le, n_eq, n_m1, n_m2, n_m9, n_12, n_19, n_10, n_01, n_1n1, n_0n1, n_1n0, n_0n0, n_dI, n_m1lt, q_inb, n_nar, n_nar0, n_nar1, n_bool, Bool.false_eq_true, Bool.true_eq_false, if_true, if_false, ↓reduceIte, Nat.reduceAdd, Nat.reduceMul, Nat.reduceSub, Nat.reduceLT, Nat.reduceLeDiff, Nat.reduceEqDiff, Nat.reduceMod, Nat.reduceDiv, q_R hr'.1, f1, q_R rN.1, b2, r_fails rN.1]
      · have : k_m K = 0 := by
          rcases Nat.eq_zero_or_pos (k_m K) with z | z
          · exact z
          · exact absurd ⟨f, r, b1, z⟩ hg
        simp (disch := omega) only [q_ckt, q_lt, q_cI, q_cJ, q_cV, q_cP, q_xI, q_xV, q_xP, q_xJ, g_gk, g_ga, g_gw, g_gp, g_gq, g_P, g_J, q_I_s, q_I_n, q_I_k, nI_add, pk_sub, pk_mul, nI_clamp, n_lt0, n_0lt, n_eq0, n_lt, n_le, n_eq, n_m1, n_m2, n_m9, n_12, n_19, n_10, n_01, n_1n1, n_0n1, n_1n0, n_0n0, n_dI, n_m1lt, q_inb, n_nar, n_nar0, n_nar1, n_bool, Bool.false_eq_true, Bool.true_eq_false, if_true, if_false, ↓reduceIte, Nat.reduceAdd, Nat.reduceMul, Nat.reduceSub, Nat.reduceLT, Nat.reduceLeDiff, Nat.reduceEqDiff, Nat.reduceMod, Nat.reduceDiv, q_R hr'.1, f1, q_R rN.1, b2, n_10, r_qd rN, this, r_fails rN.1]
end OS2
