/-! THE WELL: what was read becomes what is known -/
def k_ct0 (K : Nat → Int32) : Nat → Int32 := fun k => if k < 1640 then K k else 0
section WB
variable {B : Nat → Nat} {n L : Nat} {xs : Nat → Int32} {M0 M M' : ir_M} {d dp s f p G N : Nat} {K K' : Nat → Int32} {T : Nat → Int32}
theorem k_ct0_e {k : Nat} (h : k < 1640) : k_ct0 K k = K k := if_pos h
theorem k_FR_ct0 (hF : k_FR G N K) : k_FR G N (k_ct0 K) := by
  have e : ∀ k, k < 1640 → k_ct0 K k = K k := fun k h => k_ct0_e h
  obtain ⟨⟨a1, a2, a3, a4, a5, a6⟩, g2, g3, g4, g5, g6, ⟨A, A8, g7, g8⟩, ⟨c, l1, l2, l3, l4, l5⟩, ⟨g10, g11, g12⟩, g13, g14⟩ := hF
  have es : ∀ i, i < 900 → k_sp (k_ct0 K) i = k_sp K i := fun i hi => by unfold k_sp; rw [e _ (by omega)]
  have et := k_tys_lt (K := K) (K' := k_ct0 K) (c := c) (fun i hi => es i (by omega))
  refine ⟨⟨a1, a2, a3, by rw [e 1 (by omega)]; exact a4, by rw [e 2 (by omega)]; exact a5, by rw [e 9 (by omega)]; exact a6⟩, fun i hi => by rw [e _ (by omega)]; exact g2 i hi, fun p hp => ?_, by rw [e 3 (by omega)]; exact g4, by rw [e 4 (by omega)]; exact g5, by rw [e 5 (by omega)]; exact g6, ⟨A, A8, by rw [e 6 (by omega)]; exact g7, fun k hk => ?_⟩, ⟨c, l1, by rw [e 7 (by omega)]; exact l2, fun i hi => by rw [e _ (by omega), es i (by omega)]; exact l3 i hi, fun i hi => by rw [et i hi]; exact l4 i hi, by rw [et c (Nat.le_refl _)]; exact l5⟩, ⟨by rw [e 8 (by omega)]; exact g10, fun k h1 h2 => by rw [e k (by omega)]; exact g11 k h1 h2, by rw [e 44 (by omega)]; exact g12⟩, by rw [e 43 (by omega)]; exact g13, fun k h1 h2 => by rw [e k (by omega)]; exact g14 k h1 h2⟩
  · obtain ⟨a, b1, b2⟩ := g3 p hp
    exact ⟨a, b1, by rw [e _ (by omega)]; exact b2⟩
  · obtain ⟨p, q, b1, b2, b3, b4⟩ := g8 k hk
    exact ⟨p, q, b1, b2, by rw [e _ (by omega)]; exact b3, by rw [e _ (by omega)]; exact b4⟩
theorem k_ct0_wf (hF : k_FR G N K) : k_wf (k_ct0 K) := k_FR_wf (k_FR_ct0 hF) (fun k hk => if_neg (by omega))
theorem c_beg (hp : q_PI M) (hF : k_FR G N K) (hK : c_K M K) : ∃ M', m_X5_begin 198 3 101 109 M = ir_oV M' ∧ q_eq [3, 4, 5, 6, 7, 8, 10, 11, 12, 13, 14, 15, 16, 17] M M' ∧ c_tdT M' 4 (k_ct0 K) ∧ c_ap M' 4 (k_ct0 K) ∧ c_st M' 12 (k_ct0 K) ∧ ir_I M' 3 2 = nI 0 ∧ (∀ k, k ≠ 2 → ir_I M' 3 k = ir_I M 3 k) ∧ ir_I M' 4 0 = K 0 := by
  obtain ⟨dn, dg, dm, dw, da, hb⟩ := k_FR_d hF
  have hG := hF.1.2.1
  have hN := hF.1.2.2.1
  obtain ⟨c, l1, l2, -, -, -⟩ := hF.2.2.2.2.2.2.2.1
  obtain ⟨⟨z1, z2, z3, z4, z5, z6, z7, z8, z9, z10, z11, z12⟩, h2', h3, y1, y2, y3⟩ := hK
  have h5 := hF.2.2.2.2.2.1
  have h43 := hF.2.2.2.2.2.2.2.2.2.1
  obtain ⟨M1, e1, q1, t0, t1, t2, t3, t4, t6, t7⟩ := c_tdtake (d := 195) (a := 4) (b := 101) hp (by decide) (by decide) (by decide) (by rw [z7]; exact h5) l1 (z11.trans l2)
  have p1 := q_PI_eq q1 hp
  obtain ⟨M2, e2, q2, u0, u1⟩ := c_take (d := 196) (a := 12) (b := 109) p1 (by decide) (by decide) (by decide) (by rw [q_I_eq q1 (by decide), h3.2.2.1]; exact h43)
  have p2 := q_PI_eq q2 p1
  have q3 : q_eq [3] M2 (ir_sI M2 3 2 (nI 0)) := q_eq.sI (by decide)
  have en : k_n (k_ct0 K) = N := by unfold k_n; rw [k_ct0_e (by decide)]; exact dn
  have eg : k_g (k_ct0 K) = G := by unfold k_g; rw [k_ct0_e (by decide)]; exact dg
  have c7 : (k_ct0 K 7).toNatClampNeg = c := by rw [k_ct0_e (by decide), l2, nI_clamp (by omega)]
  have m : ∀ a k, a ≠ 3 → (a < 12 ∨ 17 < a) → ir_I (ir_sI M2 3 2 (nI 0)) a k = ir_I M1 a k := fun a k h1 h2 => by
    rw [q_I_eq q3 (fun w => h1 (List.mem_singleton.mp w)), q_I_eq q2 (fun w => by
      simp only [List.mem_cons, List.not_mem_nil, or_false] at w
      omega)]
  refine ⟨ir_sI M2 3 2 (nI 0), ?_, ((q1.sub (by decide)).tr (q2.sub (by decide))).tr (q3.sub (by decide)), ⟨?_, ?_, ?_, ?_, ?_, ?_, ?_, fun p hp => ?_, fun p g hp hg => ?_, fun p q hp hq => ?_, ?_, fun i hi => ?_⟩, fun p hp => ?_, ?_, q_I_s, fun k hk => ?_, ?_⟩
  · rw [E_X5_begin]
    simp (disch := omega) only [q_ckt, q_lt, q_cI, q_cJ, q_cV, q_cP, q_xI, q_xV, q_xP, q_xJ, g_gk, g_ga, g_gw, g_gp, g_gq, g_P, g_J, q_I_s, q_I_n, q_I_k, nI_add, pk_sub, pk_mul, nI_clamp, n_lt0, n_0lt, n_eq0, n_lt, n_le, n_eq, n_m1, n_m2, n_m9, n_12, n_19, n_10, n_01, n_1n1, n_0n1, n_1n0, n_0n0, n_dI, n_m1lt, q_inb, n_nar, n_nar0, n_nar1, n_bool, Bool.false_eq_true, Bool.true_eq_false, if_true, if_false, ↓reduceIte, Nat.reduceAdd, Nat.reduceMul, Nat.reduceSub, Nat.reduceLT, Nat.reduceLeDiff, Nat.reduceEqDiff, Nat.reduceMod, Nat.reduceDiv, q_W hp, q_T hp, e1, q_W p1, q_S p1 (show 12 ∈ q_S_l by decide), e2, q_W p2]
  · rw [m _ _ (by decide) (by decide), t0 0 (by decide), k_ct0_e (by decide)]; exact z1
  · rw [m _ _ (by decide) (by decide), t0 1 (by decide), k_ct0_e (by decide)]; exact z2
  · rw [m _ _ (by decide) (by decide), t0 2 (by decide), k_ct0_e (by decide)]; exact z3
  · rw [m _ _ (by decide) (by decide), t0 3 (by decide), k_ct0_e (by decide)]; exact z4
  · rw [m _ _ (by decide) (by decide), t0 4 (by decide), k_ct0_e (by decide)]; exact z5
  · rw [m _ _ (by decide) (by decide), t0 5 (by decide), k_ct0_e (by decide)]; exact z6
  · rw [m _ _ (by decide) (by decide), t0 6 (by decide), k_ct0_e (by decide)]; exact z7
  · rw [en] at hp
    rw [m _ _ (by decide) (by decide), t1 p (by omega), k_ct0_e (by omega)]; exact z8 p (by rw [dn]; exact hp)
  · rw [en] at hp; rw [eg] at hg
    rw [m _ _ (by decide) (by decide), t6 _ (by omega), k_ct0_e (by omega)]; exact z9 p g (by rw [dn]; exact hp) (by rw [dg]; exact hg)
  · rw [en] at hp hq
    rw [m _ _ (by decide) (by decide), t7 _ (by omega), k_ct0_e (by omega)]; exact z10 p q (by rw [dn]; exact hp) (by rw [dn]; exact hq)
  · rw [m _ _ (by decide) (by decide), k_ct0_e (by decide), l2]; exact t3
  · rw [c7] at hi
    have e : k_sp (k_ct0 K) i = k_sp K i := by unfold k_sp; rw [k_ct0_e (by omega)]
    rw [m _ _ (by decide) (by decide), t4 i hi, e]
    exact z12 i (by rw [l2, nI_clamp (by omega)]; exact hi)
  · rw [en] at hp
    obtain ⟨x, w1, w2, w3⟩ := h2' p (by rw [dn]; exact hp)
    refine ⟨x, w1, ?_, fun q hq => (w3 q hq).trans (k_ap_cg da (k_ct0_e (by decide)) (fun k h1 h2 => k_ct0_e (by omega)) p q).symm⟩
    rw [m _ _ (by decide) (by decide), t2 p (by omega)]; exact w2
  · have s1 : c_st M1 109 K := c_st_fr (fun j hj => q1.1 _ (fun w => by
      simp only [List.mem_cons, List.not_mem_nil, or_false] at w
      omega)) h3
    have s2 : c_st M2 12 K := c_st_take hb.2.2.1 hb.1 hb.2.2.2.1 s1 u0 u1
    have s3 : c_st M2 12 (k_ct0 K) := c_st_cg hb.2.2.1 hb.1 hb.2.2.2.1 (fun k h1 h2 => k_ct0_e (by omega)) s2
    exact c_st_fr (fun j hj => q3.1 _ (fun w => by
      have := List.mem_singleton.mp w
      omega)) s3
  · rw [q_I_k hk, q_I_eq q2 (by decide), q_I_eq q1 (by decide)]
  · rw [m _ _ (by decide) (by decide), t0 0 (by decide)]; exact z1
end WB
