/-! THE WELL: a person, the stages -/
def k_sfl (B : Nat → Nat) (n s j : Nat) (hi : Int) : Nat := if k_kd B n s = 256 + j then k_nf (k_kd B n (k_nt B n s)) (k_vl B n (k_nt B n s)) 0 hi else k_fk (k_kd B n s) 2
def k_sq2 (B : Nat → Nat) (n s j : Nat) : Nat := if k_kd B n s = 256 + j then k_nt B n s else s
section PS
variable {B : Nat → Nat} {n L : Nat} {xs : Nat → Int32} {M0 M M' : ir_M} {d dp s f p G N : Nat} {K K' : Nat → Int32}
theorem k_sfl_b {j : Nat} {hi : Int} : k_sfl B n s j hi ≤ 4 := by
  unfold k_sfl
  split
  · exact k_nf_b
  · exact (k_fk_b (by decide)).2
theorem k_sfl_0 {j : Nat} {hi : Int} (h : k_sfl B n s j hi = 0) : k_kd B n s = 256 + j ∧ k_kd B n (k_nt B n s) = 2 ∧ (k_vl B n (k_nt B n s) : Int) ≤ hi ∧ k_nf (k_kd B n (k_nt B n s)) (k_vl B n (k_nt B n s)) 0 hi = 0 := by
  unfold k_sfl at h
  by_cases c : k_kd B n s = 256 + j
  · rw [if_pos c] at h
    obtain ⟨c1, -, c3⟩ := k_nf_0 h
    exact ⟨c, c1, c3, h⟩
  · rw [if_neg c] at h
    exact absurd h (k_fk_b (by decide)).1
theorem k_sq2_b {j : Nat} (hs : s ≤ n) : s ≤ k_sq2 B n s j ∧ k_sq2 B n s j ≤ n := by
  obtain ⟨b1, b2, -⟩ := k_nt_b (B := B) hs
  unfold k_sq2
  split <;> omega
/-- cells of the one being read -/
theorem c_K_p (hF : k_FR G N K) (hM : ∀ a k, ¬ ((a = 102 ∧ k = N) ∨ (a = 112 ∧ k = N) ∨ (a = 111 ∧ k = N) ∨ (a = 107 ∧ 6 * N ≤ k)) → a ≠ 100 → ir_I M' a k = ir_I M a k) (hK : ∀ k, k ≠ 53 + N → k ≠ 26 + N → k ≠ 18 + N → ¬ (61 + 6 * N ≤ k ∧ k < 67 + 6 * N) → K' k = K k) (hN : N < 8) (h : c_K M K) : c_K M' K' := by
  obtain ⟨dn, dg, dm, dw, da, hb⟩ := k_FR_d hF
  have hG := hF.1.2.1
  have ek : ∀ k, k ≠ 53 + N ∧ k ≠ 26 + N ∧ k ≠ 18 + N ∧ ¬ (61 + 6 * N ≤ k ∧ k < 67 + 6 * N) → K' k = K k := fun k w => hK k w.1 w.2.1 w.2.2.1 w.2.2.2
  have en : k_n K' = N := by unfold k_n; rw [ek 2 (by omega)]; exact dn
  have eg : k_g K' = G := by unfold k_g; rw [ek 1 (by omega)]; exact dg
  have em : k_m K' = N := by unfold k_m; rw [ek 9 (by omega)]; exact dm
  have ew : k_w K' = 0 := by unfold k_w; rw [ek 44 (by omega)]; exact dw
  have ean : k_na K' = k_na K := by unfold k_na; rw [ek 6 (by omega)]
  obtain ⟨⟨z1, z2, z3, z4, z5, z6, z7, z8, z9, z10, z11, z12⟩, h2', h3, y1, y2, y3⟩ := h
  rw [dn] at z8 z9 z10 y1
  rw [dg] at z9
  obtain ⟨t1, t2, t3, t4, t5, t6, t7, t8, t9⟩ := h3
  rw [dm] at t5
  rw [dn] at t6 t7 t8
  refine ⟨⟨?_, ?_, ?_, ?_, ?_, ?_, ?_, fun p hp => ?_, fun p g hp hg => ?_, fun p q hp hq => ?_, ?_, fun i hi => ?_⟩, fun p hp => ?_, ⟨?_, ?_, ?_, ?_, fun i hi => ?_, fun p hp => ?_, fun p hp => ?_, fun p hp => ?_, fun i hi => ?_⟩, fun p hp hn => ?_, fun k hk => ?_, fun p hp => ?_⟩
  · rw [hM _ _ (by omega) (by decide), ek _ (by omega)]; exact z1
  · rw [hM _ _ (by omega) (by decide), ek _ (by omega)]; exact z2
  · rw [hM _ _ (by omega) (by decide), ek _ (by omega)]; exact z3
  · rw [hM _ _ (by omega) (by decide), ek _ (by omega)]; exact z4
  · rw [hM _ _ (by omega) (by decide), ek _ (by omega)]; exact z5
  · rw [hM _ _ (by omega) (by decide), ek _ (by omega)]; exact z6
  · rw [hM _ _ (by omega) (by decide), ek _ (by omega)]; exact z7
  · rw [en] at hp; rw [hM _ _ (by omega) (by decide), ek _ (by omega)]; exact z8 p hp
  · rw [en] at hp; rw [eg] at hg; rw [hM _ _ (by omega) (by decide), ek _ (by omega)]; exact z9 p g hp hg
  · rw [en] at hp hq; rw [hM _ _ (by omega) (by decide), ek _ (by omega)]; exact z10 p q hp hq
  · rw [hM _ _ (by omega) (by decide), ek _ (by omega)]; exact z11
  · rw [ek 7 (by omega)] at hi
    have e : k_sp K' i = k_sp K i := by unfold k_sp; rw [ek _ (by omega)]
    rw [hM _ _ (by omega) (by decide), e]; exact z12 i hi
  · rw [en] at hp
    obtain ⟨x, w1, w2, w3⟩ := h2' p (by rw [dn]; exact hp)
    refine ⟨x, w1, by rw [hM _ _ (by omega) (by decide)]; exact w2, fun q hq => (w3 q hq).trans ?_⟩
    unfold k_ap
    rw [ean]
    congr 1
    funext j
    rw [ek _ (by omega), ek _ (by omega)]
  · rw [hM _ _ (by omega) (by decide), ek _ (by omega)]; exact t1
  · rw [hM _ _ (by omega) (by decide), ek _ (by omega)]; exact t2
  · rw [hM _ _ (by omega) (by decide), ek _ (by omega)]; exact t3
  · rw [hM _ _ (by omega) (by decide), ek _ (by omega)]; exact t4
  · rw [em] at hi; rw [hM _ _ (by omega) (by decide), ek _ (by omega)]; exact t5 i hi
  · rw [en] at hp; rw [hM _ _ (by omega) (by decide), ek _ (by omega)]; exact t6 p hp
  · rw [en] at hp; rw [hM _ _ (by omega) (by decide), ek _ (by omega)]; exact t7 p hp
  · rw [en] at hp; rw [hM _ _ (by omega) (by decide), ek _ (by omega)]; exact t8 p hp
  · rw [ew] at hi; exact absurd hi (Nat.not_lt_zero _)
  · rw [en] at hn; rw [hM _ _ (by omega) (by decide)]; exact y1 p hp hn
  · rw [hM _ _ (by omega) (by decide), ek _ (by omega)]; exact y2 k hk
  · rw [hM _ _ (by omega) (by decide), ek _ (by omega)]; exact y3 p hp
theorem k_FR_p (hF : k_FR G N K) (hN : N < 8) {c : Nat} {v : Int32} (hc : c = 53 + N ∨ c = 26 + N ∨ c = 18 + N ∨ (61 + 6 * N ≤ c ∧ c < 67 + 6 * N ∧ -99 ≤ v.toInt ∧ v.toInt ≤ 99)) : k_FR G N (k_put1 K c v) := by
  have e : ∀ k, k ≠ c → k_put1 K c v k = K k := fun k hk => if_neg hk
  obtain ⟨⟨a1, a2, a3, a4, a5, a6⟩, g2, g3, g4, g5, g6, ⟨A, A8, g7, g8⟩, g9, ⟨g10, g11, g12⟩, g13, g14⟩ := hF
  refine ⟨⟨a1, a2, a3, by rw [e 1 (by omega)]; exact a4, by rw [e 2 (by omega)]; exact a5, by rw [e 9 (by omega)]; exact a6⟩, fun i hi => by rw [e _ (by omega)]; exact g2 i hi, fun p hp => ?_, by rw [e 3 (by omega)]; exact g4, by rw [e 4 (by omega)]; exact g5, by rw [e 5 (by omega)]; exact g6, ⟨A, A8, by rw [e 6 (by omega)]; exact g7, fun k hk => ?_⟩, k_wfL_cg (e 7 (by omega)) (fun k hk => e k (by omega)) g9, ⟨by rw [e 8 (by omega)]; exact g10, fun k h1 h2 => by rw [e k (by omega)]; exact g11 k h1 h2, by rw [e 44 (by omega)]; exact g12⟩, by rw [e 43 (by omega)]; exact g13, fun k h1 h2 => ?_⟩
  · obtain ⟨a, b1, b2⟩ := g3 p hp
    exact ⟨a, b1, by rw [e _ (by omega)]; exact b2⟩
  · obtain ⟨p, q, b1, b2, b3, b4⟩ := g8 k hk
    exact ⟨p, q, b1, b2, by rw [e _ (by omega)]; exact b3, by rw [e _ (by omega)]; exact b4⟩
  · by_cases z : k = c
    · rw [z, show k_put1 K c v c = v from if_pos rfl]
      omega
    · rw [e k z]; exact g14 k h1 h2
theorem c_sg1 (h : c_P B n L xs M0 s K M) (hF : k_FR G N K) (hN : N < 8) (hd : 9 ≤ d) : (k_sfl B n s 16 99 = 0 → ∃ M7, c_P B n L xs M0 (k_nt B n (k_nt B n s)) (k_put1 K (53 + N) (nI (k_vl B n (k_nt B n s)))) M7 ∧ ir_I M7 102 N = nI (k_vl B n (k_nt B n s)) ∧ q_eq [100, 102] M M7 ∧ ∀ F : ir_M → ir_R, ir_ck (ir_gk M 100 4) (ir_cI (m_X4_take d 100 (nI 272) M) (fun r3 M2 => if r3 = 0 then ir_ck (ir_nar 1 (nI 0)) (ir_oI (nI 0) M2) else ir_ck (ir_gk M2 100 4) (ir_cI (m_X4_takeNumber d 100 (nI 0) (nI 99) M2) (fun r5 M4 => if r5 = 0 then ir_ck (ir_nar 1 (nI 0)) (ir_oI (nI 0) M4) else ir_ck (ir_gp M4 100 4 2) (ir_ck (ir_gp M4 (ir_P M4 100 2) 9 7) (ir_ck (ir_gk M4 100 4) (ir_ck (ir_gw M4 (ir_P M4 (ir_P M4 100 2) 7) 100 (nI N)) (ir_lt (ir_sI M4 (ir_P M4 (ir_P M4 100 2) 7) (nI N).toNatClampNeg (ir_I M4 100 10)) (fun M6 => ir_ck (ir_gk M6 100 4) (ir_cV (m_X4_next d 100 M6) (fun M7 => F M7))))))))))) = F M7) ∧ (k_sfl B n s 16 99 ≠ 0 → ∃ M', c_F B n L xs M0 (k_sfl B n s 16 99) (k_sq2 B n s 16) M' ∧ ∀ F : ir_M → ir_R, ir_ck (ir_gk M 100 4) (ir_cI (m_X4_take d 100 (nI 272) M) (fun r3 M2 => if r3 = 0 then ir_ck (ir_nar 1 (nI 0)) (ir_oI (nI 0) M2) else ir_ck (ir_gk M2 100 4) (ir_cI (m_X4_takeNumber d 100 (nI 0) (nI 99) M2) (fun r5 M4 => if r5 = 0 then ir_ck (ir_nar 1 (nI 0)) (ir_oI (nI 0) M4) else ir_ck (ir_gp M4 100 4 2) (ir_ck (ir_gp M4 (ir_P M4 100 2) 9 7) (ir_ck (ir_gk M4 100 4) (ir_ck (ir_gw M4 (ir_P M4 (ir_P M4 100 2) 7) 100 (nI N)) (ir_lt (ir_sI M4 (ir_P M4 (ir_P M4 100 2) 7) (nI N).toNatClampNeg (ir_I M4 100 10)) (fun M6 => ir_ck (ir_gk M6 100 4) (ir_cV (m_X4_next d 100 M6) (fun M7 => F M7))))))))))) = ir_oI (nI 0) M') := by
  obtain ⟨M2, e2, t2, t2'⟩ := c_tk (d := d) h.1 (w := 272) (by decide) (by omega)
  by_cases c : k_kd B n s = 272
  · have es : k_sfl B n s 16 99 = k_nf (k_kd B n (k_nt B n s)) (k_vl B n (k_nt B n s)) 0 99 := if_pos c
    have ep : k_sq2 B n s 16 = k_nt B n s := if_pos c
    rw [es, ep]
    rw [if_pos c] at e2
    have P2 := c_P_e h (t2 c)
    obtain ⟨M4, e4, e4', t4⟩ := c_num (d := d) P2.1 (a := 0) (hi := nI 99) (by decide) (by omega)
    have eh : (nI 99).toInt = 99 := by rw [show (nI 99).toInt = (99 : Int) by decide +kernel]
    rw [eh] at e4 e4' t4
    refine ⟨fun z => ?_, fun z => ⟨M4, t4 z, fun F => ?_⟩⟩
    · rw [if_pos z, e4' z] at e4
      have h10 := P2.1.2.2.2.2.2.2.2.2.2 (k_nf_0 z).1
      have q1 : q_eq [102] M2 (ir_sI M2 102 N (nI (k_vl B n (k_nt B n s)))) := q_eq.sI (by decide)
      have P6 : c_P B n L xs M0 (k_nt B n s) (k_put1 K (53 + N) (nI (k_vl B n (k_nt B n s)))) (ir_sI M2 102 N (nI (k_vl B n (k_nt B n s)))) := ⟨c_T_eq P2.1 q1 (by decide) (c_cn_eq q1 (by decide) P2.1.2.2.1), c_K_p hF (fun a k hk _ => by
        by_cases w : a = 102
        · rw [w, q_I_k (by omega)]
        · exact q_I_eq q1 (fun y => w (List.mem_singleton.mp y)) k) (fun k h1 h2 h3 _ => if_neg (by omega)) hN P2.2⟩
      obtain ⟨M7, e7, t7, q7⟩ := c_next (d := d) P6.1 (by omega)
      refine ⟨M7, c_P_e P6 ⟨t7, q7⟩, by rw [q_I_eq q7 (by decide), q_I_s], (((t2 c).2.sub (by decide)).tr (q1.sub (by decide))).tr (q7.sub (by decide)), fun F => ?_⟩
      simp (disch := omega) only [q_ckt, q_lt, q_cI, q_cJ, q_cV, q_cP, q_xI, q_xV, q_xP, q_xJ, g_gk, g_ga, g_gw, g_gp, g_gq, g_P, g_J, q_I_s, q_I_n, q_I_k, nI_add, pk_sub, pk_mul, nI_clamp, n_lt0, n_0lt, n_eq0, n_lt, n_le, n_eq, n_m1, n_m2, n_m9, n_12, n_19, n_10, n_01, n_1n1, n_0n1, n_1n0, n_0n0, n_dI, n_m1lt, q_inb, n_nar, n_nar0, n_nar1, n_bool, Bool.false_eq_true, Bool.true_eq_false, if_true, if_false, ↓reduceIte, Nat.reduceAdd, Nat.reduceMul, Nat.reduceSub, Nat.reduceLT, Nat.reduceLeDiff, Nat.reduceEqDiff, Nat.reduceMod, Nat.reduceDiv, q_D h.1.1.1, e2, q_D P2.1.1.1, q_N P2.1.1.1, e4, h10, e7, n_nr]
    · rw [if_neg z] at e4
      simp (disch := omega) only [q_ckt, q_lt, q_cI, q_cJ, q_cV, q_cP, q_xI, q_xV, q_xP, q_xJ, g_gk, g_ga, g_gw, g_gp, g_gq, g_P, g_J, q_I_s, q_I_n, q_I_k, nI_add, pk_sub, pk_mul, nI_clamp, n_lt0, n_0lt, n_eq0, n_lt, n_le, n_eq, n_m1, n_m2, n_m9, n_12, n_19, n_10, n_01, n_1n1, n_0n1, n_1n0, n_0n0, n_dI, n_m1lt, q_inb, n_nar, n_nar0, n_nar1, n_bool, Bool.false_eq_true, Bool.true_eq_false, if_true, if_false, ↓reduceIte, Nat.reduceAdd, Nat.reduceMul, Nat.reduceSub, Nat.reduceLT, Nat.reduceLeDiff, Nat.reduceEqDiff, Nat.reduceMod, Nat.reduceDiv, q_D h.1.1.1, e2, q_D P2.1.1.1, q_N P2.1.1.1, e4, n_nr]
  · have es : k_sfl B n s 16 99 = k_fk (k_kd B n s) 2 := if_neg c
    have ep : k_sq2 B n s 16 = s := if_neg c
    rw [es, ep]
    rw [if_neg c] at e2
    refine ⟨fun z => absurd z (k_fk_b (by decide)).1, fun z => ⟨M2, t2' c, fun F => ?_⟩⟩
    simp (disch := omega) only [q_ckt, q_lt, q_cI, q_cJ, q_cV, q_cP, q_xI, q_xV, q_xP, q_xJ, g_gk, g_ga, g_gw, g_gp, g_gq, g_P, g_J, q_I_s, q_I_n, q_I_k, nI_add, pk_sub, pk_mul, nI_clamp, n_lt0, n_0lt, n_eq0, n_lt, n_le, n_eq, n_m1, n_m2, n_m9, n_12, n_19, n_10, n_01, n_1n1, n_0n1, n_1n0, n_0n0, n_dI, n_m1lt, q_inb, n_nar, n_nar0, n_nar1, n_bool, Bool.false_eq_true, Bool.true_eq_false, if_true, if_false, ↓reduceIte, Nat.reduceAdd, Nat.reduceMul, Nat.reduceSub, Nat.reduceLT, Nat.reduceLeDiff, Nat.reduceEqDiff, Nat.reduceMod, Nat.reduceDiv, q_D h.1.1.1, e2, n_nr]
theorem r_sg1 (h : r_P B n L xs M0 0 s K M) (hF : k_FR G N K) (hN : N < 8) (hd : 8 ≤ d) : (k_sfl B n s 16 99 = 0 → ∃ M5, r_P B n L xs M0 0 (k_nt B n (k_nt B n s)) (k_put1 K (53 + N) (nI (k_vl B n (k_nt B n s)))) M5 ∧ ∀ F : ir_M → ir_R, ir_ck (ir_gk M 412 12) (ir_cV (m_X12_mustWord d 412 1000035 M) (fun M2 => ir_ck (ir_gp M2 412 12 1) (ir_ck (ir_gk M2 412 12) (ir_cI (m_X12_number d 412 (nI 0) (nI 99) M2) (fun r4 M3 => ir_ck (ir_gw M3 (ir_P M2 412 1) 100 ((nI 53) + nI N)) (ir_lt (ir_sI M3 (ir_P M2 412 1) ((nI 53) + nI N).toNatClampNeg r4) (fun M5 => F M5))))))) = F M5) ∧ (k_sfl B n s 16 99 ≠ 0 → ∃ M5, r_F B n L xs M0 (k_sfl B n s 16 99) (k_sq2 B n s 16) M5 ∧ ∀ F : ir_M → ir_R, ir_ck (ir_gk M 412 12) (ir_cV (m_X12_mustWord d 412 1000035 M) (fun M2 => ir_ck (ir_gp M2 412 12 1) (ir_ck (ir_gk M2 412 12) (ir_cI (m_X12_number d 412 (nI 0) (nI 99) M2) (fun r4 M3 => ir_ck (ir_gw M3 (ir_P M2 412 1) 100 ((nI 53) + nI N)) (ir_lt (ir_sI M3 (ir_P M2 412 1) ((nI 53) + nI N).toNatClampNeg r4) (fun M5 => F M5))))))) = F M5) := by
  have g1 : ir_I M 414 1 = nI G := (h.2 1).trans hF.1.2.2.2.1
  have hG := hF.1.2.1
  obtain ⟨M2, e2, t2, t2'⟩ := r_mw (d := d) h.1 (j := 16) (a := 1000035) (by decide) rfl hG g1 (by omega)
  by_cases c : k_kd B n s = 272
  · have es : k_sfl B n s 16 99 = k_nf (k_kd B n (k_nt B n s)) (k_vl B n (k_nt B n s)) 0 99 := if_pos c
    have ep : k_sq2 B n s 16 = k_nt B n s := if_pos c
    rw [es, ep]
    have P2 := r_P_e h (t2 c)
    obtain ⟨M3, e3, t3, t3'⟩ := r_num (d := d) P2.1 (a := 0) (hi := nI 99) (by decide) hG ((P2.2 1).trans hF.1.2.2.2.1) (by omega)
    have eh : (nI 99).toInt = 99 := by rw [show (nI 99).toInt = (99 : Int) by decide +kernel]
    rw [eh] at e3 t3 t3'
    refine ⟨fun z => ?_, fun z => ?_⟩
    · rw [if_pos z] at e3
      have P3 := r_P_e P2 (t3 z)
      refine ⟨_, r_P_4 (k := 53 + N) P3, fun F => ?_⟩
      simp (disch := omega) only [q_ckt, q_lt, q_cI, q_cJ, q_cV, q_cP, q_xI, q_xV, q_xP, q_xJ, g_gk, g_ga, g_gw, g_gp, g_gq, g_P, g_J, q_I_s, q_I_n, q_I_k, nI_add, pk_sub, pk_mul, nI_clamp, n_lt0, n_0lt, n_eq0, n_lt, n_le, n_eq, n_m1, n_m2, n_m9, n_12, n_19, n_10, n_01, n_1n1, n_0n1, n_1n0, n_0n0, n_dI, n_m1lt, q_inb, n_nar, n_nar0, n_nar1, n_bool, Bool.false_eq_true, Bool.true_eq_false, if_true, if_false, ↓reduceIte, Nat.reduceAdd, Nat.reduceMul, Nat.reduceSub, Nat.reduceLT, Nat.reduceLeDiff, Nat.reduceEqDiff, Nat.reduceMod, Nat.reduceDiv, q_R h.1.1.1, e2, q_R P2.1.1.1, e3, q_R P3.1.1.1]
    · rw [if_neg z] at e3
      have F3 := t3' z
      refine ⟨_, r_F_4 (k := 53 + N) (v := nI 0) F3 (by omega), fun F => ?_⟩
      simp (disch := omega) only [q_ckt, q_lt, q_cI, q_cJ, q_cV, q_cP, q_xI, q_xV, q_xP, q_xJ, g_gk, g_ga, g_gw, g_gp, g_gq, g_P, g_J, q_I_s, q_I_n, q_I_k, nI_add, pk_sub, pk_mul, nI_clamp, n_lt0, n_0lt, n_eq0, n_lt, n_le, n_eq, n_m1, n_m2, n_m9, n_12, n_19, n_10, n_01, n_1n1, n_0n1, n_1n0, n_0n0, n_dI, n_m1lt, q_inb, n_nar, n_nar0, n_nar1, n_bool, Bool.false_eq_true, Bool.true_eq_false, if_true, if_false, ↓reduceIte, Nat.reduceAdd, Nat.reduceMul, Nat.reduceSub, Nat.reduceLT, Nat.reduceLeDiff, Nat.reduceEqDiff, Nat.reduceMod, Nat.reduceDiv, q_R h.1.1.1, e2, q_R P2.1.1.1, e3, q_R F3.1.1]
  · have es : k_sfl B n s 16 99 = k_fk (k_kd B n s) 2 := if_neg c
    have ep : k_sq2 B n s 16 = s := if_neg c
    rw [es, ep]
    have F2 := t2' c
    refine ⟨fun z => absurd z (k_fk_b (by decide)).1, fun z => ⟨_, r_F_4 (k := 53 + N) (v := nI 0) F2 (by omega), fun F => ?_⟩⟩
    simp (disch := omega) only [q_ckt, q_lt, q_cI, q_cJ, q_cV, q_cP, q_xI, q_xV, q_xP, q_xJ, g_gk, g_ga, g_gw, g_gp, g_gq, g_P, g_J, q_I_s, q_I_n, q_I_k, nI_add, pk_sub, pk_mul, nI_clamp, n_lt0, n_0lt, n_eq0, n_lt, n_le, n_eq, n_m1, n_m2, n_m9, n_12, n_19, n_10, n_01, n_1n1, n_0n1, n_1n0, n_0n0, n_dI, n_m1lt, q_inb, n_nar, n_nar0, n_nar1, n_bool, Bool.false_eq_true, Bool.true_eq_false, if_true, if_false, ↓reduceIte, Nat.reduceAdd, Nat.reduceMul, Nat.reduceSub, Nat.reduceLT, Nat.reduceLeDiff, Nat.reduceEqDiff, Nat.reduceMod, Nat.reduceDiv, q_R h.1.1.1, e2, q_R F2.1.1, r_numF F2 (lo := nI 0) (hi := nI 99) (show 2 ≤ d by omega)]
theorem r_sgF1 (h : r_F B n L xs M0 f p M) (hN : N < 8) (hd : 8 ≤ d) : ∃ M5, r_F B n L xs M0 f p M5 ∧ ∀ F : ir_M → ir_R, ir_ck (ir_gk M 412 12) (ir_cV (m_X12_mustWord d 412 1000035 M) (fun M2 => ir_ck (ir_gp M2 412 12 1) (ir_ck (ir_gk M2 412 12) (ir_cI (m_X12_number d 412 (nI 0) (nI 99) M2) (fun r4 M3 => ir_ck (ir_gw M3 (ir_P M2 412 1) 100 ((nI 53) + nI N)) (ir_lt (ir_sI M3 (ir_P M2 412 1) ((nI 53) + nI N).toNatClampNeg r4) (fun M5 => F M5))))))) = F M5 := by
  refine ⟨_, r_F_4 (k := 53 + N) (v := nI 0) h (by omega), fun F => ?_⟩
  simp (disch := omega) only [q_ckt, q_lt, q_cI, q_cJ, q_cV, q_cP, q_xI, q_xV, q_xP, q_xJ, g_gk, g_ga, g_gw, g_gp, g_gq, g_P, g_J, q_I_s, q_I_n, q_I_k, nI_add, pk_sub, pk_mul, nI_clamp, n_lt0, n_0lt, n_eq0, n_lt, n_le, n_eq, n_m1, n_m2, n_m9, n_12, n_19, n_10, n_01, n_1n1, n_0n1, n_1n0, n_0n0, n_dI, n_m1lt, q_inb, n_nar, n_nar0, n_nar1, n_bool, Bool.false_eq_true, Bool.true_eq_false, if_true, if_false, ↓reduceIte, Nat.reduceAdd, Nat.reduceMul, Nat.reduceSub, Nat.reduceLT, Nat.reduceLeDiff, Nat.reduceEqDiff, Nat.reduceMod, Nat.reduceDiv, q_R h.1.1, r_mwF h (a := 1000035) (show 3 ≤ d by omega), r_numF h (lo := nI 0) (hi := nI 99) (show 2 ≤ d by omega)]
theorem c_sg2 (h : c_P B n L xs M0 s K M) (hF : k_FR G N K) (hN : N < 8) (hd : 9 ≤ d) : (k_sfl B n s 17 999 = 0 → ∃ M7, c_P B n L xs M0 (k_nt B n (k_nt B n s)) (k_put1 K (26 + N) (nI (k_vl B n (k_nt B n s)))) M7 ∧ ir_I M7 112 N = nI (k_vl B n (k_nt B n s)) ∧ q_eq [100, 112] M M7 ∧ ∀ F : ir_M → ir_R, ir_ck (ir_gk M 100 4) (ir_cI (m_X4_take d 100 (nI 273) M) (fun r3 M2 => if r3 = 0 then ir_ck (ir_nar 1 (nI 0)) (ir_oI (nI 0) M2) else ir_ck (ir_gk M2 100 4) (ir_cI (m_X4_takeNumber d 100 (nI 0) (nI 999) M2) (fun r5 M4 => if r5 = 0 then ir_ck (ir_nar 1 (nI 0)) (ir_oI (nI 0) M4) else ir_ck (ir_gp M4 100 4 3) (ir_ck (ir_gp M4 (ir_P M4 100 3) 8 6) (ir_ck (ir_gk M4 100 4) (ir_ck (ir_gw M4 (ir_P M4 (ir_P M4 100 3) 6) 100 (nI N)) (ir_lt (ir_sI M4 (ir_P M4 (ir_P M4 100 3) 6) (nI N).toNatClampNeg (ir_I M4 100 10)) (fun M6 => ir_ck (ir_gk M6 100 4) (ir_cV (m_X4_next d 100 M6) (fun M7 => F M7))))))))))) = F M7) ∧ (k_sfl B n s 17 999 ≠ 0 → ∃ M', c_F B n L xs M0 (k_sfl B n s 17 999) (k_sq2 B n s 17) M' ∧ ∀ F : ir_M → ir_R, ir_ck (ir_gk M 100 4) (ir_cI (m_X4_take d 100 (nI 273) M) (fun r3 M2 => if r3 = 0 then ir_ck (ir_nar 1 (nI 0)) (ir_oI (nI 0) M2) else ir_ck (ir_gk M2 100 4) (ir_cI (m_X4_takeNumber d 100 (nI 0) (nI 999) M2) (fun r5 M4 => if r5 = 0 then ir_ck (ir_nar 1 (nI 0)) (ir_oI (nI 0) M4) else ir_ck (ir_gp M4 100 4 3) (ir_ck (ir_gp M4 (ir_P M4 100 3) 8 6) (ir_ck (ir_gk M4 100 4) (ir_ck (ir_gw M4 (ir_P M4 (ir_P M4 100 3) 6) 100 (nI N)) (ir_lt (ir_sI M4 (ir_P M4 (ir_P M4 100 3) 6) (nI N).toNatClampNeg (ir_I M4 100 10)) (fun M6 => ir_ck (ir_gk M6 100 4) (ir_cV (m_X4_next d 100 M6) (fun M7 => F M7))))))))))) = ir_oI (nI 0) M') := by
  obtain ⟨M2, e2, t2, t2'⟩ := c_tk (d := d) h.1 (w := 273) (by decide) (by omega)
  by_cases c : k_kd B n s = 273
  · have es : k_sfl B n s 17 999 = k_nf (k_kd B n (k_nt B n s)) (k_vl B n (k_nt B n s)) 0 999 := if_pos c
    have ep : k_sq2 B n s 17 = k_nt B n s := if_pos c
    rw [es, ep]
    rw [if_pos c] at e2
    have P2 := c_P_e h (t2 c)
    obtain ⟨M4, e4, e4', t4⟩ := c_num (d := d) P2.1 (a := 0) (hi := nI 999) (by decide) (by omega)
    have eh : (nI 999).toInt = 999 := by rw [show (nI 999).toInt = (999 : Int) by decide +kernel]
    rw [eh] at e4 e4' t4
    refine ⟨fun z => ?_, fun z => ⟨M4, t4 z, fun F => ?_⟩⟩
    · rw [if_pos z, e4' z] at e4
      have h10 := P2.1.2.2.2.2.2.2.2.2.2 (k_nf_0 z).1
      have q1 : q_eq [112] M2 (ir_sI M2 112 N (nI (k_vl B n (k_nt B n s)))) := q_eq.sI (by decide)
      have P6 : c_P B n L xs M0 (k_nt B n s) (k_put1 K (26 + N) (nI (k_vl B n (k_nt B n s)))) (ir_sI M2 112 N (nI (k_vl B n (k_nt B n s)))) := ⟨c_T_eq P2.1 q1 (by decide) (c_cn_eq q1 (by decide) P2.1.2.2.1), c_K_p hF (fun a k hk _ => by
        by_cases w : a = 112
        · rw [w, q_I_k (by omega)]
        · exact q_I_eq q1 (fun y => w (List.mem_singleton.mp y)) k) (fun k h1 h2 h3 _ => if_neg (by omega)) hN P2.2⟩
      obtain ⟨M7, e7, t7, q7⟩ := c_next (d := d) P6.1 (by omega)
      refine ⟨M7, c_P_e P6 ⟨t7, q7⟩, by rw [q_I_eq q7 (by decide), q_I_s], (((t2 c).2.sub (by decide)).tr (q1.sub (by decide))).tr (q7.sub (by decide)), fun F => ?_⟩
      simp (disch := omega) only [q_ckt, q_lt, q_cI, q_cJ, q_cV, q_cP, q_xI, q_xV, q_xP, q_xJ, g_gk, g_ga, g_gw, g_gp, g_gq, g_P, g_J, q_I_s, q_I_n, q_I_k, nI_add, pk_sub, pk_mul, nI_clamp, n_lt0, n_0lt, n_eq0, n_lt, n_le, n_eq, n_m1, n_m2, n_m9, n_12, n_19, n_10, n_01, n_1n1, n_0n1, n_1n0, n_0n0, n_dI, n_m1lt, q_inb, n_nar, n_nar0, n_nar1, n_bool, Bool.false_eq_true, Bool.true_eq_false, if_true, if_false, ↓reduceIte, Nat.reduceAdd, Nat.reduceMul, Nat.reduceSub, Nat.reduceLT, Nat.reduceLeDiff, Nat.reduceEqDiff, Nat.reduceMod, Nat.reduceDiv, q_D h.1.1.1, e2, q_D P2.1.1.1, q_N P2.1.1.1, e4, h10, e7, n_nr]
    · rw [if_neg z] at e4
      simp (disch := omega) only [q_ckt, q_lt, q_cI, q_cJ, q_cV, q_cP, q_xI, q_xV, q_xP, q_xJ, g_gk, g_ga, g_gw, g_gp, g_gq, g_P, g_J, q_I_s, q_I_n, q_I_k, nI_add, pk_sub, pk_mul, nI_clamp, n_lt0, n_0lt, n_eq0, n_lt, n_le, n_eq, n_m1, n_m2, n_m9, n_12, n_19, n_10, n_01, n_1n1, n_0n1, n_1n0, n_0n0, n_dI, n_m1lt, q_inb, n_nar, n_nar0, n_nar1, n_bool, Bool.false_eq_true, Bool.true_eq_false, if_true, if_false, ↓reduceIte, Nat.reduceAdd, Nat.reduceMul, Nat.reduceSub, Nat.reduceLT, Nat.reduceLeDiff, Nat.reduceEqDiff, Nat.reduceMod, Nat.reduceDiv, q_D h.1.1.1, e2, q_D P2.1.1.1, q_N P2.1.1.1, e4, n_nr]
  · have es : k_sfl B n s 17 999 = k_fk (k_kd B n s) 2 := if_neg c
    have ep : k_sq2 B n s 17 = s := if_neg c
    rw [es, ep]
    rw [if_neg c] at e2
    refine ⟨fun z => absurd z (k_fk_b (by decide)).1, fun z => ⟨M2, t2' c, fun F => ?_⟩⟩
    simp (disch := omega) only [q_ckt, q_lt, q_cI, q_cJ, q_cV, q_cP, q_xI, q_xV, q_xP, q_xJ, g_gk, g_ga, g_gw, g_gp, g_gq, g_P, g_J, q_I_s, q_I_n, q_I_k, nI_add, pk_sub, pk_mul, nI_clamp, n_lt0, n_0lt, n_eq0, n_lt, n_le, n_eq, n_m1, n_m2, n_m9, n_12, n_19, n_10, n_01, n_1n1, n_0n1, n_1n0, n_0n0, n_dI, n_m1lt, q_inb, n_nar, n_nar0, n_nar1, n_bool, Bool.false_eq_true, Bool.true_eq_false, if_true, if_false, ↓reduceIte, Nat.reduceAdd, Nat.reduceMul, Nat.reduceSub, Nat.reduceLT, Nat.reduceLeDiff, Nat.reduceEqDiff, Nat.reduceMod, Nat.reduceDiv, q_D h.1.1.1, e2, n_nr]
theorem r_sg2 (h : r_P B n L xs M0 0 s K M) (hF : k_FR G N K) (hN : N < 8) (hd : 8 ≤ d) : (k_sfl B n s 17 999 = 0 → ∃ M5, r_P B n L xs M0 0 (k_nt B n (k_nt B n s)) (k_put1 K (26 + N) (nI (k_vl B n (k_nt B n s)))) M5 ∧ ∀ F : ir_M → ir_R, ir_ck (ir_gk M 412 12) (ir_cV (m_X12_mustWord d 412 1000036 M) (fun M2 => ir_ck (ir_gp M2 412 12 1) (ir_ck (ir_gk M2 412 12) (ir_cI (m_X12_number d 412 (nI 0) (nI 999) M2) (fun r4 M3 => ir_ck (ir_gw M3 (ir_P M2 412 1) 100 ((nI 26) + nI N)) (ir_lt (ir_sI M3 (ir_P M2 412 1) ((nI 26) + nI N).toNatClampNeg r4) (fun M5 => F M5))))))) = F M5) ∧ (k_sfl B n s 17 999 ≠ 0 → ∃ M5, r_F B n L xs M0 (k_sfl B n s 17 999) (k_sq2 B n s 17) M5 ∧ ∀ F : ir_M → ir_R, ir_ck (ir_gk M 412 12) (ir_cV (m_X12_mustWord d 412 1000036 M) (fun M2 => ir_ck (ir_gp M2 412 12 1) (ir_ck (ir_gk M2 412 12) (ir_cI (m_X12_number d 412 (nI 0) (nI 999) M2) (fun r4 M3 => ir_ck (ir_gw M3 (ir_P M2 412 1) 100 ((nI 26) + nI N)) (ir_lt (ir_sI M3 (ir_P M2 412 1) ((nI 26) + nI N).toNatClampNeg r4) (fun M5 => F M5))))))) = F M5) := by
  have g1 : ir_I M 414 1 = nI G := (h.2 1).trans hF.1.2.2.2.1
  have hG := hF.1.2.1
  obtain ⟨M2, e2, t2, t2'⟩ := r_mw (d := d) h.1 (j := 17) (a := 1000036) (by decide) rfl hG g1 (by omega)
  by_cases c : k_kd B n s = 273
  · have es : k_sfl B n s 17 999 = k_nf (k_kd B n (k_nt B n s)) (k_vl B n (k_nt B n s)) 0 999 := if_pos c
    have ep : k_sq2 B n s 17 = k_nt B n s := if_pos c
    rw [es, ep]
    have P2 := r_P_e h (t2 c)
    obtain ⟨M3, e3, t3, t3'⟩ := r_num (d := d) P2.1 (a := 0) (hi := nI 999) (by decide) hG ((P2.2 1).trans hF.1.2.2.2.1) (by omega)
    have eh : (nI 999).toInt = 999 := by rw [show (nI 999).toInt = (999 : Int) by decide +kernel]
    rw [eh] at e3 t3 t3'
    refine ⟨fun z => ?_, fun z => ?_⟩
    · rw [if_pos z] at e3
      have P3 := r_P_e P2 (t3 z)
      refine ⟨_, r_P_4 (k := 26 + N) P3, fun F => ?_⟩
      simp (disch := omega) only [q_ckt, q_lt, q_cI, q_cJ, q_cV, q_cP, q_xI, q_xV, q_xP, q_xJ, g_gk, g_ga, g_gw, g_gp, g_gq, g_P, g_J, q_I_s, q_I_n, q_I_k, nI_add, pk_sub, pk_mul, nI_clamp, n_lt0, n_0lt, n_eq0, n_lt, n_le, n_eq, n_m1, n_m2, n_m9, n_12, n_19, n_10, n_01, n_1n1, n_0n1, n_1n0, n_0n0, n_dI, n_m1lt, q_inb, n_nar, n_nar0, n_nar1, n_bool, Bool.false_eq_true, Bool.true_eq_false, if_true, if_false, ↓reduceIte, Nat.reduceAdd, Nat.reduceMul, Nat.reduceSub, Nat.reduceLT, Nat.reduceLeDiff, Nat.reduceEqDiff, Nat.reduceMod, Nat.reduceDiv, q_R h.1.1.1, e2, q_R P2.1.1.1, e3, q_R P3.1.1.1]
    · rw [if_neg z] at e3
      have F3 := t3' z
      refine ⟨_, r_F_4 (k := 26 + N) (v := nI 0) F3 (by omega), fun F => ?_⟩
      simp (disch := omega) only [q_ckt, q_lt, q_cI, q_cJ, q_cV, q_cP, q_xI, q_xV, q_xP, q_xJ, g_gk, g_ga, g_gw, g_gp, g_gq, g_P, g_J, q_I_s, q_I_n, q_I_k, nI_add, pk_sub, pk_mul, nI_clamp, n_lt0, n_0lt, n_eq0, n_lt, n_le, n_eq, n_m1, n_m2, n_m9, n_12, n_19, n_10, n_01, n_1n1, n_0n1, n_1n0, n_0n0, n_dI, n_m1lt, q_inb, n_nar, n_nar0, n_nar1, n_bool, Bool.false_eq_true, Bool.true_eq_false, if_true, if_false, ↓reduceIte, Nat.reduceAdd, Nat.reduceMul, Nat.reduceSub, Nat.reduceLT, Nat.reduceLeDiff, Nat.reduceEqDiff, Nat.reduceMod, Nat.reduceDiv, q_R h.1.1.1, e2, q_R P2.1.1.1, e3, q_R F3.1.1]
  · have es : k_sfl B n s 17 999 = k_fk (k_kd B n s) 2 := if_neg c
    have ep : k_sq2 B n s 17 = s := if_neg c
    rw [es, ep]
    have F2 := t2' c
    refine ⟨fun z => absurd z (k_fk_b (by decide)).1, fun z => ⟨_, r_F_4 (k := 26 + N) (v := nI 0) F2 (by omega), fun F => ?_⟩⟩
    simp (disch := omega) only [q_ckt, q_lt, q_cI, q_cJ, q_cV, q_cP, q_xI, q_xV, q_xP, q_xJ, g_gk, g_ga, g_gw, g_gp, g_gq, g_P, g_J, q_I_s, q_I_n, q_I_k, nI_add, pk_sub, pk_mul, nI_clamp, n_lt0, n_0lt, n_eq0, n_lt, n_le, n_eq, n_m1, n_m2, n_m9, n_12, n_19, n_10, n_01, n_1n1, n_0n1, n_1n0, n_0n0, n_dI, n_m1lt, q_inb, n_nar, n_nar0, n_nar1, n_bool, Bool.false_eq_true, Bool.true_eq_false, if_true, if_false, ↓reduceIte, Nat.reduceAdd, Nat.reduceMul, Nat.reduceSub, Nat.reduceLT, Nat.reduceLeDiff, Nat.reduceEqDiff, Nat.reduceMod, Nat.reduceDiv, q_R h.1.1.1, e2, q_R F2.1.1, r_numF F2 (lo := nI 0) (hi := nI 999) (show 2 ≤ d by omega)]
theorem r_sgF2 (h : r_F B n L xs M0 f p M) (hN : N < 8) (hd : 8 ≤ d) : ∃ M5, r_F B n L xs M0 f p M5 ∧ ∀ F : ir_M → ir_R, ir_ck (ir_gk M 412 12) (ir_cV (m_X12_mustWord d 412 1000036 M) (fun M2 => ir_ck (ir_gp M2 412 12 1) (ir_ck (ir_gk M2 412 12) (ir_cI (m_X12_number d 412 (nI 0) (nI 999) M2) (fun r4 M3 => ir_ck (ir_gw M3 (ir_P M2 412 1) 100 ((nI 26) + nI N)) (ir_lt (ir_sI M3 (ir_P M2 412 1) ((nI 26) + nI N).toNatClampNeg r4) (fun M5 => F M5))))))) = F M5 := by
  refine ⟨_, r_F_4 (k := 26 + N) (v := nI 0) h (by omega), fun F => ?_⟩
  simp (disch := omega) only [q_ckt, q_lt, q_cI, q_cJ, q_cV, q_cP, q_xI, q_xV, q_xP, q_xJ, g_gk, g_ga, g_gw, g_gp, g_gq, g_P, g_J, q_I_s, q_I_n, q_I_k, nI_add, pk_sub, pk_mul, nI_clamp, n_lt0, n_0lt, n_eq0, n_lt, n_le, n_eq, n_m1, n_m2, n_m9, n_12, n_19, n_10, n_01, n_1n1, n_0n1, n_1n0, n_0n0, n_dI, n_m1lt, q_inb, n_nar, n_nar0, n_nar1, n_bool, Bool.false_eq_true, Bool.true_eq_false, if_true, if_false, ↓reduceIte, Nat.reduceAdd, Nat.reduceMul, Nat.reduceSub, Nat.reduceLT, Nat.reduceLeDiff, Nat.reduceEqDiff, Nat.reduceMod, Nat.reduceDiv, q_R h.1.1, r_mwF h (a := 1000036) (show 3 ≤ d by omega), r_numF h (lo := nI 0) (hi := nI 999) (show 2 ≤ d by omega)]
theorem c_sg3 (h : c_P B n L xs M0 s K M) (hF : k_FR G N K) (hN : N < 8) (hd : 9 ≤ d) : (k_sfl B n s 2 ((G : Int) - 1) = 0 → ∃ M7, c_P B n L xs M0 (k_nt B n (k_nt B n s)) (k_put1 K (18 + N) (nI (k_vl B n (k_nt B n s)))) M7 ∧ ir_I M7 111 N = nI (k_vl B n (k_nt B n s)) ∧ q_eq [100, 111] M M7 ∧ ∀ F : ir_M → ir_R, ir_ck (ir_gk M 100 4) (ir_cI (m_X4_take d 100 (nI 258) M) (fun r3 M2 => if r3 = 0 then ir_ck (ir_nar 1 (nI 0)) (ir_oI (nI 0) M2) else ir_ck (ir_gp M2 100 4 2) (ir_ck (ir_gk M2 (ir_P M2 100 2) 9) (ir_ck (ir_gk M2 100 4) (ir_cI (m_X4_takeNumber d 100 (nI 0) ((ir_I M2 (ir_P M2 100 2) 1) - (nI 1)) M2) (fun r5 M4 => if r5 = 0 then ir_ck (ir_nar 1 (nI 0)) (ir_oI (nI 0) M4) else ir_ck (ir_gp M4 100 4 3) (ir_ck (ir_gp M4 (ir_P M4 100 3) 8 5) (ir_ck (ir_gk M4 100 4) (ir_ck (ir_gw M4 (ir_P M4 (ir_P M4 100 3) 5) 100 (nI N)) (ir_lt (ir_sI M4 (ir_P M4 (ir_P M4 100 3) 5) (nI N).toNatClampNeg (ir_I M4 100 10)) (fun M6 => ir_ck (ir_gk M6 100 4) (ir_cV (m_X4_next d 100 M6) (fun M7 => F M7))))))))))))) = F M7) ∧ (k_sfl B n s 2 ((G : Int) - 1) ≠ 0 → ∃ M', c_F B n L xs M0 (k_sfl B n s 2 ((G : Int) - 1)) (k_sq2 B n s 2) M' ∧ ∀ F : ir_M → ir_R, ir_ck (ir_gk M 100 4) (ir_cI (m_X4_take d 100 (nI 258) M) (fun r3 M2 => if r3 = 0 then ir_ck (ir_nar 1 (nI 0)) (ir_oI (nI 0) M2) else ir_ck (ir_gp M2 100 4 2) (ir_ck (ir_gk M2 (ir_P M2 100 2) 9) (ir_ck (ir_gk M2 100 4) (ir_cI (m_X4_takeNumber d 100 (nI 0) ((ir_I M2 (ir_P M2 100 2) 1) - (nI 1)) M2) (fun r5 M4 => if r5 = 0 then ir_ck (ir_nar 1 (nI 0)) (ir_oI (nI 0) M4) else ir_ck (ir_gp M4 100 4 3) (ir_ck (ir_gp M4 (ir_P M4 100 3) 8 5) (ir_ck (ir_gk M4 100 4) (ir_ck (ir_gw M4 (ir_P M4 (ir_P M4 100 3) 5) 100 (nI N)) (ir_lt (ir_sI M4 (ir_P M4 (ir_P M4 100 3) 5) (nI N).toNatClampNeg (ir_I M4 100 10)) (fun M6 => ir_ck (ir_gk M6 100 4) (ir_cV (m_X4_next d 100 M6) (fun M7 => F M7))))))))))))) = ir_oI (nI 0) M') := by
  obtain ⟨M2, e2, t2, t2'⟩ := c_tk (d := d) h.1 (w := 258) (by decide) (by omega)
  by_cases c : k_kd B n s = 258
  · have es : k_sfl B n s 2 ((G : Int) - 1) = k_nf (k_kd B n (k_nt B n s)) (k_vl B n (k_nt B n s)) 0 ((G : Int) - 1) := if_pos c
    have ep : k_sq2 B n s 2 = k_nt B n s := if_pos c
    rw [es, ep]
    rw [if_pos c] at e2
    have P2 := c_P_e h (t2 c)
    obtain ⟨M4, e4, e4', t4⟩ := c_num (d := d) P2.1 (a := 0) (hi := ir_I M2 101 1 - nI 1) (by decide) (by omega)
    have eh : (ir_I M2 101 1 - nI 1).toInt = ((G : Int) - 1) := by rw [k_lim32 (N := G) ((P2.2.1.2.1).trans hF.1.2.2.2.1) (by have := hF.1.2.1; omega)]
    rw [eh] at e4 e4' t4
    refine ⟨fun z => ?_, fun z => ⟨M4, t4 z, fun F => ?_⟩⟩
    · rw [if_pos z, e4' z] at e4
      have h10 := P2.1.2.2.2.2.2.2.2.2.2 (k_nf_0 z).1
      have q1 : q_eq [111] M2 (ir_sI M2 111 N (nI (k_vl B n (k_nt B n s)))) := q_eq.sI (by decide)
      have P6 : c_P B n L xs M0 (k_nt B n s) (k_put1 K (18 + N) (nI (k_vl B n (k_nt B n s)))) (ir_sI M2 111 N (nI (k_vl B n (k_nt B n s)))) := ⟨c_T_eq P2.1 q1 (by decide) (c_cn_eq q1 (by decide) P2.1.2.2.1), c_K_p hF (fun a k hk _ => by
        by_cases w : a = 111
        · rw [w, q_I_k (by omega)]
        · exact q_I_eq q1 (fun y => w (List.mem_singleton.mp y)) k) (fun k h1 h2 h3 _ => if_neg (by omega)) hN P2.2⟩
      obtain ⟨M7, e7, t7, q7⟩ := c_next (d := d) P6.1 (by omega)
      refine ⟨M7, c_P_e P6 ⟨t7, q7⟩, by rw [q_I_eq q7 (by decide), q_I_s], (((t2 c).2.sub (by decide)).tr (q1.sub (by decide))).tr (q7.sub (by decide)), fun F => ?_⟩
      simp (disch := omega) only [q_ckt, q_lt, q_cI, q_cJ, q_cV, q_cP, q_xI, q_xV, q_xP, q_xJ, g_gk, g_ga, g_gw, g_gp, g_gq, g_P, g_J, q_I_s, q_I_n, q_I_k, nI_add, pk_sub, pk_mul, nI_clamp, n_lt0, n_0lt, n_eq0, n_lt, n_le, n_eq, n_m1, n_m2, n_m9, n_12, n_19, n_10, n_01, n_1n1, n_0n1, n_1n0, n_0n0, n_dI, n_m1lt, q_inb, n_nar, n_nar0, n_nar1, n_bool, Bool.false_eq_true, Bool.true_eq_false, if_true, if_false, ↓reduceIte, Nat.reduceAdd, Nat.reduceMul, Nat.reduceSub, Nat.reduceLT, Nat.reduceLeDiff, Nat.reduceEqDiff, Nat.reduceMod, Nat.reduceDiv, q_D h.1.1.1, e2, q_D P2.1.1.1, q_N P2.1.1.1, e4, h10, e7, n_nr]
    · rw [if_neg z] at e4
      simp (disch := omega) only [q_ckt, q_lt, q_cI, q_cJ, q_cV, q_cP, q_xI, q_xV, q_xP, q_xJ, g_gk, g_ga, g_gw, g_gp, g_gq, g_P, g_J, q_I_s, q_I_n, q_I_k, nI_add, pk_sub, pk_mul, nI_clamp, n_lt0, n_0lt, n_eq0, n_lt, n_le, n_eq, n_m1, n_m2, n_m9, n_12, n_19, n_10, n_01, n_1n1, n_0n1, n_1n0, n_0n0, n_dI, n_m1lt, q_inb, n_nar, n_nar0, n_nar1, n_bool, Bool.false_eq_true, Bool.true_eq_false, if_true, if_false, ↓reduceIte, Nat.reduceAdd, Nat.reduceMul, Nat.reduceSub, Nat.reduceLT, Nat.reduceLeDiff, Nat.reduceEqDiff, Nat.reduceMod, Nat.reduceDiv, q_D h.1.1.1, e2, q_D P2.1.1.1, q_N P2.1.1.1, e4, n_nr]
  · have es : k_sfl B n s 2 ((G : Int) - 1) = k_fk (k_kd B n s) 2 := if_neg c
    have ep : k_sq2 B n s 2 = s := if_neg c
    rw [es, ep]
    rw [if_neg c] at e2
    refine ⟨fun z => absurd z (k_fk_b (by decide)).1, fun z => ⟨M2, t2' c, fun F => ?_⟩⟩
    simp (disch := omega) only [q_ckt, q_lt, q_cI, q_cJ, q_cV, q_cP, q_xI, q_xV, q_xP, q_xJ, g_gk, g_ga, g_gw, g_gp, g_gq, g_P, g_J, q_I_s, q_I_n, q_I_k, nI_add, pk_sub, pk_mul, nI_clamp, n_lt0, n_0lt, n_eq0, n_lt, n_le, n_eq, n_m1, n_m2, n_m9, n_12, n_19, n_10, n_01, n_1n1, n_0n1, n_1n0, n_0n0, n_dI, n_m1lt, q_inb, n_nar, n_nar0, n_nar1, n_bool, Bool.false_eq_true, Bool.true_eq_false, if_true, if_false, ↓reduceIte, Nat.reduceAdd, Nat.reduceMul, Nat.reduceSub, Nat.reduceLT, Nat.reduceLeDiff, Nat.reduceEqDiff, Nat.reduceMod, Nat.reduceDiv, q_D h.1.1.1, e2, n_nr]
theorem r_sg3 (h : r_P B n L xs M0 0 s K M) (hF : k_FR G N K) (hN : N < 8) (hd : 8 ≤ d) : (k_sfl B n s 2 ((G : Int) - 1) = 0 → ∃ M5, r_P B n L xs M0 0 (k_nt B n (k_nt B n s)) (k_put1 K (18 + N) (nI (k_vl B n (k_nt B n s)))) M5 ∧ ∀ F : ir_M → ir_R, ir_ck (ir_gk M 412 12) (ir_cV (m_X12_mustWord d 412 1000037 M) (fun M2 => ir_ck (ir_gp M2 412 12 1) (ir_ck (ir_gp M2 412 12 1) (ir_ck (ir_ga M2 (ir_P M2 412 1) 100 (nI 1)) (ir_ck (ir_gk M2 412 12) (ir_cI (m_X12_number d 412 (nI 0) ((ir_I M2 (ir_P M2 412 1) (nI 1).toNatClampNeg) - (nI 1)) M2) (fun r4 M3 => ir_ck (ir_gw M3 (ir_P M2 412 1) 100 ((nI 18) + nI N)) (ir_lt (ir_sI M3 (ir_P M2 412 1) ((nI 18) + nI N).toNatClampNeg r4) (fun M5 => F M5))))))))) = F M5) ∧ (k_sfl B n s 2 ((G : Int) - 1) ≠ 0 → ∃ M5, r_F B n L xs M0 (k_sfl B n s 2 ((G : Int) - 1)) (k_sq2 B n s 2) M5 ∧ ∀ F : ir_M → ir_R, ir_ck (ir_gk M 412 12) (ir_cV (m_X12_mustWord d 412 1000037 M) (fun M2 => ir_ck (ir_gp M2 412 12 1) (ir_ck (ir_gp M2 412 12 1) (ir_ck (ir_ga M2 (ir_P M2 412 1) 100 (nI 1)) (ir_ck (ir_gk M2 412 12) (ir_cI (m_X12_number d 412 (nI 0) ((ir_I M2 (ir_P M2 412 1) (nI 1).toNatClampNeg) - (nI 1)) M2) (fun r4 M3 => ir_ck (ir_gw M3 (ir_P M2 412 1) 100 ((nI 18) + nI N)) (ir_lt (ir_sI M3 (ir_P M2 412 1) ((nI 18) + nI N).toNatClampNeg r4) (fun M5 => F M5))))))))) = F M5) := by
  have g1 : ir_I M 414 1 = nI G := (h.2 1).trans hF.1.2.2.2.1
  have hG := hF.1.2.1
  obtain ⟨M2, e2, t2, t2'⟩ := r_mw (d := d) h.1 (j := 2) (a := 1000037) (by decide) rfl hG g1 (by omega)
  by_cases c : k_kd B n s = 258
  · have es : k_sfl B n s 2 ((G : Int) - 1) = k_nf (k_kd B n (k_nt B n s)) (k_vl B n (k_nt B n s)) 0 ((G : Int) - 1) := if_pos c
    have ep : k_sq2 B n s 2 = k_nt B n s := if_pos c
    rw [es, ep]
    have P2 := r_P_e h (t2 c)
    obtain ⟨M3, e3, t3, t3'⟩ := r_num (d := d) P2.1 (a := 0) (hi := ir_I M2 414 1 - nI 1) (by decide) hG ((P2.2 1).trans hF.1.2.2.2.1) (by omega)
    have eh : (ir_I M2 414 1 - nI 1).toInt = ((G : Int) - 1) := by rw [k_lim32 (N := G) ((P2.2 1).trans hF.1.2.2.2.1) (by have := hF.1.2.1; omega)]
    rw [eh] at e3 t3 t3'
    refine ⟨fun z => ?_, fun z => ?_⟩
    · rw [if_pos z] at e3
      have P3 := r_P_e P2 (t3 z)
      refine ⟨_, r_P_4 (k := 18 + N) P3, fun F => ?_⟩
      simp (disch := omega) only [q_ckt, q_lt, q_cI, q_cJ, q_cV, q_cP, q_xI, q_xV, q_xP, q_xJ, g_gk, g_ga, g_gw, g_gp, g_gq, g_P, g_J, q_I_s, q_I_n, q_I_k, nI_add, pk_sub, pk_mul, nI_clamp, n_lt0, n_0lt, n_eq0, n_lt, n_le, n_eq, n_m1, n_m2, n_m9, n_12, n_19, n_10, n_01, n_1n1, n_0n1, n_1n0, n_0n0, n_dI, n_m1lt, q_inb, n_nar, n_nar0, n_nar1, n_bool, Bool.false_eq_true, Bool.true_eq_false, if_true, if_false, ↓reduceIte, Nat.reduceAdd, Nat.reduceMul, Nat.reduceSub, Nat.reduceLT, Nat.reduceLeDiff, Nat.reduceEqDiff, Nat.reduceMod, Nat.reduceDiv, q_R h.1.1.1, e2, q_R P2.1.1.1, e3, q_R P3.1.1.1]
    · rw [if_neg z] at e3
      have F3 := t3' z
      refine ⟨_, r_F_4 (k := 18 + N) (v := nI 0) F3 (by omega), fun F => ?_⟩
      simp (disch := omega) only [q_ckt, q_lt, q_cI, q_cJ, q_cV, q_cP, q_xI, q_xV, q_xP, q_xJ, g_gk, g_ga, g_gw, g_gp, g_gq, g_P, g_J, q_I_s, q_I_n, q_I_k, nI_add, pk_sub, pk_mul, nI_clamp, n_lt0, n_0lt, n_eq0, n_lt, n_le, n_eq, n_m1, n_m2, n_m9, n_12, n_19, n_10, n_01, n_1n1, n_0n1, n_1n0, n_0n0, n_dI, n_m1lt, q_inb, n_nar, n_nar0, n_nar1, n_bool, Bool.false_eq_true, Bool.true_eq_false, if_true, if_false, ↓reduceIte, Nat.reduceAdd, Nat.reduceMul, Nat.reduceSub, Nat.reduceLT, Nat.reduceLeDiff, Nat.reduceEqDiff, Nat.reduceMod, Nat.reduceDiv, q_R h.1.1.1, e2, q_R P2.1.1.1, e3, q_R F3.1.1]
  · have es : k_sfl B n s 2 ((G : Int) - 1) = k_fk (k_kd B n s) 2 := if_neg c
    have ep : k_sq2 B n s 2 = s := if_neg c
    rw [es, ep]
    have F2 := t2' c
    refine ⟨fun z => absurd z (k_fk_b (by decide)).1, fun z => ⟨_, r_F_4 (k := 18 + N) (v := nI 0) F2 (by omega), fun F => ?_⟩⟩
    simp (disch := omega) only [q_ckt, q_lt, q_cI, q_cJ, q_cV, q_cP, q_xI, q_xV, q_xP, q_xJ, g_gk, g_ga, g_gw, g_gp, g_gq, g_P, g_J, q_I_s, q_I_n, q_I_k, nI_add, pk_sub, pk_mul, nI_clamp, n_lt0, n_0lt, n_eq0, n_lt, n_le, n_eq, n_m1, n_m2, n_m9, n_12, n_19, n_10, n_01, n_1n1, n_0n1, n_1n0, n_0n0, n_dI, n_m1lt, q_inb, n_nar, n_nar0, n_nar1, n_bool, Bool.false_eq_true, Bool.true_eq_false, if_true, if_false, ↓reduceIte, Nat.reduceAdd, Nat.reduceMul, Nat.reduceSub, Nat.reduceLT, Nat.reduceLeDiff, Nat.reduceEqDiff, Nat.reduceMod, Nat.reduceDiv, q_R h.1.1.1, e2, q_R F2.1.1, r_numF F2 (lo := nI 0) (hi := ir_I M2 414 1 - nI 1) (show 2 ≤ d by omega)]
theorem r_sgF3 (h : r_F B n L xs M0 f p M) (hN : N < 8) (hd : 8 ≤ d) : ∃ M5, r_F B n L xs M0 f p M5 ∧ ∀ F : ir_M → ir_R, ir_ck (ir_gk M 412 12) (ir_cV (m_X12_mustWord d 412 1000037 M) (fun M2 => ir_ck (ir_gp M2 412 12 1) (ir_ck (ir_gp M2 412 12 1) (ir_ck (ir_ga M2 (ir_P M2 412 1) 100 (nI 1)) (ir_ck (ir_gk M2 412 12) (ir_cI (m_X12_number d 412 (nI 0) ((ir_I M2 (ir_P M2 412 1) (nI 1).toNatClampNeg) - (nI 1)) M2) (fun r4 M3 => ir_ck (ir_gw M3 (ir_P M2 412 1) 100 ((nI 18) + nI N)) (ir_lt (ir_sI M3 (ir_P M2 412 1) ((nI 18) + nI N).toNatClampNeg r4) (fun M5 => F M5))))))))) = F M5 := by
  refine ⟨_, r_F_4 (k := 18 + N) (v := nI 0) h (by omega), fun F => ?_⟩
  simp (disch := omega) only [q_ckt, q_lt, q_cI, q_cJ, q_cV, q_cP, q_xI, q_xV, q_xP, q_xJ, g_gk, g_ga, g_gw, g_gp, g_gq, g_P, g_J, q_I_s, q_I_n, q_I_k, nI_add, pk_sub, pk_mul, nI_clamp, n_lt0, n_0lt, n_eq0, n_lt, n_le, n_eq, n_m1, n_m2, n_m9, n_12, n_19, n_10, n_01, n_1n1, n_0n1, n_1n0, n_0n0, n_dI, n_m1lt, q_inb, n_nar, n_nar0, n_nar1, n_bool, Bool.false_eq_true, Bool.true_eq_false, if_true, if_false, ↓reduceIte, Nat.reduceAdd, Nat.reduceMul, Nat.reduceSub, Nat.reduceLT, Nat.reduceLeDiff, Nat.reduceEqDiff, Nat.reduceMod, Nat.reduceDiv, q_R h.1.1, r_mwF h (a := 1000037) (show 3 ≤ d by omega), r_numF h (lo := nI 0) (hi := ir_I M 414 1 - nI 1) (show 2 ≤ d by omega)]
end PS
