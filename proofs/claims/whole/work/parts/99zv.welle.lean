/-! THE WELL: likings, those apart -/
section LA
variable {B : Nat → Nat} {n L : Nat} {xs : Nat → Int32} {M0 M : ir_M} {d dp s f p G N : Nat} {K : Nat → Int32}
theorem c_P_l (h : c_P B n L xs M0 s K M) (hb : k_bsz K) {k : Nat} {v : Int32} (hk : k < 64) : c_P B n L xs M0 s (k_put1 K (109 + k) v) (ir_sI M 108 k v) := by
  have q1 : q_eq [108] M (ir_sI M 108 k v) := q_eq.sI (by decide)
  obtain ⟨hT, ⟨z1, z2, z3, z4, z5, z6, z7, z8, z9, z10, z11, z12⟩, h2, h3, x1, x2, x3⟩ := h
  obtain ⟨b1, b2, b3, b4, b5, -⟩ := hb
  have ea : ∀ a k', a ≠ 108 → ir_I (ir_sI M 108 k v) a k' = ir_I M a k' := fun a k' ha => congrFun (q1.1 a (fun w => ha (List.mem_singleton.mp w))) k'
  have ek : ∀ j, j < 109 ∨ 173 ≤ j → k_put1 K (109 + k) v j = K j := fun j hj => if_neg (by omega)
  have y2 : ∀ j, j < 64 → ir_I (ir_sI M 108 k v) 108 j = k_put1 K (109 + k) v (109 + j) := fun j hj => by
    unfold k_put1
    by_cases c : j = k
    · rw [c, q_I_s, if_pos rfl]
    · rw [q_I_k c, if_neg (by omega)]; exact x2 j hj
  have en : k_n (k_put1 K (109 + k) v) = k_n K := by unfold k_n; rw [ek 2 (by decide)]
  have eg : k_g (k_put1 K (109 + k) v) = k_g K := by unfold k_g; rw [ek 1 (by decide)]
  have em : k_m (k_put1 K (109 + k) v) = k_m K := by unfold k_m; rw [ek 9 (by decide)]
  have ew : k_w (k_put1 K (109 + k) v) = k_w K := by unfold k_w; rw [ek 44 (by decide)]
  have ean : k_na (k_put1 K (109 + k) v) = k_na K := by unfold k_na; rw [ek 6 (by decide)]
  refine ⟨c_T_eq hT q1 (by decide) (c_cn_eq q1 (by decide) hT.2.2.1), ⟨?_, ?_, ?_, ?_, ?_, ?_, ?_, fun p hp => ?_, fun p g hp hg => ?_, fun p q hp hq => ?_, ?_, fun i hi => ?_⟩, fun p hp => ?_, ⟨?_, ?_, ?_, ?_, fun i hi => ?_, fun p hp => ?_, fun p hp => ?_, fun p hp => ?_, fun i hi => ?_⟩, fun p hp hn => ?_, y2, fun p hp => ?_⟩
  · rw [ea _ _ (by decide), ek _ (by omega)]; exact z1
  · rw [ea _ _ (by decide), ek _ (by omega)]; exact z2
  · rw [ea _ _ (by decide), ek _ (by omega)]; exact z3
  · rw [ea _ _ (by decide), ek _ (by omega)]; exact z4
  · rw [ea _ _ (by decide), ek _ (by omega)]; exact z5
  · rw [ea _ _ (by decide), ek _ (by omega)]; exact z6
  · rw [ea _ _ (by decide), ek _ (by omega)]; exact z7
  · rw [en] at hp; rw [ea _ _ (by decide), ek _ (by omega)]; exact z8 p hp
  · rw [en] at hp; rw [eg] at hg; rw [ea _ _ (by decide), ek _ (by omega)]; exact z9 p g hp hg
  · rw [en] at hp hq
    rw [show 109 + 8 * p + q = 109 + (8 * p + q) by omega]
    exact y2 (8 * p + q) (by omega)
  · rw [ea _ _ (by decide), ek _ (by omega)]; exact z11
  · rw [ek 7 (by omega)] at hi
    have e : k_sp (k_put1 K (109 + k) v) i = k_sp K i := by unfold k_sp; rw [ek _ (by omega)]
    rw [ea _ _ (by decide), e]; exact z12 i hi
  · rw [en] at hp
    obtain ⟨x, w1, w2, w3⟩ := h2 p hp
    refine ⟨x, w1, by rw [ea _ _ (by decide)]; exact w2, fun q hq => (w3 q hq).trans ?_⟩
    unfold k_ap
    rw [ean]
    congr 1
    funext j
    rw [ek _ (by omega), ek _ (by omega)]
  · rw [ea _ _ (by decide), ek _ (by omega)]; exact h3.1
  · rw [ea _ _ (by decide), ek _ (by omega)]; exact h3.2.1
  · rw [ea _ _ (by decide), ek _ (by omega)]; exact h3.2.2.1
  · rw [ea _ _ (by decide), ek _ (by omega)]; exact h3.2.2.2.1
  · rw [em] at hi; rw [ea _ _ (by decide), ek _ (by omega)]; exact h3.2.2.2.2.1 i hi
  · rw [en] at hp; rw [ea _ _ (by decide), ek _ (by omega)]; exact h3.2.2.2.2.2.1 p hp
  · rw [en] at hp; rw [ea _ _ (by decide), ek _ (by omega)]; exact h3.2.2.2.2.2.2.1 p hp
  · rw [en] at hp; rw [ea _ _ (by decide), ek _ (by omega)]; exact h3.2.2.2.2.2.2.2.1 p hp
  · rw [ew] at hi; rw [ea _ _ (by decide), ek _ (by omega)]; exact h3.2.2.2.2.2.2.2.2 i hi
  · rw [en] at hn; rw [ea _ _ (by decide)]; exact x1 p hp hn
  · rw [ea _ _ (by decide), ek _ (by omega)]; exact x3 p hp
theorem k_of_b {kd vl one : Nat} : k_of kd vl N one ≤ 4 := by
  unfold k_of
  have := k_nf_b (kd := kd) (vl := vl) (a := 0) (hi := (N : Int) - 1)
  split
  · split <;> omega
  · omega
theorem k_of_0 {kd vl one : Nat} (h : k_of kd vl N one = 0) : kd = 2 ∧ vl < N ∧ vl ≠ one := by
  unfold k_of at h
  by_cases c : k_nf kd vl 0 ((N : Int) - 1) = 0
  · rw [if_pos c] at h
    obtain ⟨c1, -, c3⟩ := k_nf_0 c
    refine ⟨c1, by omega, fun z => ?_⟩
    rw [if_pos z] at h
    exact nomatch h
  · rw [if_neg c] at h
    exact absurd h c
theorem w_Likes (hF : k_FR G N K) (hs : s ≤ n) (q : k_kd B n s = 260) : w_N B n L xs G s K := by
  obtain ⟨b1, b2, b3, b4, b5, b6, b7, b8⟩ := k_nt_b (B := B) hs
  have s1 := b3 (by omega)
  have hb := (k_FR_d hF).2.2.2.2.2
  have hN := hF.1.2.2.1
  have hG := hF.1.2.1
  have K1 := hF.1.2.2.2.1
  have K2 := hF.1.2.2.2.2.1
  obtain ⟨s2, es2⟩ : ∃ x, x = k_nt B n s := ⟨_, rfl⟩
  rw [← es2] at b1 b2 s1
  obtain ⟨a1, a2, a3, a4, a5, a6, a7, a8⟩ := k_nt_b (B := B) b2
  have C2 : ∀ {M0 M : ir_M} {p : Nat}, c_P B n L xs M0 p K M → ir_I M 101 2 = nI N := fun h => h.2.1.2.2.1.trans K2
  have R2 : ∀ {M0 M : ir_M} {p : Nat}, r_P B n L xs M0 0 p K M → ir_I M 414 2 = nI N ∧ ir_I M 414 1 = nI G := fun h => ⟨(h.2 2).trans K2, (h.2 1).trans K1⟩
  have CR : ∀ {M0 M M' : ir_M} {d : Nat} {r : Int32}, 51 ≤ d → c_P B n L xs M0 s K M → ir_nar 1 r = true → m_X4_readLikes d 100 M = ir_oI r M' → m_X4_readLine (d + 1) 100 M = ir_oI r M' := fun {M0 M M' d r} hd hP hr e => by
    obtain ⟨h6, h8, -, h300⟩ := c_hdr hP.1
    rw [E_X4_readLine]
    simp (disch := omega) only [q_ckt, q_lt, q_cI, q_cJ, q_cV, q_cP, q_xI, q_xV, q_xP, q_xJ, g_gk, g_ga, g_gw, g_gp, g_gq, g_P, g_J, q_I_s, q_I_n, q_I_k, nI_add, pk_sub, pk_mul, nI_clamp, n_lt0, n_0lt, n_eq0, n_lt, n_le, n_eq, n_m1, n_m2, n_m9, n_12, n_19, n_10, n_01, n_1n1, n_0n1, n_1n0, n_0n0, n_dI, n_m1lt, q_inb, n_nar, n_nar0, n_nar1, n_bool, Bool.false_eq_true, Bool.true_eq_false, if_true, if_false, ↓reduceIte, Nat.reduceAdd, Nat.reduceMul, Nat.reduceSub, Nat.reduceLT, Nat.reduceLeDiff, Nat.reduceEqDiff, Nat.reduceMod, Nat.reduceDiv, q_D hP.1.1.1, h8, q, e, hr]
  have RR : ∀ {M0 M : ir_M} {d : Nat}, 51 ≤ d → r_P B n L xs M0 0 s K M → ∃ M1, r_P B n L xs M0 0 s2 K M1 ∧ ∀ M2 X, m_X12_readLikes d 412 M1 = ir_oV M2 → q_PI M2 → m_X12_readStop d 412 M2 = ir_oV X → m_X12_readLine (d + 1) 412 M = ir_oV X := fun {M0 M d} hd hP => by
    have u1 := r_wordN (d := d) hP.1 (j := 1) (a := 1000034) (by decide) rfl (by omega) (by omega)
    have u3 := r_wordN (d := d) hP.1 (j := 3) (a := 1000039) (by decide) rfl (by omega) (by omega)
    obtain ⟨M1, e1, t1⟩ := r_tookY (d := d) hP.1 (j := 4) (a := 1000040) (by decide) rfl q (by omega)
    have P1 := r_P_e hP t1
    rw [← es2] at P1
    refine ⟨M1, P1, fun M2 X e2 pi hX => ?_⟩
    rw [E_X12_readLine]
    refine (r_no (q_R hP.1.1.1).1 u1).trans ?_
    refine (r_no (q_R hP.1.1.1).1 u3).trans ?_
    refine (r_yes (q_R hP.1.1.1).1 e1).trans ?_
    simp (disch := omega) only [q_ckt, q_lt, q_cI, q_cJ, q_cV, q_cP, q_xI, q_xV, q_xP, q_xJ, g_gk, g_ga, g_gw, g_gp, g_gq, g_P, g_J, q_I_s, q_I_n, q_I_k, nI_add, pk_sub, pk_mul, nI_clamp, n_lt0, n_0lt, n_eq0, n_lt, n_le, n_eq, n_m1, n_m2, n_m9, n_12, n_19, n_10, n_01, n_1n1, n_0n1, n_1n0, n_0n0, n_dI, n_m1lt, q_inb, n_nar, n_nar0, n_nar1, n_bool, Bool.false_eq_true, Bool.true_eq_false, if_true, if_false, ↓reduceIte, Nat.reduceAdd, Nat.reduceMul, Nat.reduceSub, Nat.reduceLT, Nat.reduceLeDiff, Nat.reduceEqDiff, Nat.reduceMod, Nat.reduceDiv, q_R P1.1.1.1, e2, q_R pi, hX]
  by_cases f1 : k_nf (k_kd B n s2) (k_vl B n s2) 0 ((N : Int) - 1) = 0
  · obtain ⟨v1, -, v2⟩ := k_nf_0 f1
    have v3 : k_vl B n s2 < N := by omega
    have a3' := a3 (by omega)
    obtain ⟨s3, es3⟩ : ∃ x, x = k_nt B n s2 := ⟨_, rfl⟩
    rw [← es3] at a1 a2 a3'
    obtain ⟨c1, c2, c3, c4, c5, c6, c7, c8⟩ := k_nt_b (B := B) a2
    by_cases f2 : k_of (k_kd B n s3) (k_vl B n s3) N (k_vl B n s2) = 0
    · obtain ⟨w1, w2, w3⟩ := k_of_0 f2
      have c3' := c3 (by omega)
      obtain ⟨s4, es4⟩ : ∃ x, x = k_nt B n s3 := ⟨_, rfl⟩
      rw [← es4] at c1 c2 c3'
      obtain ⟨sb1, sb2⟩ := k_sb_b (B := B) c2
      obtain ⟨d1, d2, d3, d4, d5, d6, d7, d8⟩ := k_nt_b (B := B) sb2
      have CL : ∀ {M0 M : ir_M} {e : Nat}, 50 ≤ e → c_P B n L xs M0 s K M → ∃ M5, c_P B n L xs M0 (k_sb B n s4) K M5 ∧ ∀ (r : Int32) (M6 Y : ir_M) (y : Int32), m_X4_takeNumber e 100 (nI 0) (nI 9) M5 = ir_oI r M6 → q_PI M6 → (if r = 0 then ir_oI (nI 0) M6 else (if k_kd B n s4 = 45 then ir_cV (m_X9_setLikes e 101 (nI (k_vl B n s2)) (nI (k_vl B n s3)) (-(ir_I M6 100 10)) M6) (fun M7 => ir_ck (ir_gk M7 100 4) (ir_cV (m_X4_next e 100 M7) (fun M8 => ir_oI (nI 1) M8))) else ir_cV (m_X9_setLikes e 101 (nI (k_vl B n s2)) (nI (k_vl B n s3)) (ir_I M6 100 10) M6) (fun M7 => ir_ck (ir_gk M7 100 4) (ir_cV (m_X4_next e 100 M7) (fun M8 => ir_oI (nI 1) M8))))) = ir_oI y Y → m_X4_readLikes (e + 1) 100 M = ir_oI y Y := fun {M0 M e} he hP => by
        obtain ⟨M1, e1, P1⟩ := c_P_n (d := e) hP (by omega)
        rw [← es2] at P1
        obtain ⟨M2, e2, e2', -⟩ := c_num (d := e) P1.1 (a := 0) (hi := ir_I M1 101 2 - nI 1) (by decide) (by omega)
        rw [k_lim32 (C2 P1) hN] at e2 e2'
        rw [if_pos f1, e2' f1] at e2
        have h10 := P1.1.2.2.2.2.2.2.2.2.2 v1
        obtain ⟨M3, e3, P3⟩ := c_P_n (d := e) P1 (by omega)
        rw [← es3] at P3
        obtain ⟨M4, e4, e4', -⟩ := c_ot (d := e) P3.1 v3 hN (C2 P3) (by omega)
        rw [f2, k_1_0, e4' f2] at e4
        have h10' := P3.1.2.2.2.2.2.2.2.2.2 w1
        obtain ⟨M5, e5, P5⟩ := c_P_n (d := e) P3 (by omega)
        rw [← es4] at P5
        obtain ⟨M5b, e5b, t5b⟩ := c_sgn (d := e) P5.1 (by omega)
        have P5b := c_P_e P5 t5b
        refine ⟨M5b, P5b, fun r M6 Y y e6 pi6 hy => ?_⟩
        rw [← hy, E_X4_readLikes]
        by_cases cs : k_kd B n s4 = 45
        · rw [if_pos cs] at e5b
          simp (disch := omega) only [q_ckt, q_lt, q_cI, q_cJ, q_cV, q_cP, q_xI, q_xV, q_xP, q_xJ, g_gk, g_ga, g_gw, g_gp, g_gq, g_P, g_J, q_I_s, q_I_n, q_I_k, nI_add, pk_sub, pk_mul, nI_clamp, n_lt0, n_0lt, n_eq0, n_lt, n_le, n_eq, n_m1, n_m2, n_m9, n_12, n_19, n_10, n_01, n_1n1, n_0n1, n_1n0, n_0n0, n_dI, n_m1lt, q_inb, n_nar, n_nar0, n_nar1, n_bool, Bool.false_eq_true, Bool.true_eq_false, if_true, if_false, ↓reduceIte, Nat.reduceAdd, Nat.reduceMul, Nat.reduceSub, Nat.reduceLT, Nat.reduceLeDiff, Nat.reduceEqDiff, Nat.reduceMod, Nat.reduceDiv, q_D hP.1.1.1, e1, q_D P1.1.1.1, q_N P1.1.1.1, e2, h10, e3, q_D P3.1.1.1, e4, h10', e5, q_D P5.1.1.1, e5b, q_D P5b.1.1.1, e6, q_D pi6, q_N pi6, cs, n_nr]
        · rw [if_neg cs] at e5b
          simp (disch := omega) only [q_ckt, q_lt, q_cI, q_cJ, q_cV, q_cP, q_xI, q_xV, q_xP, q_xJ, g_gk, g_ga, g_gw, g_gp, g_gq, g_P, g_J, q_I_s, q_I_n, q_I_k, nI_add, pk_sub, pk_mul, nI_clamp, n_lt0, n_0lt, n_eq0, n_lt, n_le, n_eq, n_m1, n_m2, n_m9, n_12, n_19, n_10, n_01, n_1n1, n_0n1, n_1n0, n_0n0, n_dI, n_m1lt, q_inb, n_nar, n_nar0, n_nar1, n_bool, Bool.false_eq_true, Bool.true_eq_false, if_true, if_false, ↓reduceIte, Nat.reduceAdd, Nat.reduceMul, Nat.reduceSub, Nat.reduceLT, Nat.reduceLeDiff, Nat.reduceEqDiff, Nat.reduceMod, Nat.reduceDiv, q_D hP.1.1.1, e1, q_D P1.1.1.1, q_N P1.1.1.1, e2, h10, e3, q_D P3.1.1.1, e4, h10', e5, q_D P5.1.1.1, e5b, q_D P5b.1.1.1, e6, q_D pi6, q_N pi6, cs, n_nr]
      have RL : ∀ {M0 M1 : ir_M} {e : Nat}, 50 ≤ e → r_P B n L xs M0 0 s2 K M1 → ∃ M3, r_P B n L xs M0 0 s4 K M3 ∧ ∀ (r : Int32) (M6 Y : ir_M), m_X12_signed e 412 (nI 9) M3 = ir_oI r M6 → q_PI M6 → (if ir_I M6 412 12 = 0 then ir_oV (ir_sI M6 414 (109 + 8 * k_vl B n s2 + k_vl B n s3) r) else ir_oV M6) = ir_oV Y → m_X12_readLikes (e + 1) 412 M1 = ir_oV Y := fun {M0 M1 e} he P1 => by
        obtain ⟨r2, r1⟩ := R2 P1
        obtain ⟨M2, e2, t2, -⟩ := r_num (d := e) P1.1 (a := 0) (hi := ir_I M1 414 2 - nI 1) (by decide) hG r1 (by omega)
        rw [k_lim32 r2 hN] at e2 t2
        rw [if_pos f1] at e2
        have P2 := r_P_e P1 (t2 f1)
        rw [← es3] at P2
        obtain ⟨r2', r1'⟩ := R2 P2
        obtain ⟨M3, v, e3, t3, -⟩ := r_ot (d := e) P2.1 v3 hN r2' hG r1' (by omega)
        obtain ⟨ev, t3⟩ := t3 f2
        have P3 := r_P_e P2 t3
        rw [← es4] at P3
        rw [ev] at e3
        refine ⟨M3, P3, fun r M6 Y e6 pi6 hy => ?_⟩
        rw [← hy, E_X12_readLikes]
        simp (disch := omega) only [q_ckt, q_lt, q_cI, q_cJ, q_cV, q_cP, q_xI, q_xV, q_xP, q_xJ, g_gk, g_ga, g_gw, g_gp, g_gq, g_P, g_J, q_I_s, q_I_n, q_I_k, nI_add, pk_sub, pk_mul, nI_clamp, n_lt0, n_0lt, n_eq0, n_lt, n_le, n_eq, n_m1, n_m2, n_m9, n_12, n_19, n_10, n_01, n_1n1, n_0n1, n_1n0, n_0n0, n_dI, n_m1lt, q_inb, n_nar, n_nar0, n_nar1, n_bool, Bool.false_eq_true, Bool.true_eq_false, if_true, if_false, ↓reduceIte, Nat.reduceAdd, Nat.reduceMul, Nat.reduceSub, Nat.reduceLT, Nat.reduceLeDiff, Nat.reduceEqDiff, Nat.reduceMod, Nat.reduceDiv, q_R P1.1.1.1, e2, q_R P2.1.1.1, e3, q_R P3.1.1.1, e6, q_R pi6]
      by_cases f3 : k_nf (k_kd B n (k_sb B n s4)) (k_vl B n (k_sb B n s4)) 0 (9 : Nat) = 0
      · obtain ⟨u1, -, u2⟩ := k_nf_0 f3
        have d3' := d3 (by omega)
        have hk : 8 * k_vl B n s2 + k_vl B n s3 < 64 := by omega
        refine ⟨0, k_nt B n (k_sb B n s4), k_put1 K (109 + (8 * k_vl B n s2 + k_vl B n s3)) (k_sv B n s4), N, by decide, by omega, d2, fun _ => ⟨by omega, k_FR_1 hF (Or.inr (Or.inr (Or.inr (Or.inr (Or.inr (by omega))))))⟩, fun M0 M d hd hP => ?_, fun M0 M d hd hP => ?_⟩
        · obtain ⟨e, rfl⟩ : ∃ e, d = e + 1 := ⟨d - 1, by omega⟩
          obtain ⟨M5, P5, E⟩ := CL (show 50 ≤ e by omega) hP
          have h10 := P5.1.2.2.2.2.2.2.2.2.2 u1
          obtain ⟨M6, e6, e6', -⟩ := c_num (d := e) P5.1 (a := 0) (hi := nI 9) (by decide) (by omega)
          rw [show (nI 9).toInt = ((9 : Nat) : Int) by decide +kernel] at e6 e6'
          rw [if_pos f3, e6' f3] at e6
          have P6 := c_P_l (v := k_sv B n s4) P5 hb hk
          have st : ∀ v, m_X9_setLikes e 101 (nI (k_vl B n s2)) (nI (k_vl B n s3)) v M5 = ir_oV (ir_sI M5 108 (8 * k_vl B n s2 + k_vl B n s3) v) := fun v => by
            obtain ⟨e', rfl⟩ : ∃ e', e = e' + 1 := ⟨e - 1, by omega⟩
            rw [E_X9_setLikes, show 8 * k_vl B n s2 + k_vl B n s3 = k_vl B n s2 * 8 + k_vl B n s3 by omega]
            simp (disch := omega) only [q_ckt, q_lt, q_cI, q_cJ, q_cV, q_cP, q_xI, q_xV, q_xP, q_xJ, g_gk, g_ga, g_gw, g_gp, g_gq, g_P, g_J, q_I_s, q_I_n, q_I_k, nI_add, pk_sub, pk_mul, nI_clamp, n_lt0, n_0lt, n_eq0, n_lt, n_le, n_eq, n_m1, n_m2, n_m9, n_12, n_19, n_10, n_01, n_1n1, n_0n1, n_1n0, n_0n0, n_dI, n_m1lt, q_inb, n_nar, n_nar0, n_nar1, n_bool, Bool.false_eq_true, Bool.true_eq_false, if_true, if_false, ↓reduceIte, Nat.reduceAdd, Nat.reduceMul, Nat.reduceSub, Nat.reduceLT, Nat.reduceLeDiff, Nat.reduceEqDiff, Nat.reduceMod, Nat.reduceDiv, q_N P5.1.1.1]
          obtain ⟨M8, e8, P8⟩ := c_P_n (d := e) P6 (by omega)
          refine ⟨M8, CR hd hP (by decide +kernel) (E _ M5 M8 _ e6 P5.1.1.1 ?_), fun _ => P8, fun z => absurd rfl z⟩
          unfold k_sv at e8 P6
          by_cases cs : k_kd B n s4 = 45
          · rw [if_pos cs] at e8 P6
            simp (disch := omega) only [q_ckt, q_lt, q_cI, q_cJ, q_cV, q_cP, q_xI, q_xV, q_xP, q_xJ, g_gk, g_ga, g_gw, g_gp, g_gq, g_P, g_J, q_I_s, q_I_n, q_I_k, nI_add, pk_sub, pk_mul, nI_clamp, n_lt0, n_0lt, n_eq0, n_lt, n_le, n_eq, n_m1, n_m2, n_m9, n_12, n_19, n_10, n_01, n_1n1, n_0n1, n_1n0, n_0n0, n_dI, n_m1lt, q_inb, n_nar, n_nar0, n_nar1, n_bool, Bool.false_eq_true, Bool.true_eq_false, if_true, if_false, ↓reduceIte, Nat.reduceAdd, Nat.reduceMul, Nat.reduceSub, Nat.reduceLT, Nat.reduceLeDiff, Nat.reduceEqDiff, Nat.reduceMod, Nat.reduceDiv, cs, st, h10, q_D P6.1.1.1, e8]
            rfl
          · rw [if_neg cs] at e8 P6
            simp (disch := omega) only [q_ckt, q_lt, q_cI, q_cJ, q_cV, q_cP, q_xI, q_xV, q_xP, q_xJ, g_gk, g_ga, g_gw, g_gp, g_gq, g_P, g_J, q_I_s, q_I_n, q_I_k, nI_add, pk_sub, pk_mul, nI_clamp, n_lt0, n_0lt, n_eq0, n_lt, n_le, n_eq, n_m1, n_m2, n_m9, n_12, n_19, n_10, n_01, n_1n1, n_0n1, n_1n0, n_0n0, n_dI, n_m1lt, q_inb, n_nar, n_nar0, n_nar1, n_bool, Bool.false_eq_true, Bool.true_eq_false, if_true, if_false, ↓reduceIte, Nat.reduceAdd, Nat.reduceMul, Nat.reduceSub, Nat.reduceLT, Nat.reduceLeDiff, Nat.reduceEqDiff, Nat.reduceMod, Nat.reduceDiv, cs, st, h10, q_D P6.1.1.1, e8]
            rfl
        · obtain ⟨e, rfl⟩ : ∃ e, d = e + 1 := ⟨d - 1, by omega⟩
          obtain ⟨M1, P1, E1⟩ := RR hd hP
          obtain ⟨M3, P3, E⟩ := RL (show 50 ≤ e by omega) P1
          obtain ⟨M6, v, e6, t6, -⟩ := r_sn (d := e) P3.1 (w := 9) (by decide) hG (R2 P3).2 (by omega)
          obtain ⟨ev, t6⟩ := t6 f3
          have P6 := r_P_e P3 t6
          have P7 := r_P_4 (k := 109 + (8 * k_vl B n s2 + k_vl B n s3)) (v := v) P6
          rw [ev] at P7
          refine ⟨_, ⟨fun _ => P7, fun z => absurd rfl z⟩, fun X hX => E1 _ X (E v M6 _ e6 P6.1.1.1 ?_) P7.1.1.1 hX⟩
          rw [if_pos P6.1.2.2.2.2.1, ev, show 109 + 8 * k_vl B n s2 + k_vl B n s3 = 109 + (8 * k_vl B n s2 + k_vl B n s3) by omega]
      · refine ⟨k_nf (k_kd B n (k_sb B n s4)) (k_vl B n (k_sb B n s4)) 0 (9 : Nat), k_sb B n s4, K, N, k_nf_b, by omega, sb2, fun z => absurd z f3, fun M0 M d hd hP => ?_, fun M0 M d hd hP => ?_⟩
        · obtain ⟨e, rfl⟩ : ∃ e, d = e + 1 := ⟨d - 1, by omega⟩
          obtain ⟨M5, P5, E⟩ := CL (show 50 ≤ e by omega) hP
          obtain ⟨M6, e6, -, t6⟩ := c_num (d := e) P5.1 (a := 0) (hi := nI 9) (by decide) (by omega)
          rw [show (nI 9).toInt = ((9 : Nat) : Int) by decide +kernel] at e6 t6
          rw [if_neg f3] at e6
          rw [k_1_n f3]
          exact ⟨M6, CR hd hP (by decide +kernel) (E _ M6 M6 _ e6 (t6 f3).1.1 (if_pos rfl)), fun z => absurd z f3, fun _ => t6 f3⟩
        · obtain ⟨e, rfl⟩ : ∃ e, d = e + 1 := ⟨d - 1, by omega⟩
          obtain ⟨M1, P1, E1⟩ := RR hd hP
          obtain ⟨M3, P3, E⟩ := RL (show 50 ≤ e by omega) P1
          obtain ⟨M6, v, e6, -, t6⟩ := r_sn (d := e) P3.1 (w := 9) (by decide) hG (R2 P3).2 (by omega)
          have F6 := t6 f3
          exact ⟨M6, ⟨fun z => absurd z f3, fun _ => F6⟩, fun X hX => E1 M6 X (E v M6 M6 e6 F6.1.1 (if_neg (r_F_z F6))) F6.1.1 hX⟩
    · refine ⟨k_of (k_kd B n s3) (k_vl B n s3) N (k_vl B n s2), s3, K, N, k_of_b, by omega, a2, fun z => absurd z f2, fun M0 M d hd hP => ?_, fun M0 M d hd hP => ?_⟩
      · obtain ⟨e, rfl⟩ : ∃ e, d = e + 1 := ⟨d - 1, by omega⟩
        obtain ⟨M1, e1, P1⟩ := c_P_n (d := e) hP (by omega)
        rw [← es2] at P1
        obtain ⟨M2, e2, e2', -⟩ := c_num (d := e) P1.1 (a := 0) (hi := ir_I M1 101 2 - nI 1) (by decide) (by omega)
        rw [k_lim32 (C2 P1) hN] at e2 e2'
        rw [if_pos f1, e2' f1] at e2
        have h10 := P1.1.2.2.2.2.2.2.2.2.2 v1
        obtain ⟨M3, e3, P3⟩ := c_P_n (d := e) P1 (by omega)
        rw [← es3] at P3
        obtain ⟨M4, e4, -, t4⟩ := c_ot (d := e) P3.1 v3 hN (C2 P3) (by omega)
        rw [k_1_n f2] at e4
        rw [k_1_n f2]
        refine ⟨M4, CR hd hP (by decide +kernel) ?_, fun z => absurd z f2, fun _ => t4 f2⟩
        rw [E_X4_readLikes]
        simp (disch := omega) only [q_ckt, q_lt, q_cI, q_cJ, q_cV, q_cP, q_xI, q_xV, q_xP, q_xJ, g_gk, g_ga, g_gw, g_gp, g_gq, g_P, g_J, q_I_s, q_I_n, q_I_k, nI_add, pk_sub, pk_mul, nI_clamp, n_lt0, n_0lt, n_eq0, n_lt, n_le, n_eq, n_m1, n_m2, n_m9, n_12, n_19, n_10, n_01, n_1n1, n_0n1, n_1n0, n_0n0, n_dI, n_m1lt, q_inb, n_nar, n_nar0, n_nar1, n_bool, Bool.false_eq_true, Bool.true_eq_false, if_true, if_false, ↓reduceIte, Nat.reduceAdd, Nat.reduceMul, Nat.reduceSub, Nat.reduceLT, Nat.reduceLeDiff, Nat.reduceEqDiff, Nat.reduceMod, Nat.reduceDiv, q_D hP.1.1.1, e1, q_D P1.1.1.1, q_N P1.1.1.1, e2, h10, e3, q_D P3.1.1.1, e4, n_nr]
      · obtain ⟨e, rfl⟩ : ∃ e, d = e + 1 := ⟨d - 1, by omega⟩
        obtain ⟨M1, P1, E1⟩ := RR hd hP
        obtain ⟨r2, r1⟩ := R2 P1
        obtain ⟨M2, e2, t2, -⟩ := r_num (d := e) P1.1 (a := 0) (hi := ir_I M1 414 2 - nI 1) (by decide) hG r1 (by omega)
        rw [k_lim32 r2 hN] at e2 t2
        rw [if_pos f1] at e2
        have P2 := r_P_e P1 (t2 f1)
        rw [← es3] at P2
        obtain ⟨r2', r1'⟩ := R2 P2
        obtain ⟨M3, v, e3, -, t3⟩ := r_ot (d := e) P2.1 v3 hN r2' hG r1' (by omega)
        obtain ⟨-, F3⟩ := t3 f2
        refine ⟨M3, ⟨fun z => absurd z f2, fun _ => F3⟩, fun X hX => E1 M3 X ?_ F3.1.1 hX⟩
        rw [E_X12_readLikes]
        simp (disch := omega) only [q_ckt, q_lt, q_cI, q_cJ, q_cV, q_cP, q_xI, q_xV, q_xP, q_xJ, g_gk, g_ga, g_gw, g_gp, g_gq, g_P, g_J, q_I_s, q_I_n, q_I_k, nI_add, pk_sub, pk_mul, nI_clamp, n_lt0, n_0lt, n_eq0, n_lt, n_le, n_eq, n_m1, n_m2, n_m9, n_12, n_19, n_10, n_01, n_1n1, n_0n1, n_1n0, n_0n0, n_dI, n_m1lt, q_inb, n_nar, n_nar0, n_nar1, n_bool, Bool.false_eq_true, Bool.true_eq_false, if_true, if_false, ↓reduceIte, Nat.reduceAdd, Nat.reduceMul, Nat.reduceSub, Nat.reduceLT, Nat.reduceLeDiff, Nat.reduceEqDiff, Nat.reduceMod, Nat.reduceDiv, q_R P1.1.1.1, e2, q_R P2.1.1.1, e3, q_R F3.1.1, r_snF F3 (v := nI 9) (show 3 ≤ e by omega), r_F_z F3]
  · refine ⟨k_nf (k_kd B n s2) (k_vl B n s2) 0 ((N : Int) - 1), s2, K, N, k_nf_b, by omega, b2, fun z => absurd z f1, fun M0 M d hd hP => ?_, fun M0 M d hd hP => ?_⟩
    · obtain ⟨e, rfl⟩ : ∃ e, d = e + 1 := ⟨d - 1, by omega⟩
      obtain ⟨M1, e1, P1⟩ := c_P_n (d := e) hP (by omega)
      rw [← es2] at P1
      obtain ⟨M2, e2, -, t2⟩ := c_num (d := e) P1.1 (a := 0) (hi := ir_I M1 101 2 - nI 1) (by decide) (by omega)
      rw [k_lim32 (C2 P1) hN] at e2 t2
      rw [if_neg f1] at e2
      rw [k_1_n f1]
      refine ⟨M2, CR hd hP (by decide +kernel) ?_, fun z => absurd z f1, fun _ => t2 f1⟩
      rw [E_X4_readLikes]
      simp (disch := omega) only [q_ckt, q_lt, q_cI, q_cJ, q_cV, q_cP, q_xI, q_xV, q_xP, q_xJ, g_gk, g_ga, g_gw, g_gp, g_gq, g_P, g_J, q_I_s, q_I_n, q_I_k, nI_add, pk_sub, pk_mul, nI_clamp, n_lt0, n_0lt, n_eq0, n_lt, n_le, n_eq, n_m1, n_m2, n_m9, n_12, n_19, n_10, n_01, n_1n1, n_0n1, n_1n0, n_0n0, n_dI, n_m1lt, q_inb, n_nar, n_nar0, n_nar1, n_bool, Bool.false_eq_true, Bool.true_eq_false, if_true, if_false, ↓reduceIte, Nat.reduceAdd, Nat.reduceMul, Nat.reduceSub, Nat.reduceLT, Nat.reduceLeDiff, Nat.reduceEqDiff, Nat.reduceMod, Nat.reduceDiv, q_D hP.1.1.1, e1, q_D P1.1.1.1, q_N P1.1.1.1, e2, n_nr]
    · obtain ⟨e, rfl⟩ : ∃ e, d = e + 1 := ⟨d - 1, by omega⟩
      obtain ⟨M1, P1, E1⟩ := RR hd hP
      obtain ⟨r2, r1⟩ := R2 P1
      obtain ⟨M2, e2, -, t2⟩ := r_num (d := e) P1.1 (a := 0) (hi := ir_I M1 414 2 - nI 1) (by decide) hG r1 (by omega)
      rw [k_lim32 r2 hN] at e2 t2
      rw [if_neg f1] at e2
      have F2 := t2 f1
      refine ⟨M2, ⟨fun z => absurd z f1, fun _ => F2⟩, fun X hX => E1 M2 X ?_ F2.1.1 hX⟩
      rw [E_X12_readLikes]
      simp (disch := omega) only [q_ckt, q_lt, q_cI, q_cJ, q_cV, q_cP, q_xI, q_xV, q_xP, q_xJ, g_gk, g_ga, g_gw, g_gp, g_gq, g_P, g_J, q_I_s, q_I_n, q_I_k, nI_add, pk_sub, pk_mul, nI_clamp, n_lt0, n_0lt, n_eq0, n_lt, n_le, n_eq, n_m1, n_m2, n_m9, n_12, n_19, n_10, n_01, n_1n1, n_0n1, n_1n0, n_0n0, n_dI, n_m1lt, q_inb, n_nar, n_nar0, n_nar1, n_bool, Bool.false_eq_true, Bool.true_eq_false, if_true, if_false, ↓reduceIte, Nat.reduceAdd, Nat.reduceMul, Nat.reduceSub, Nat.reduceLT, Nat.reduceLeDiff, Nat.reduceEqDiff, Nat.reduceMod, Nat.reduceDiv, q_R P1.1.1.1, e2, q_R F2.1.1, r_otF F2 (v := nI 0) (show 3 ≤ e by omega), r_snF F2 (v := nI 9) (show 3 ≤ e by omega), r_F_z F2]
end LA
