/-! THE WELL: a person, the worths and the end -/
def c_X (M : ir_M) (K : Nat → Int32) (N g : Nat) : Prop := ir_I M 102 N = K (53 + N) ∧ ir_I M 112 N = K (26 + N) ∧ ir_I M 111 N = K (18 + N) ∧ ∀ j, j < g → ir_I M 107 (6 * N + j) = K (61 + 6 * N + j)
def k_en1 (K : Nat → Int32) (N : Nat) : Nat → Int32 := k_put1 (k_put1 (k_put1 K (10 + N) (nI N)) 9 (nI (N + 1))) 2 (nI (N + 1))
section PE
variable {B : Nat → Nat} {n L : Nat} {xs : Nat → Int32} {M0 M M' : ir_M} {d dp s f p G N : Nat} {K K' : Nat → Int32}
theorem k_en1_e (hN : N < 8) : (∀ k, k ≠ 2 → k ≠ 9 → k ≠ 10 + N → k_en1 K N k = K k) ∧ k_en1 K N 2 = nI (N + 1) ∧ k_en1 K N 9 = nI (N + 1) ∧ k_en1 K N (10 + N) = nI N := by
  unfold k_en1 k_put1
  refine ⟨fun k h1 h2 h3 => ?_, if_pos rfl, ?_, ?_⟩
  · rw [if_neg h1, if_neg h2, if_neg h3]
  · rw [if_neg (by omega), if_pos rfl]
  · rw [if_neg (by omega), if_neg (by omega), if_pos rfl]
theorem k_FR_e (hF : k_FR G N K) (hN : N < 8) (ha : ∃ a : Nat, a < G ∧ K (18 + N) = nI a) : k_FR G (N + 1) (k_en1 K N) := by
  obtain ⟨e0, e2, e9, eq⟩ := k_en1_e (K := K) hN
  have e : ∀ k, k ≠ 2 ∧ k ≠ 9 ∧ k ≠ 10 + N → k_en1 K N k = K k := fun k hk => e0 k hk.1 hk.2.1 hk.2.2
  obtain ⟨⟨a1, a2, a3, a4, a5, a6⟩, g2, g3, g4, g5, g6, ⟨A, A8, g7, g8⟩, g9, ⟨g10, g11, g12⟩, g13, g14⟩ := hF
  refine ⟨⟨a1, a2, by omega, by rw [e 1 (by omega)]; exact a4, e2, e9⟩, fun i hi => ?_, fun p hp => ?_, by rw [e 3 (by omega)]; exact g4, by rw [e 4 (by omega)]; exact g5, by rw [e 5 (by omega)]; exact g6, ⟨A, A8, by rw [e 6 (by omega)]; exact g7, fun k hk => ?_⟩, k_wfL_cg (e 7 (by omega)) (fun k hk => e k (by omega)) g9, ⟨by rw [e 8 (by omega)]; exact g10, fun k h1 h2 => by rw [e k (by omega)]; exact g11 k h1 h2, by rw [e 44 (by omega)]; exact g12⟩, by rw [e 43 (by omega)]; exact g13, fun k h1 h2 => by rw [e k (by omega)]; exact g14 k h1 h2⟩
  · by_cases c : i = N
    · rw [c]; exact eq
    · rw [e _ (by omega)]; exact g2 i (by omega)
  · by_cases c : p = N
    · rw [c, e _ (by omega)]; exact ha
    · rw [e _ (by omega)]; exact g3 p (by omega)
  · obtain ⟨p, q, b1, b2, b3, b4⟩ := g8 k hk
    exact ⟨p, q, by omega, by omega, by rw [e _ (by omega)]; exact b3, by rw [e _ (by omega)]; exact b4⟩
theorem k_ap_N (hF : k_FR G N K) {p q : Nat} (hp : N ≤ p) (hp8 : p < 8) (hq : q < 8) : k_ap K p q = false ∧ k_ap K q p = false := by
  obtain ⟨A, A8, g7, g8⟩ := hF.2.2.2.2.2.2.1
  have hN := hF.1.2.2.1
  have na : k_na K = A := by unfold k_na; rw [g7, nI_clamp (by omega)]
  have ne : ∀ a b : Nat, a < N → nI a = nI b → b < 8 → b < N := fun a b h1 h2 h3 => by
    have := (nI_eq (a := a) (b := b) (by omega) (by omega)).mp h2
    omega
  unfold k_ap
  rw [na]
  constructor
  · rw [List.any_eq_false]
    intro k hk
    obtain ⟨a, b, b1, b2, b3, b4⟩ := g8 k (List.mem_range.mp hk)
    rw [b3, b4]
    have n1 : ¬ nI a = nI p := fun z => by have := ne a p b1 z hp8; omega
    have n2 : ¬ nI b = nI p := fun z => by have := ne b p b2 z hp8; omega
    rw [decide_eq_false n1, decide_eq_false n2, Bool.false_and, Bool.and_false, Bool.or_false]
    exact Bool.false_ne_true
  · rw [List.any_eq_false]
    intro k hk
    obtain ⟨a, b, b1, b2, b3, b4⟩ := g8 k (List.mem_range.mp hk)
    rw [b3, b4]
    have n1 : ¬ nI a = nI p := fun z => by have := ne a p b1 z hp8; omega
    have n2 : ¬ nI b = nI p := fun z => by have := ne b p b2 z hp8; omega
    rw [decide_eq_false n1, decide_eq_false n2, Bool.false_and, Bool.and_false, Bool.or_false]
    exact Bool.false_ne_true
theorem c_P_end (h : c_P B n L xs M0 s K M) (hF : k_FR G N K) (hN : N < 8) (hX : c_X M K N G) : c_P B n L xs M0 s (k_en1 K N) (ir_sI (ir_sI (ir_sI M 101 2 (nI (N + 1))) 110 N (nI N)) 109 0 (nI (N + 1))) := by
  obtain ⟨dn, dg, dm, dw, da, hb⟩ := k_FR_d hF
  have hG := hF.1.2.1
  obtain ⟨e0, e2, e9, eq⟩ := k_en1_e (K := K) hN
  have ek : ∀ k, k ≠ 2 ∧ k ≠ 9 ∧ k ≠ 10 + N → k_en1 K N k = K k := fun k hk => e0 k hk.1 hk.2.1 hk.2.2
  obtain ⟨M', eM⟩ : ∃ X, X = ir_sI (ir_sI (ir_sI M 101 2 (nI (N + 1))) 110 N (nI N)) 109 0 (nI (N + 1)) := ⟨_, rfl⟩
  rw [← eM]
  have qa : q_eq [101] M (ir_sI M 101 2 (nI (N + 1))) := q_eq.sI (by decide)
  have qb : q_eq [110] (ir_sI M 101 2 (nI (N + 1))) (ir_sI (ir_sI M 101 2 (nI (N + 1))) 110 N (nI N)) := q_eq.sI (by decide)
  have qc : q_eq [109] (ir_sI (ir_sI M 101 2 (nI (N + 1))) 110 N (nI N)) M' := by rw [eM]; exact q_eq.sI (by decide)
  have q1 : q_eq [101, 109, 110] M M' := ((qa.sub (by decide)).tr (qb.sub (by decide))).tr (qc.sub (by decide))
  have m2 : ir_I M' 101 2 = nI (N + 1) := by rw [q_I_eq qc (by decide), q_I_eq qb (by decide), q_I_s]
  have m1 : ∀ k, k ≠ 2 → ir_I M' 101 k = ir_I M 101 k := fun k hk => by rw [q_I_eq qc (by decide), q_I_eq qb (by decide), q_I_k hk]
  have p1 : ir_I M' 110 N = nI N := by rw [q_I_eq qc (by decide), q_I_s]
  have p2 : ∀ k, k ≠ N → ir_I M' 110 k = ir_I M 110 k := fun k hk => by rw [q_I_eq qc (by decide), q_I_k hk, q_I_eq qa (by decide)]
  have s0 : ir_I M' 109 0 = nI (N + 1) := by rw [eM, q_I_s]
  have s1 : ∀ k, k ≠ 0 → ir_I M' 109 k = ir_I M 109 k := fun k hk => by rw [eM, q_I_k hk, q_I_eq qb (by decide), q_I_eq qa (by decide)]
  have ea : ∀ a k, a ≠ 101 → a ≠ 109 → a ≠ 110 → ir_I M' a k = ir_I M a k := fun a k h1 h2 h3 => q_I_eq q1 (fun w => by
    rcases List.mem_cons.mp w with w | w
    · exact h1 w
    · rcases List.mem_cons.mp w with w | w
      · exact h2 w
      · exact h3 (List.mem_singleton.mp w)) k
  have en : k_n (k_en1 K N) = N + 1 := by unfold k_n; rw [e2, nI_clamp (by omega)]
  have eg : k_g (k_en1 K N) = G := by unfold k_g; rw [ek 1 (by omega)]; exact dg
  have em : k_m (k_en1 K N) = N + 1 := by unfold k_m; rw [e9, nI_clamp (by omega)]
  have ew : k_w (k_en1 K N) = 0 := by unfold k_w; rw [ek 44 (by omega)]; exact dw
  have ean : k_na (k_en1 K N) = k_na K := by unfold k_na; rw [ek 6 (by omega)]
  obtain ⟨X1, X2, X3, X4⟩ := hX
  obtain ⟨hT, ⟨z1, z2, z3, z4, z5, z6, z7, z8, z9, z10, z11, z12⟩, h2', h3, y1, y2, y3⟩ := h
  rw [dn] at z8 z9 z10 y1
  rw [dg] at z9
  obtain ⟨t1, t2, t3, t4, t5, t6, t7, t8, t9⟩ := h3
  rw [dm] at t5
  rw [dn] at t6 t7 t8
  refine ⟨c_T_eq hT q1 (by decide) (c_cn_eq q1 (by decide) hT.2.2.1), ⟨?_, ?_, m2.trans e2.symm, ?_, ?_, ?_, ?_, fun p hp => ?_, fun p g hp hg => ?_, fun p q hp hq => ?_, ?_, fun i hi => ?_⟩, fun p hp => ?_, ⟨s0.trans e9.symm, ?_, ?_, ?_, fun i hi => ?_, fun p hp => ?_, fun p hp => ?_, fun p hp => ?_, fun i hi => ?_⟩, fun p hp hn => ?_, fun k hk => ?_, fun p hp => ?_⟩
  · rw [m1 _ (by decide), ek _ (by omega)]; exact z1
  · rw [m1 _ (by decide), ek _ (by omega)]; exact z2
  · rw [m1 _ (by decide), ek _ (by omega)]; exact z4
  · rw [m1 _ (by decide), ek _ (by omega)]; exact z5
  · rw [m1 _ (by decide), ek _ (by omega)]; exact z6
  · rw [m1 _ (by decide), ek _ (by omega)]; exact z7
  · rw [en] at hp
    rw [ea _ _ (by decide) (by decide) (by decide), ek _ (by omega)]
    by_cases c : p = N
    · rw [c]; exact X1
    · exact z8 p (by omega)
  · rw [en] at hp; rw [eg] at hg
    rw [ea _ _ (by decide) (by decide) (by decide), ek _ (by omega)]
    by_cases c : p = N
    · rw [c]; exact X4 g hg
    · exact z9 p g (by omega) hg
  · rw [en] at hp hq
    rw [ea _ _ (by decide) (by decide) (by decide), ek _ (by omega), show 109 + 8 * p + q = 109 + (8 * p + q) by omega]
    exact y2 (8 * p + q) (by omega)
  · rw [ea _ _ (by decide) (by decide) (by decide), ek _ (by omega)]; exact z11
  · rw [ek 7 (by omega)] at hi
    have e : k_sp (k_en1 K N) i = k_sp K i := by unfold k_sp; rw [ek _ (by omega)]
    rw [ea _ _ (by decide) (by decide) (by decide), e]; exact z12 i hi
  · rw [en] at hp
    have apq : ∀ q, k_ap (k_en1 K N) p q = k_ap K p q := fun q => by
      unfold k_ap
      rw [ean]
      congr 1
      funext j
      rw [ek _ (by omega), ek _ (by omega)]
    by_cases c : p = N
    · refine ⟨0, by decide, ?_, fun q hq => ?_⟩
      · rw [ea _ _ (by decide) (by decide) (by decide), c]; exact y1 N hN (Nat.le_refl _)
      · rw [apq q, c, (k_ap_N hF (Nat.le_refl N) hN hq).1, Nat.zero_testBit]
    · obtain ⟨x, w1, w2, w3⟩ := h2' p (by rw [dn]; omega)
      exact ⟨x, w1, by rw [ea _ _ (by decide) (by decide) (by decide)]; exact w2, fun q hq => (w3 q hq).trans (apq q).symm⟩
  · rw [s1 _ (by decide), ek _ (by omega)]; exact t2
  · rw [s1 _ (by decide), ek _ (by omega)]; exact t3
  · rw [s1 _ (by decide), ek _ (by omega)]; exact t4
  · rw [em] at hi
    by_cases c : i = N
    · rw [c]; exact p1.trans eq.symm
    · rw [p2 i c, ek _ (by omega)]; exact t5 i (by omega)
  · rw [en] at hp
    rw [ea _ _ (by decide) (by decide) (by decide), ek _ (by omega)]
    by_cases c : p = N
    · rw [c]; exact X3
    · exact t6 p (by omega)
  · rw [en] at hp
    rw [ea _ _ (by decide) (by decide) (by decide), ek _ (by omega)]
    by_cases c : p = N
    · rw [c]; exact X2
    · exact t7 p (by omega)
  · rw [en] at hp
    rw [ea _ _ (by decide) (by decide) (by decide), ek _ (by omega)]
    exact y3 p (by omega)
  · rw [ew] at hi; exact absurd hi (Nat.not_lt_zero _)
  · rw [en] at hn; rw [ea _ _ (by decide) (by decide) (by decide)]; exact y1 p hp (by omega)
  · rw [ea _ _ (by decide) (by decide) (by decide), ek _ (by omega)]; exact y2 k hk
  · rw [ea _ _ (by decide) (by decide) (by decide), ek _ (by omega)]; exact y3 p hp
theorem r_116F (hN : N < 8) (hd : 4 ≤ d) : ∀ (r g : Nat) {M : ir_M}, g + r = 7 → r_F B n L xs M0 f p M → ∃ M', v_X12_readPerson_116 d 412 (nI N) (nI g) M = ir_oV M' ∧ r_F B n L xs M0 f p M'
  | 0, g, M, hg, h => by
    obtain ⟨g', g6, h1⟩ := h.2.2.2.2.2
    refine ⟨M, ?_, h⟩
    rw [L_X12_readPerson_116]
    simp (disch := omega) only [q_ckt, q_lt, q_cI, q_cJ, q_cV, q_cP, q_xI, q_xV, q_xP, q_xJ, g_gk, g_ga, g_gw, g_gp, g_gq, g_P, g_J, q_I_s, q_I_n, q_I_k, nI_add, pk_sub, pk_mul, nI_clamp, n_lt0, n_0lt, n_eq0, n_lt, n_le, n_eq, n_m1, n_m2, n_m9, n_12, n_19, n_10, n_01, n_1n1, n_0n1, n_1n0, n_0n0, n_dI, n_m1lt, q_inb, n_nar, n_nar0, n_nar1, n_bool, Bool.false_eq_true, Bool.true_eq_false, if_true, if_false, ↓reduceIte, Nat.reduceAdd, Nat.reduceMul, Nat.reduceSub, Nat.reduceLT, Nat.reduceLeDiff, Nat.reduceEqDiff, Nat.reduceMod, Nat.reduceDiv, q_R h.1.1, h1, show ¬ g < g' by omega, r_F_z h]
  | r + 1, g, M, hg, h => by
    obtain ⟨g', g6, h1⟩ := h.2.2.2.2.2
    by_cases c : g < g'
    · obtain ⟨M', e', F'⟩ := r_116F hN hd r (g + 1) (by omega) (r_F_4 (k := 61 + 6 * N + g) (v := nI 0) h (by omega))
      refine ⟨M', ?_, F'⟩
      rw [← e', L_X12_readPerson_116]
      simp (disch := omega) only [q_ckt, q_lt, q_cI, q_cJ, q_cV, q_cP, q_xI, q_xV, q_xP, q_xJ, g_gk, g_ga, g_gw, g_gp, g_gq, g_P, g_J, q_I_s, q_I_n, q_I_k, nI_add, pk_sub, pk_mul, nI_clamp, n_lt0, n_0lt, n_eq0, n_lt, n_le, n_eq, n_m1, n_m2, n_m9, n_12, n_19, n_10, n_01, n_1n1, n_0n1, n_1n0, n_0n0, n_dI, n_m1lt, q_inb, n_nar, n_nar0, n_nar1, n_bool, Bool.false_eq_true, Bool.true_eq_false, if_true, if_false, ↓reduceIte, Nat.reduceAdd, Nat.reduceMul, Nat.reduceSub, Nat.reduceLT, Nat.reduceLeDiff, Nat.reduceEqDiff, Nat.reduceMod, Nat.reduceDiv, q_R h.1.1, h1, c, r_snF h (v := nI 99) (show 3 ≤ d by omega)]
    · refine ⟨M, ?_, h⟩
      rw [L_X12_readPerson_116]
      simp (disch := omega) only [q_ckt, q_lt, q_cI, q_cJ, q_cV, q_cP, q_xI, q_xV, q_xP, q_xJ, g_gk, g_ga, g_gw, g_gp, g_gq, g_P, g_J, q_I_s, q_I_n, q_I_k, nI_add, pk_sub, pk_mul, nI_clamp, n_lt0, n_0lt, n_eq0, n_lt, n_le, n_eq, n_m1, n_m2, n_m9, n_12, n_19, n_10, n_01, n_1n1, n_0n1, n_1n0, n_0n0, n_dI, n_m1lt, q_inb, n_nar, n_nar0, n_nar1, n_bool, Bool.false_eq_true, Bool.true_eq_false, if_true, if_false, ↓reduceIte, Nat.reduceAdd, Nat.reduceMul, Nat.reduceSub, Nat.reduceLT, Nat.reduceLeDiff, Nat.reduceEqDiff, Nat.reduceMod, Nat.reduceDiv, q_R h.1.1, h1, c, r_F_z h]
theorem k_sv_b (h : k_vl B n (k_sb B n s) ≤ 99) : -99 ≤ (k_sv B n s).toInt ∧ (k_sv B n s).toInt ≤ 99 := by
  have key : ∀ v, v ≤ 99 → (-99 ≤ (nI v).toInt ∧ (nI v).toInt ≤ 99) ∧ (-99 ≤ (-(nI v)).toInt ∧ (-(nI v)).toInt ≤ 99) := by decide +kernel
  unfold k_sv
  split
  · exact (key _ h).2
  · exact (key _ h).1
theorem w_wl (hN : N < 8) : ∀ (r g s : Nat) (K : Nat → Int32), g + r = G → s ≤ n → k_FR G N K → (∃ a : Nat, a < G ∧ K (18 + N) = nI a) → ∃ (f p : Nat) (K' : Nat → Int32), f ≤ 4 ∧ s ≤ p ∧ p ≤ n ∧ (f = 0 → k_FR G (N + 1) K') ∧ (∀ M0 M d, 12 ≤ d → c_P B n L xs M0 s K M → c_X M K N g → ∃ M', v_X4_readPerson_163 d 100 (nI N) (nI g) M = ir_oI (k_1 f) M' ∧ c_Q B n L xs M0 f p K' M') ∧ (∀ M0 M d, 12 ≤ d → r_P B n L xs M0 0 s K M → ∃ M', v_X12_readPerson_116 d 412 (nI N) (nI g) M = ir_oV M' ∧ r_Q B n L xs M0 0 f p K' M')
  | 0, g, s, K, hg, hs, hF, ha => by
    have hG := hF.1.2.1
    have K1 := hF.1.2.2.2.1
    have K2 := hF.1.2.2.2.2.1
    have K9 := hF.1.2.2.2.2.2
    have eg : g = G := by omega
    refine ⟨0, s, k_en1 K N, by decide, Nat.le_refl _, hs, fun _ => k_FR_e hF hN ha, fun M0 M d hd hP hX => ?_, fun M0 M d hd hP => ?_⟩
    · rw [eg] at hX ⊢
      have P := c_P_end hP hF hN hX
      refine ⟨_, ?_, fun _ => P, fun z => absurd rfl z⟩
      have c1 : ir_I M 101 1 = nI G := hP.2.1.2.1.trans K1
      have c2 : ir_I M 101 2 = nI N := hP.2.1.2.2.1.trans K2
      have c0 : ir_I M 109 0 = nI N := hP.2.2.2.1.1.trans K9
      have pl : ∃ r, m_X8_putLast d 109 (nI N) (ir_sI M 101 2 (nI (N + 1))) = ir_oI r (ir_sI (ir_sI (ir_sI M 101 2 (nI (N + 1))) 110 N (nI N)) 109 0 (nI (N + 1))) := by
        obtain ⟨e, rfl⟩ : ∃ e, d = e + 1 := ⟨d - 1, by omega⟩
        refine ⟨nI (N + 1) - nI 1, ?_⟩
        rw [E_X8_putLast]
        simp (disch := omega) only [q_ckt, q_lt, q_cI, q_cJ, q_cV, q_cP, q_xI, q_xV, q_xP, q_xJ, g_gk, g_ga, g_gw, g_gp, g_gq, g_P, g_J, q_I_s, q_I_n, q_I_k, nI_add, pk_sub, pk_mul, nI_clamp, n_lt0, n_0lt, n_eq0, n_lt, n_le, n_eq, n_m1, n_m2, n_m9, n_12, n_19, n_10, n_01, n_1n1, n_0n1, n_1n0, n_0n0, n_dI, n_m1lt, q_inb, n_nar, n_nar0, n_nar1, n_bool, Bool.false_eq_true, Bool.true_eq_false, if_true, if_false, ↓reduceIte, Nat.reduceAdd, Nat.reduceMul, Nat.reduceSub, Nat.reduceLT, Nat.reduceLeDiff, Nat.reduceEqDiff, Nat.reduceMod, Nat.reduceDiv, q_N hP.1.1.1, c0, hN]
      obtain ⟨r, pl⟩ := pl
      rw [L_X4_readPerson_163, k_1_0]
      simp (disch := omega) only [q_ckt, q_lt, q_cI, q_cJ, q_cV, q_cP, q_xI, q_xV, q_xP, q_xJ, g_gk, g_ga, g_gw, g_gp, g_gq, g_P, g_J, q_I_s, q_I_n, q_I_k, nI_add, pk_sub, pk_mul, nI_clamp, n_lt0, n_0lt, n_eq0, n_lt, n_le, n_eq, n_m1, n_m2, n_m9, n_12, n_19, n_10, n_01, n_1n1, n_0n1, n_1n0, n_0n0, n_dI, n_m1lt, q_inb, n_nar, n_nar0, n_nar1, n_bool, Bool.false_eq_true, Bool.true_eq_false, if_true, if_false, ↓reduceIte, Nat.reduceAdd, Nat.reduceMul, Nat.reduceSub, Nat.reduceLT, Nat.reduceLeDiff, Nat.reduceEqDiff, Nat.reduceMod, Nat.reduceDiv, q_D hP.1.1.1, q_N hP.1.1.1, c1, c2, show ¬ G < G by omega, pl, n_nr]
    · rw [eg]
      have P : r_P B n L xs M0 0 s (k_en1 K N) (ir_sI (ir_sI (ir_sI M 414 (10 + N) (nI N)) 414 9 (nI (N + 1))) 414 2 (nI (N + 1))) := r_P_4 (r_P_4 (r_P_4 hP))
      refine ⟨_, ?_, fun _ => P, fun z => absurd rfl z⟩
      have c1 : ir_I M 414 1 = nI G := (hP.2 1).trans K1
      have c2 : ir_I M 414 2 = nI N := (hP.2 2).trans K2
      have c9 : ir_I M 414 9 = nI N := (hP.2 9).trans K9
      rw [L_X12_readPerson_116]
      simp (disch := omega) only [q_ckt, q_lt, q_cI, q_cJ, q_cV, q_cP, q_xI, q_xV, q_xP, q_xJ, g_gk, g_ga, g_gw, g_gp, g_gq, g_P, g_J, q_I_s, q_I_n, q_I_k, nI_add, pk_sub, pk_mul, nI_clamp, n_lt0, n_0lt, n_eq0, n_lt, n_le, n_eq, n_m1, n_m2, n_m9, n_12, n_19, n_10, n_01, n_1n1, n_0n1, n_1n0, n_0n0, n_dI, n_m1lt, q_inb, n_nar, n_nar0, n_nar1, n_bool, Bool.false_eq_true, Bool.true_eq_false, if_true, if_false, ↓reduceIte, Nat.reduceAdd, Nat.reduceMul, Nat.reduceSub, Nat.reduceLT, Nat.reduceLeDiff, Nat.reduceEqDiff, Nat.reduceMod, Nat.reduceDiv, q_R hP.1.1.1, c1, show ¬ G < G by omega, hP.1.2.2.2.2.1, c9, c2]
  | r + 1, g, s, K, hg, hs, hF, ha => by
    have hG := hF.1.2.1
    have K1 := hF.1.2.2.2.1
    obtain ⟨sb1, sb2⟩ := k_sb_b (B := B) hs
    obtain ⟨d1, d2, d3, d4, d5, d6, d7, d8⟩ := k_nt_b (B := B) sb2
    by_cases f3 : k_nf (k_kd B n (k_sb B n s)) (k_vl B n (k_sb B n s)) 0 (99 : Nat) = 0
    · obtain ⟨u1, -, u2⟩ := k_nf_0 f3
      have d3' := d3 (by omega)
      have hF1 : k_FR G N (k_put1 K (61 + 6 * N + g) (k_sv B n s)) := k_FR_p hF hN (Or.inr (Or.inr (Or.inr ⟨by omega, by omega, k_sv_b (by omega)⟩)))
      obtain ⟨f, p, K', y1, y2, y3, y4, y5, y6⟩ := w_wl hN r (g + 1) (k_nt B n (k_sb B n s)) (k_put1 K (61 + 6 * N + g) (k_sv B n s)) (by omega) d2 hF1 (by
        rw [show k_put1 K (61 + 6 * N + g) (k_sv B n s) (18 + N) = K (18 + N) from if_neg (by omega)]; exact ha)
      refine ⟨f, p, K', y1, by omega, y3, y4, fun M0 M d hd hP hX => ?_, fun M0 M d hd hP => ?_⟩
      · have c1 : ir_I M 101 1 = nI G := hP.2.1.2.1.trans K1
        obtain ⟨M4, e4, t4⟩ := c_sgn (d := d) hP.1 (by omega)
        have P4 := c_P_e hP t4
        obtain ⟨M6, e6, e6', -⟩ := c_num (d := d) P4.1 (a := 0) (hi := nI 99) (by decide) (by omega)
        rw [show (nI 99).toInt = ((99 : Nat) : Int) by decide +kernel] at e6 e6'
        rw [if_pos f3, e6' f3] at e6
        have h10 := P4.1.2.2.2.2.2.2.2.2.2 u1
        have q1 : q_eq [107] M4 (ir_sI M4 107 (6 * N + g) (k_sv B n s)) := q_eq.sI (by decide)
        have P7 : c_P B n L xs M0 (k_sb B n s) (k_put1 K (61 + 6 * N + g) (k_sv B n s)) (ir_sI M4 107 (6 * N + g) (k_sv B n s)) := ⟨c_T_eq P4.1 q1 (by decide) (c_cn_eq q1 (by decide) P4.1.2.2.1), c_K_p hF (fun a k hk _ => by
          by_cases w : a = 107
          · rw [w, q_I_k (by omega)]
          · exact q_I_eq q1 (fun y => w (List.mem_singleton.mp y)) k) (fun k _ _ _ h4 => if_neg (by omega)) hN P4.2⟩
        have st : ∀ v, m_X9_setWorth d 101 (nI N) (nI g) v M4 = ir_oV (ir_sI M4 107 (6 * N + g) v) := fun v => by
          obtain ⟨e', rfl⟩ : ∃ e', d = e' + 1 := ⟨d - 1, by omega⟩
          rw [E_X9_setWorth, show 6 * N + g = N * 6 + g by omega]
          simp (disch := omega) only [q_ckt, q_lt, q_cI, q_cJ, q_cV, q_cP, q_xI, q_xV, q_xP, q_xJ, g_gk, g_ga, g_gw, g_gp, g_gq, g_P, g_J, q_I_s, q_I_n, q_I_k, nI_add, pk_sub, pk_mul, nI_clamp, n_lt0, n_0lt, n_eq0, n_lt, n_le, n_eq, n_m1, n_m2, n_m9, n_12, n_19, n_10, n_01, n_1n1, n_0n1, n_1n0, n_0n0, n_dI, n_m1lt, q_inb, n_nar, n_nar0, n_nar1, n_bool, Bool.false_eq_true, Bool.true_eq_false, if_true, if_false, ↓reduceIte, Nat.reduceAdd, Nat.reduceMul, Nat.reduceSub, Nat.reduceLT, Nat.reduceLeDiff, Nat.reduceEqDiff, Nat.reduceMod, Nat.reduceDiv, q_N P4.1.1.1]
        obtain ⟨M8, e8, t8, q8⟩ := c_next (d := d) P7.1 (by omega)
        have P8 := c_P_e P7 ⟨t8, q8⟩
        have X8 : c_X M8 (k_put1 K (61 + 6 * N + g) (k_sv B n s)) N (g + 1) := by
          obtain ⟨X1, X2, X3, X4⟩ := hX
          have em : ∀ a k, a ≠ 100 → a ≠ 107 → ir_I M8 a k = ir_I M a k := fun a k h1 h2 => by
            rw [q_I_eq q8 (fun y => h1 (List.mem_singleton.mp y)), q_I_eq q1 (fun y => h2 (List.mem_singleton.mp y)), q_I_eq t4.2 (fun y => h1 (List.mem_singleton.mp y))]
          have ek : ∀ k, k ≠ 61 + 6 * N + g → k_put1 K (61 + 6 * N + g) (k_sv B n s) k = K k := fun k hk => if_neg hk
          refine ⟨by rw [em _ _ (by decide) (by decide), ek _ (by omega)]; exact X1, by rw [em _ _ (by decide) (by decide), ek _ (by omega)]; exact X2, by rw [em _ _ (by decide) (by decide), ek _ (by omega)]; exact X3, fun j hj => ?_⟩
          rw [q_I_eq q8 (by decide)]
          by_cases c : j = g
          · rw [c, q_I_s, show k_put1 K (61 + 6 * N + g) (k_sv B n s) (61 + 6 * N + g) = k_sv B n s from if_pos rfl]
          · rw [q_I_k (by omega), ek _ (by omega), q_I_eq t4.2 (by decide)]; exact X4 j (by omega)
        obtain ⟨M', e', Q'⟩ := y5 M0 M8 d hd P8 X8
        refine ⟨M', ?_, Q'⟩
        rw [← e', L_X4_readPerson_163]
        unfold k_sv at e8
        by_cases cs : k_kd B n s = 45
        · rw [if_pos cs] at e4 e8
          simp (disch := omega) only [q_ckt, q_lt, q_cI, q_cJ, q_cV, q_cP, q_xI, q_xV, q_xP, q_xJ, g_gk, g_ga, g_gw, g_gp, g_gq, g_P, g_J, q_I_s, q_I_n, q_I_k, nI_add, pk_sub, pk_mul, nI_clamp, n_lt0, n_0lt, n_eq0, n_lt, n_le, n_eq, n_m1, n_m2, n_m9, n_12, n_19, n_10, n_01, n_1n1, n_0n1, n_1n0, n_0n0, n_dI, n_m1lt, q_inb, n_nar, n_nar0, n_nar1, n_bool, Bool.false_eq_true, Bool.true_eq_false, if_true, if_false, ↓reduceIte, Nat.reduceAdd, Nat.reduceMul, Nat.reduceSub, Nat.reduceLT, Nat.reduceLeDiff, Nat.reduceEqDiff, Nat.reduceMod, Nat.reduceDiv, q_D hP.1.1.1, q_N hP.1.1.1, c1, show g < G by omega, e4, q_D P4.1.1.1, q_N P4.1.1.1, e6, h10, st, e8, q_D P8.1.1.1]
        · rw [if_neg cs] at e4 e8
          simp (disch := omega) only [q_ckt, q_lt, q_cI, q_cJ, q_cV, q_cP, q_xI, q_xV, q_xP, q_xJ, g_gk, g_ga, g_gw, g_gp, g_gq, g_P, g_J, q_I_s, q_I_n, q_I_k, nI_add, pk_sub, pk_mul, nI_clamp, n_lt0, n_0lt, n_eq0, n_lt, n_le, n_eq, n_m1, n_m2, n_m9, n_12, n_19, n_10, n_01, n_1n1, n_0n1, n_1n0, n_0n0, n_dI, n_m1lt, q_inb, n_nar, n_nar0, n_nar1, n_bool, Bool.false_eq_true, Bool.true_eq_false, if_true, if_false, ↓reduceIte, Nat.reduceAdd, Nat.reduceMul, Nat.reduceSub, Nat.reduceLT, Nat.reduceLeDiff, Nat.reduceEqDiff, Nat.reduceMod, Nat.reduceDiv, q_D hP.1.1.1, q_N hP.1.1.1, c1, show g < G by omega, e4, q_D P4.1.1.1, q_N P4.1.1.1, e6, h10, st, e8, q_D P8.1.1.1]
      · have c1 : ir_I M 414 1 = nI G := (hP.2 1).trans K1
        obtain ⟨M6, v, e6, t6, -⟩ := r_sn (d := d) hP.1 (w := 99) (by decide) hG c1 (by omega)
        obtain ⟨ev, t6⟩ := t6 f3
        have P6 := r_P_4 (k := 61 + 6 * N + g) (v := k_sv B n s) (r_P_e hP t6)
        obtain ⟨M', e', Q'⟩ := y6 M0 _ d hd P6
        refine ⟨M', ?_, Q'⟩
        rw [ev] at e6
        rw [← e', L_X12_readPerson_116]
        simp (disch := omega) only [q_ckt, q_lt, q_cI, q_cJ, q_cV, q_cP, q_xI, q_xV, q_xP, q_xJ, g_gk, g_ga, g_gw, g_gp, g_gq, g_P, g_J, q_I_s, q_I_n, q_I_k, nI_add, pk_sub, pk_mul, nI_clamp, n_lt0, n_0lt, n_eq0, n_lt, n_le, n_eq, n_m1, n_m2, n_m9, n_12, n_19, n_10, n_01, n_1n1, n_0n1, n_1n0, n_0n0, n_dI, n_m1lt, q_inb, n_nar, n_nar0, n_nar1, n_bool, Bool.false_eq_true, Bool.true_eq_false, if_true, if_false, ↓reduceIte, Nat.reduceAdd, Nat.reduceMul, Nat.reduceSub, Nat.reduceLT, Nat.reduceLeDiff, Nat.reduceEqDiff, Nat.reduceMod, Nat.reduceDiv, q_R hP.1.1.1, c1, show g < G by omega, e6, q_R t6.1.1.1]
    · refine ⟨k_nf (k_kd B n (k_sb B n s)) (k_vl B n (k_sb B n s)) 0 (99 : Nat), k_sb B n s, K, k_nf_b, sb1, sb2, fun z => absurd z f3, fun M0 M d hd hP hX => ?_, fun M0 M d hd hP => ?_⟩
      · have c1 : ir_I M 101 1 = nI G := hP.2.1.2.1.trans K1
        obtain ⟨M4, e4, t4⟩ := c_sgn (d := d) hP.1 (by omega)
        have P4 := c_P_e hP t4
        obtain ⟨M6, e6, -, t6⟩ := c_num (d := d) P4.1 (a := 0) (hi := nI 99) (by decide) (by omega)
        rw [show (nI 99).toInt = ((99 : Nat) : Int) by decide +kernel] at e6 t6
        rw [if_neg f3] at e6
        refine ⟨M6, ?_, fun z => absurd z f3, fun _ => t6 f3⟩
        rw [L_X4_readPerson_163, k_1_n f3]
        simp (disch := omega) only [q_ckt, q_lt, q_cI, q_cJ, q_cV, q_cP, q_xI, q_xV, q_xP, q_xJ, g_gk, g_ga, g_gw, g_gp, g_gq, g_P, g_J, q_I_s, q_I_n, q_I_k, nI_add, pk_sub, pk_mul, nI_clamp, n_lt0, n_0lt, n_eq0, n_lt, n_le, n_eq, n_m1, n_m2, n_m9, n_12, n_19, n_10, n_01, n_1n1, n_0n1, n_1n0, n_0n0, n_dI, n_m1lt, q_inb, n_nar, n_nar0, n_nar1, n_bool, Bool.false_eq_true, Bool.true_eq_false, if_true, if_false, ↓reduceIte, Nat.reduceAdd, Nat.reduceMul, Nat.reduceSub, Nat.reduceLT, Nat.reduceLeDiff, Nat.reduceEqDiff, Nat.reduceMod, Nat.reduceDiv, q_D hP.1.1.1, q_N hP.1.1.1, c1, show g < G by omega, e4, q_D P4.1.1.1, e6, n_nr]
      · have c1 : ir_I M 414 1 = nI G := (hP.2 1).trans K1
        obtain ⟨M6, v, e6, -, t6⟩ := r_sn (d := d) hP.1 (w := 99) (by decide) hG c1 (by omega)
        have F6 := t6 f3
        obtain ⟨M', e', F'⟩ := r_116F hN (show 4 ≤ d by omega) (6 - g) (g + 1) (by omega) (r_F_4 (k := 61 + 6 * N + g) (v := v) F6 (by omega))
        refine ⟨M', ?_, fun z => absurd z f3, fun _ => F'⟩
        rw [← e', L_X12_readPerson_116]
        simp (disch := omega) only [q_ckt, q_lt, q_cI, q_cJ, q_cV, q_cP, q_xI, q_xV, q_xP, q_xJ, g_gk, g_ga, g_gw, g_gp, g_gq, g_P, g_J, q_I_s, q_I_n, q_I_k, nI_add, pk_sub, pk_mul, nI_clamp, n_lt0, n_0lt, n_eq0, n_lt, n_le, n_eq, n_m1, n_m2, n_m9, n_12, n_19, n_10, n_01, n_1n1, n_0n1, n_1n0, n_0n0, n_dI, n_m1lt, q_inb, n_nar, n_nar0, n_nar1, n_bool, Bool.false_eq_true, Bool.true_eq_false, if_true, if_false, ↓reduceIte, Nat.reduceAdd, Nat.reduceMul, Nat.reduceSub, Nat.reduceLT, Nat.reduceLeDiff, Nat.reduceEqDiff, Nat.reduceMod, Nat.reduceDiv, q_R hP.1.1.1, c1, show g < G by omega, e6, q_R F6.1.1]
end PE
