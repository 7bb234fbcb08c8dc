/-! THE WELL: those apart -/
def k_apt (K : Nat → Int32) (A one other : Nat) : Nat → Int32 := k_put1 (k_put1 (k_put1 K (173 + 2 * A) (nI one)) (173 + 2 * A + 1) (nI other)) 6 (nI (A + 1))
section LP
variable {B : Nat → Nat} {n L : Nat} {xs : Nat → Int32} {M0 M : ir_M} {d dp s f p G N A one other : Nat} {K : Nat → Int32}
theorem k_apt_e : (∀ k, k ≠ 6 → k ≠ 173 + 2 * A → k ≠ 173 + 2 * A + 1 → k_apt K A one other k = K k) ∧ k_apt K A one other 6 = nI (A + 1) ∧ k_apt K A one other (173 + 2 * A) = nI one ∧ k_apt K A one other (173 + 2 * A + 1) = nI other := by
  unfold k_apt k_put1
  refine ⟨fun k h1 h2 h3 => ?_, if_pos rfl, ?_, ?_⟩
  · rw [if_neg h1, if_neg h3, if_neg h2]
  · rw [if_neg (by omega), if_neg (by omega), if_pos rfl]
  · rw [if_neg (by omega), if_pos rfl]
theorem k_FR_a (h : k_FR G N K) (hA : A < 8) (h6 : K 6 = nI A) (h1 : one < N) (h2 : other < N) : k_FR G N (k_apt K A one other) := by
  obtain ⟨e0, e6, ea, eb⟩ := k_apt_e (K := K) (A := A) (one := one) (other := other)
  obtain ⟨⟨a1, a2, a3, a4, a5, a6⟩, g2, g3, g4, g5, g6, ⟨A', A8, g7, g8⟩, g9, ⟨g10, g11, g12⟩, g13, g14⟩ := h
  have eA : A' = A := (nI_eq (by omega) (by omega)).mp (g7.symm.trans h6)
  have e : ∀ k, k ≠ 6 ∧ k ≠ 173 + 2 * A ∧ k ≠ 173 + 2 * A + 1 → k_apt K A one other k = K k := fun k hk => e0 k hk.1 hk.2.1 hk.2.2
  refine ⟨⟨a1, a2, a3, by rw [e 1 (by omega)]; exact a4, by rw [e 2 (by omega)]; exact a5, by rw [e 9 (by omega)]; exact a6⟩, fun i hi => by rw [e _ (by omega)]; exact g2 i hi, fun p hp => ?_, by rw [e 3 (by omega)]; exact g4, by rw [e 4 (by omega)]; exact g5, by rw [e 5 (by omega)]; exact g6, ⟨A + 1, by omega, e6, fun k hk => ?_⟩, k_wfL_cg (e 7 (by omega)) (fun k hk => e k (by omega)) g9, ⟨by rw [e 8 (by omega)]; exact g10, fun k h1 h2 => by rw [e k (by omega)]; exact g11 k h1 h2, by rw [e 44 (by omega)]; exact g12⟩, by rw [e 43 (by omega)]; exact g13, fun k h1 h2 => by rw [e k (by omega)]; exact g14 k h1 h2⟩
  · obtain ⟨a, b1, b2⟩ := g3 p hp
    exact ⟨a, b1, by rw [e _ (by omega)]; exact b2⟩
  · by_cases c : k = A
    · rw [c]
      exact ⟨one, other, h1, h2, ea, eb⟩
    · obtain ⟨p, q, b1, b2, b3, b4⟩ := g8 k (by omega)
      exact ⟨p, q, b1, b2, by rw [e _ (by omega)]; exact b3, by rw [e _ (by omega)]; exact b4⟩
theorem k_ap_a (hA : A < 8) (h6 : K 6 = nI A) (h1 : one < 8) (h2 : other < 8) {p q : Nat} (hp : p < 8) (hq : q < 8) : k_ap (k_apt K A one other) p q = (k_ap K p q || (decide (p = one ∧ q = other) || decide (p = other ∧ q = one))) := by
  obtain ⟨e0, e6, ea, eb⟩ := k_apt_e (K := K) (A := A) (one := one) (other := other)
  have n1 : k_na (k_apt K A one other) = A + 1 := by unfold k_na; rw [e6, nI_clamp (by omega)]
  have n2 : k_na K = A := by unfold k_na; rw [h6, nI_clamp (by omega)]
  unfold k_ap
  rw [n1, n2, List.range_succ, List.any_append, List.any_cons, List.any_nil, Bool.or_false, ea, eb]
  have i1 : decide (nI one = nI p) = decide (p = one) := by
    rw [decide_eq_decide, nI_eq (by omega) (by omega)]
    exact eq_comm
  have i2 : decide (nI other = nI q) = decide (q = other) := by
    rw [decide_eq_decide, nI_eq (by omega) (by omega)]
    exact eq_comm
  have i3 : decide (nI one = nI q) = decide (q = one) := by
    rw [decide_eq_decide, nI_eq (by omega) (by omega)]
    exact eq_comm
  have i4 : decide (nI other = nI p) = decide (p = other) := by
    rw [decide_eq_decide, nI_eq (by omega) (by omega)]
    exact eq_comm
  rw [i1, i2, i3, i4, Bool.decide_and, Bool.decide_and, Bool.and_comm (decide (q = one))]
  congr 1
  rw [Bool.eq_iff_iff, List.any_eq_true, List.any_eq_true]
  constructor
  · rintro ⟨k, k1, k2⟩
    have := List.mem_range.mp k1
    refine ⟨k, k1, ?_⟩
    rw [e0 _ (by omega) (by omega) (by omega), e0 _ (by omega) (by omega) (by omega)] at k2
    exact k2
  · rintro ⟨k, k1, k2⟩
    have := List.mem_range.mp k1
    refine ⟨k, k1, ?_⟩
    rw [e0 _ (by omega) (by omega) (by omega), e0 _ (by omega) (by omega) (by omega)]
    exact k2
theorem c_P_a (h : c_P B n L xs M0 s K M) (hF : k_FR G N K) (hA : A < 8) (h6 : K 6 = nI A) (h1 : one < N) (h2 : other < N) (hne : other ≠ one) {x1 x2 : Nat} (hx1 : x1 < 256) (hx2 : x2 < 256) (e1 : ir_I M 103 one = nI x1) (e2 : ir_I M 103 other = nI x2) (t1 : ∀ q, q < 8 → x1.testBit q = k_ap K one q) (t2 : ∀ q, q < 8 → x2.testBit q = k_ap K other q) : c_P B n L xs M0 s (k_apt K A one other) (ir_sI (ir_sI (ir_sI M 103 one (nI (x1 ||| 2 ^ other))) 103 other (nI (x2 ||| 2 ^ one))) 101 3 (nI (A + 1))) := by
  obtain ⟨dn, dg, dm, dw, -, hb⟩ := k_FR_d hF
  have hN := hF.1.2.2.1
  obtain ⟨e0, e6, -, -⟩ := k_apt_e (K := K) (A := A) (one := one) (other := other)
  obtain ⟨M', eM⟩ : ∃ X, X = ir_sI (ir_sI (ir_sI M 103 one (nI (x1 ||| 2 ^ other))) 103 other (nI (x2 ||| 2 ^ one))) 101 3 (nI (A + 1)) := ⟨_, rfl⟩
  rw [← eM]
  have q1 : q_eq [101, 103] M M' := by rw [eM]; exact ((q_eq.sI (by decide)).tr (q_eq.sI (by decide))).tr (q_eq.sI (by decide))
  have qa : q_eq [101] (ir_sI (ir_sI M 103 one (nI (x1 ||| 2 ^ other))) 103 other (nI (x2 ||| 2 ^ one))) M' := by rw [eM]; exact q_eq.sI (by decide)
  have qb : q_eq [103] M (ir_sI (ir_sI M 103 one (nI (x1 ||| 2 ^ other))) 103 other (nI (x2 ||| 2 ^ one))) := (q_eq.sI (by decide)).tr (q_eq.sI (by decide))
  have m3 : ir_I M' 101 3 = nI (A + 1) := by rw [eM, q_I_s]
  have m1 : ∀ k, k ≠ 3 → ir_I M' 101 k = ir_I M 101 k := fun k hk => by rw [eM, q_I_k hk]; exact q_I_eq qb (by decide) k
  have p1 : ir_I M' 103 one = nI (x1 ||| 2 ^ other) := by rw [q_I_eq qa (by decide), q_I_k (fun z => hne z.symm), q_I_s]
  have p2 : ir_I M' 103 other = nI (x2 ||| 2 ^ one) := by rw [q_I_eq qa (by decide), q_I_s]
  have p3 : ∀ k, k ≠ one → k ≠ other → ir_I M' 103 k = ir_I M 103 k := fun k h1 h2 => by rw [q_I_eq qa (by decide), q_I_k h2, q_I_k h1]
  have ea : ∀ a k, a ≠ 101 → a ≠ 103 → ir_I M' a k = ir_I M a k := fun a k h1 h2 => q_I_eq q1 (fun w => by
    rcases List.mem_cons.mp w with w | w
    · exact h1 w
    · exact h2 (List.mem_singleton.mp w)) k
  have ek : ∀ k, k ≠ 6 ∧ (k < 173 ∨ 189 ≤ k) → k_apt K A one other k = K k := fun k hk => e0 k hk.1 (by omega) (by omega)
  have en : k_n (k_apt K A one other) = N := by unfold k_n; rw [ek 2 (by omega)]; exact dn
  have eg : k_g (k_apt K A one other) = k_g K := by unfold k_g; rw [ek 1 (by omega)]
  have em : k_m (k_apt K A one other) = N := by unfold k_m; rw [ek 9 (by omega)]; exact dm
  have ew : k_w (k_apt K A one other) = k_w K := by unfold k_w; rw [ek 44 (by omega)]
  have hG := hF.1.2.1
  have or256 : ∀ x o, x < 256 → o < 8 → x ||| 2 ^ o < 256 := fun x o hx ho => by
    have : (2 : Nat) ^ o < 2 ^ 8 := Nat.pow_lt_pow_right (by decide) ho
    exact Nat.or_lt_two_pow (n := 8) hx this
  obtain ⟨hT, ⟨z1, z2, z3, z4, z5, z6, z7, z8, z9, z10, z11, z12⟩, h2', h3, y1, y2, y3⟩ := h
  rw [dn] at z8 z9 z10 y1
  refine ⟨c_T_eq hT q1 (by decide) (c_cn_eq q1 (by decide) hT.2.2.1), ⟨?_, ?_, ?_, m3.trans e6.symm, ?_, ?_, ?_, fun p hp => ?_, fun p g hp hg => ?_, fun p q hp hq => ?_, ?_, fun i hi => ?_⟩, fun p hp => ?_, ⟨?_, ?_, ?_, ?_, fun i hi => ?_, fun p hp => ?_, fun p hp => ?_, fun p hp => ?_, fun i hi => ?_⟩, fun p hp hn => ?_, fun k hk => ?_, fun p hp => ?_⟩
  · rw [m1 _ (by decide), ek _ (by omega)]; exact z1
  · rw [m1 _ (by decide), ek _ (by omega)]; exact z2
  · rw [m1 _ (by decide), ek _ (by omega)]; exact z3
  · rw [m1 _ (by decide), ek _ (by omega)]; exact z5
  · rw [m1 _ (by decide), ek _ (by omega)]; exact z6
  · rw [m1 _ (by decide), ek _ (by omega)]; exact z7
  · rw [en] at hp; rw [ea _ _ (by decide) (by decide), ek _ (by omega)]; exact z8 p hp
  · rw [en] at hp; rw [eg] at hg; rw [dg] at z9 hg; rw [ea _ _ (by decide) (by decide), ek _ (by omega)]; exact z9 p g hp hg
  · rw [en] at hp hq; rw [ea _ _ (by decide) (by decide), ek _ (by omega)]; exact z10 p q hp hq
  · rw [ea _ _ (by decide) (by decide), ek _ (by omega)]; exact z11
  · rw [ek 7 (by omega)] at hi
    have e : k_sp (k_apt K A one other) i = k_sp K i := by unfold k_sp; rw [ek _ (by omega)]
    rw [ea _ _ (by decide) (by decide), e]; exact z12 i hi
  · rw [en] at hp
    have apq : ∀ q, q < 8 → k_ap (k_apt K A one other) p q = (k_ap K p q || (decide (p = one ∧ q = other) || decide (p = other ∧ q = one))) := fun q hq => k_ap_a hA h6 (by omega) (by omega) (by omega) hq
    by_cases c1 : p = one
    · refine ⟨x1 ||| 2 ^ other, or256 _ _ hx1 (by omega), by rw [c1]; exact p1, fun q hq => ?_⟩
      rw [apq q hq, Nat.testBit_or, t1 q hq, n_p2b, c1]
      congr 1
      rw [Bool.eq_iff_iff, Bool.or_eq_true, decide_eq_true_eq, decide_eq_true_eq, decide_eq_true_eq]
      constructor
      · intro w; exact Or.inl ⟨rfl, w.symm⟩
      · rintro (w | w)
        · exact w.2.symm
        · exact absurd w.1.symm hne
    · by_cases c2 : p = other
      · refine ⟨x2 ||| 2 ^ one, or256 _ _ hx2 (by omega), by rw [c2]; exact p2, fun q hq => ?_⟩
        rw [apq q hq, Nat.testBit_or, t2 q hq, n_p2b, c2]
        congr 1
        rw [Bool.eq_iff_iff, Bool.or_eq_true, decide_eq_true_eq, decide_eq_true_eq, decide_eq_true_eq]
        constructor
        · intro w; exact Or.inr ⟨rfl, w.symm⟩
        · rintro (w | w)
          · exact absurd w.1 hne
          · exact w.2.symm
      · obtain ⟨x, w1, w2, w3⟩ := h2' p (by rw [dn]; exact hp)
        refine ⟨x, w1, by rw [p3 p c1 c2]; exact w2, fun q hq => ?_⟩
        rw [apq q hq, w3 q hq, decide_eq_false (fun w => c1 w.1), decide_eq_false (fun w => c2 w.1), Bool.or_false, Bool.or_false]
  · rw [ea _ _ (by decide) (by decide), ek _ (by omega)]; exact h3.1
  · rw [ea _ _ (by decide) (by decide), ek _ (by omega)]; exact h3.2.1
  · rw [ea _ _ (by decide) (by decide), ek _ (by omega)]; exact h3.2.2.1
  · rw [ea _ _ (by decide) (by decide), ek _ (by omega)]; exact h3.2.2.2.1
  · rw [em] at hi; rw [ea _ _ (by decide) (by decide), ek _ (by omega)]; exact h3.2.2.2.2.1 i (by rw [dm]; exact hi)
  · rw [en] at hp; rw [ea _ _ (by decide) (by decide), ek _ (by omega)]; exact h3.2.2.2.2.2.1 p (by rw [dn]; exact hp)
  · rw [en] at hp; rw [ea _ _ (by decide) (by decide), ek _ (by omega)]; exact h3.2.2.2.2.2.2.1 p (by rw [dn]; exact hp)
  · rw [en] at hp; rw [ea _ _ (by decide) (by decide), ek _ (by omega)]; exact h3.2.2.2.2.2.2.2.1 p (by rw [dn]; exact hp)
  · rw [ew, dw] at hi; exact absurd hi (Nat.not_lt_zero _)
  · rw [en] at hn; rw [p3 p (by omega) (by omega)]; exact y1 p hp hn
  · rw [ea _ _ (by decide) (by decide), ek _ (by omega)]; exact y2 k hk
  · rw [ea _ _ (by decide) (by decide), ek _ (by omega)]; exact y3 p hp
theorem w_Apart (hF : k_FR G N K) (hs : s ≤ n) (q : k_kd B n s = 259) : w_N B n L xs G s K := by
  obtain ⟨b1, b2, b3, b4, b5, b6, b7, b8⟩ := k_nt_b (B := B) hs
  have s1 := b3 (by omega)
  have hb := (k_FR_d hF).2.2.2.2.2
  have dn := (k_FR_d hF).1
  have hN := hF.1.2.2.1
  have hG := hF.1.2.1
  have K1 := hF.1.2.2.2.1
  have K2 := hF.1.2.2.2.2.1
  obtain ⟨A, A8, K6, -⟩ := hF.2.2.2.2.2.2.1
  obtain ⟨s2, es2⟩ : ∃ x, x = k_nt B n s := ⟨_, rfl⟩
  rw [← es2] at b1 b2 s1
  obtain ⟨a1, a2, a3, a4, a5, a6, a7, a8⟩ := k_nt_b (B := B) b2
  have C2 : ∀ {M0 M : ir_M} {p : Nat}, c_P B n L xs M0 p K M → ir_I M 101 2 = nI N := fun h => h.2.1.2.2.1.trans K2
  have C3 : ∀ {M0 M : ir_M} {p : Nat}, c_P B n L xs M0 p K M → ir_I M 101 3 = nI A := fun h => h.2.1.2.2.2.1.trans K6
  have R2 : ∀ {M0 M : ir_M} {p : Nat}, r_P B n L xs M0 0 p K M → ir_I M 414 2 = nI N ∧ ir_I M 414 1 = nI G ∧ ir_I M 414 6 = nI A := fun h => ⟨(h.2 2).trans K2, (h.2 1).trans K1, (h.2 6).trans K6⟩
  have CR : ∀ {M0 M M' : ir_M} {d : Nat} {r : Int32}, 51 ≤ d → c_P B n L xs M0 s K M → ir_nar 1 r = true → m_X4_readApart d 100 M = ir_oI r M' → m_X4_readLine (d + 1) 100 M = ir_oI r M' := fun {M0 M M' d r} hd hP hr e => by
    obtain ⟨h6, h8, -, h300⟩ := c_hdr hP.1
    rw [E_X4_readLine]
    simp (disch := omega) only [q_ckt, q_lt, q_cI, q_cJ, q_cV, q_cP, q_xI, q_xV, q_xP, q_xJ, g_gk, g_ga, g_gw, g_gp, g_gq, g_P, g_J, q_I_s, q_I_n, q_I_k, nI_add, pk_sub, pk_mul, nI_clamp, n_lt0, n_0lt, n_eq0, n_lt, n_le, n_eq, n_m1, n_m2, n_m9, n_12, n_19, n_10, n_01, n_1n1, n_0n1, n_1n0, n_0n0, n_dI, n_m1lt, q_inb, n_nar, n_nar0, n_nar1, n_bool, Bool.false_eq_true, Bool.true_eq_false, if_true, if_false, ↓reduceIte, Nat.reduceAdd, Nat.reduceMul, Nat.reduceSub, Nat.reduceLT, Nat.reduceLeDiff, Nat.reduceEqDiff, Nat.reduceMod, Nat.reduceDiv, q_D hP.1.1.1, h8, q, e, hr]
  have RR : ∀ {M0 M : ir_M} {d : Nat}, 51 ≤ d → r_P B n L xs M0 0 s K M → ∀ M2 X, m_X12_readApart d 412 M = ir_oV M2 → q_PI M2 → m_X12_readStop d 412 M2 = ir_oV X → m_X12_readLine (d + 1) 412 M = ir_oV X := fun {M0 M d} hd hP M2 X e2 pi hX => by
    have u1 := r_wordN (d := d) hP.1 (j := 1) (a := 1000034) (by decide) rfl (by omega) (by omega)
    have e1 := r_wordY (d := d) hP.1 (j := 3) (a := 1000039) (by decide) rfl q (by omega)
    rw [E_X12_readLine]
    refine (r_no (q_R hP.1.1.1).1 u1).trans ?_
    refine (r_yes (q_R hP.1.1.1).1 e1).trans ?_
    simp (disch := omega) only [q_ckt, q_lt, q_cI, q_cJ, q_cV, q_cP, q_xI, q_xV, q_xP, q_xJ, g_gk, g_ga, g_gw, g_gp, g_gq, g_P, g_J, q_I_s, q_I_n, q_I_k, nI_add, pk_sub, pk_mul, nI_clamp, n_lt0, n_0lt, n_eq0, n_lt, n_le, n_eq, n_m1, n_m2, n_m9, n_12, n_19, n_10, n_01, n_1n1, n_0n1, n_1n0, n_0n0, n_dI, n_m1lt, q_inb, n_nar, n_nar0, n_nar1, n_bool, Bool.false_eq_true, Bool.true_eq_false, if_true, if_false, ↓reduceIte, Nat.reduceAdd, Nat.reduceMul, Nat.reduceSub, Nat.reduceLT, Nat.reduceLeDiff, Nat.reduceEqDiff, Nat.reduceMod, Nat.reduceDiv, q_R hP.1.1.1, e2, q_R pi, hX]
  by_cases hA : A = 8
  · have ef : k_fk (k_kd B n s) 4 = 4 := if_neg (by omega)
    refine ⟨4, s, K, N, by decide, Nat.le_refl _, hs, (fun z => nomatch z), fun M0 M d hd hP => ?_, fun M0 M d hd hP => ?_⟩
    · obtain ⟨e, rfl⟩ : ∃ e, d = e + 1 := ⟨d - 1, by omega⟩
      obtain ⟨M1, e1, t1⟩ := c_ref (d := e) hP.1 (w := 4) (by decide) (by omega)
      rw [ef] at t1
      rw [k_1_n (by decide)]
      refine ⟨M1, CR hd hP (by decide +kernel) ?_, (fun z => nomatch z), fun _ => t1⟩
      rw [E_X4_readApart]
      simp (disch := omega) only [q_ckt, q_lt, q_cI, q_cJ, q_cV, q_cP, q_xI, q_xV, q_xP, q_xJ, g_gk, g_ga, g_gw, g_gp, g_gq, g_P, g_J, q_I_s, q_I_n, q_I_k, nI_add, pk_sub, pk_mul, nI_clamp, n_lt0, n_0lt, n_eq0, n_lt, n_le, n_eq, n_m1, n_m2, n_m9, n_12, n_19, n_10, n_01, n_1n1, n_0n1, n_1n0, n_0n0, n_dI, n_m1lt, q_inb, n_nar, n_nar0, n_nar1, n_bool, Bool.false_eq_true, Bool.true_eq_false, if_true, if_false, ↓reduceIte, Nat.reduceAdd, Nat.reduceMul, Nat.reduceSub, Nat.reduceLT, Nat.reduceLeDiff, Nat.reduceEqDiff, Nat.reduceMod, Nat.reduceDiv, q_D hP.1.1.1, q_N hP.1.1.1, C3 hP, hA, e1, n_nr]
    · obtain ⟨e, rfl⟩ : ∃ e, d = e + 1 := ⟨d - 1, by omega⟩
      obtain ⟨M1, e1, t1⟩ := r_blame (d := e) hP.1 (w := 4) (by decide) hG (R2 hP).2.1 (by omega)
      rw [ef] at t1
      refine ⟨M1, ⟨(fun z => nomatch z), fun _ => t1⟩, fun X hX => RR hd hP M1 X ?_ t1.1.1 hX⟩
      rw [E_X12_readApart]
      simp (disch := omega) only [q_ckt, q_lt, q_cI, q_cJ, q_cV, q_cP, q_xI, q_xV, q_xP, q_xJ, g_gk, g_ga, g_gw, g_gp, g_gq, g_P, g_J, q_I_s, q_I_n, q_I_k, nI_add, pk_sub, pk_mul, nI_clamp, n_lt0, n_0lt, n_eq0, n_lt, n_le, n_eq, n_m1, n_m2, n_m9, n_12, n_19, n_10, n_01, n_1n1, n_0n1, n_1n0, n_0n0, n_dI, n_m1lt, q_inb, n_nar, n_nar0, n_nar1, n_bool, Bool.false_eq_true, Bool.true_eq_false, if_true, if_false, ↓reduceIte, Nat.reduceAdd, Nat.reduceMul, Nat.reduceSub, Nat.reduceLT, Nat.reduceLeDiff, Nat.reduceEqDiff, Nat.reduceMod, Nat.reduceDiv, q_R hP.1.1.1, (R2 hP).2.2, hA, e1]
      rw [L_X12_readApart_17]
      simp (disch := omega) only [q_ckt, q_lt, q_cI, q_cJ, q_cV, q_cP, q_xI, q_xV, q_xP, q_xJ, g_gk, g_ga, g_gw, g_gp, g_gq, g_P, g_J, q_I_s, q_I_n, q_I_k, nI_add, pk_sub, pk_mul, nI_clamp, n_lt0, n_0lt, n_eq0, n_lt, n_le, n_eq, n_m1, n_m2, n_m9, n_12, n_19, n_10, n_01, n_1n1, n_0n1, n_1n0, n_0n0, n_dI, n_m1lt, q_inb, n_nar, n_nar0, n_nar1, n_bool, Bool.false_eq_true, Bool.true_eq_false, if_true, if_false, ↓reduceIte, Nat.reduceAdd, Nat.reduceMul, Nat.reduceSub, Nat.reduceLT, Nat.reduceLeDiff, Nat.reduceEqDiff, Nat.reduceMod, Nat.reduceDiv, q_R t1.1.1, r_F_z t1]
  · have hA : A < 8 := by omega
    have hA2 : ¬ A = 8 := by omega
    have RA : ∀ {M0 M : ir_M} {e : Nat}, r_P B n L xs M0 0 s K M → m_X12_readApart (e + 1) 412 M = v_X12_readApart_17 e 412 M := fun {M0 M e} hP => by
      rw [E_X12_readApart]
      simp (disch := omega) only [q_ckt, q_lt, q_cI, q_cJ, q_cV, q_cP, q_xI, q_xV, q_xP, q_xJ, g_gk, g_ga, g_gw, g_gp, g_gq, g_P, g_J, q_I_s, q_I_n, q_I_k, nI_add, pk_sub, pk_mul, nI_clamp, n_lt0, n_0lt, n_eq0, n_lt, n_le, n_eq, n_m1, n_m2, n_m9, n_12, n_19, n_10, n_01, n_1n1, n_0n1, n_1n0, n_0n0, n_dI, n_m1lt, q_inb, n_nar, n_nar0, n_nar1, n_bool, Bool.false_eq_true, Bool.true_eq_false, if_true, if_false, ↓reduceIte, Nat.reduceAdd, Nat.reduceMul, Nat.reduceSub, Nat.reduceLT, Nat.reduceLeDiff, Nat.reduceEqDiff, Nat.reduceMod, Nat.reduceDiv, q_R hP.1.1.1, (R2 hP).2.2, hA2]
    by_cases f1 : k_nf (k_kd B n s2) (k_vl B n s2) 0 ((N : Int) - 1) = 0
    · obtain ⟨v1, -, v2⟩ := k_nf_0 f1
      have v3 : k_vl B n s2 < N := by omega
      have a3' := a3 (by omega)
      obtain ⟨s3, es3⟩ : ∃ x, x = k_nt B n s2 := ⟨_, rfl⟩
      rw [← es3] at a1 a2 a3'
      obtain ⟨c1, c2, c3, c4, c5, c6, c7, c8⟩ := k_nt_b (B := B) a2
      by_cases f2 : k_of (k_kd B n s3) (k_vl B n s3) N (k_vl B n s2) = 0
      · obtain ⟨w1, w2, w3⟩ := k_of_0 f2
        have c3' := c3 (by omega)
        refine ⟨0, k_nt B n s3, k_apt K A (k_vl B n s2) (k_vl B n s3), N, by decide, by omega, c2, fun _ => ⟨by omega, k_FR_a hF hA K6 v3 w2⟩, fun M0 M d hd hP => ?_, fun M0 M d hd hP => ?_⟩
        · obtain ⟨e, rfl⟩ : ∃ e, d = e + 1 := ⟨d - 1, by omega⟩
          obtain ⟨M1, e1, P1⟩ := c_P_n (d := e) hP (by omega)
          rw [← es2] at P1
          obtain ⟨M2, e2, e2', -⟩ := c_num (d := e) P1.1 (a := 0) (hi := ir_I M1 101 2 - nI 1) (by decide) (by omega)
          rw [k_lim32 (C2 P1) hN] at e2 e2'
          rw [if_pos f1, e2' f1] at e2
          have h10 := P1.1.2.2.2.2.2.2.2.2.2 v1
          obtain ⟨M3, e3, P3⟩ := c_P_n (d := e) P1 (by omega)
          rw [← es3] at P3
          obtain ⟨M4, e4, e4', -⟩ := c_ot (d := e) P3.1 v3 hN (C2 P3) (by omega)
          rw [f2, k_1_0, e4' f2] at e4
          have h10' := P3.1.2.2.2.2.2.2.2.2.2 w1
          obtain ⟨x1, y1, y2, y3⟩ := P3.2.2.1 (k_vl B n s2) (by rw [dn]; exact v3)
          obtain ⟨x2, z1, z2, z3⟩ := P3.2.2.1 (k_vl B n s3) (by rw [dn]; exact w2)
          have y2' : ir_I M3 103 (k_vl B n s2) = nI x1 := y2
          have z2' : ir_I M3 103 (k_vl B n s3) = nI x2 := z2
          have P5 := c_P_a P3 hF hA K6 v3 w2 w3 y1 z1 y2 z2 y3 z3
          obtain ⟨M6, e6, P6⟩ := c_P_n (d := e) P5 (by omega)
          have hc3 := C3 P3
          rw [k_1_0]
          refine ⟨M6, CR hd hP (by decide +kernel) ?_, fun _ => P6, fun z => absurd rfl z⟩
          rw [E_X4_readApart]
          simp (disch := omega) only [q_ckt, q_lt, q_cI, q_cJ, q_cV, q_cP, q_xI, q_xV, q_xP, q_xJ, g_gk, g_ga, g_gw, g_gp, g_gq, g_P, g_J, q_I_s, q_I_n, q_I_k, nI_add, pk_sub, pk_mul, nI_clamp, n_lt0, n_0lt, n_eq0, n_lt, n_le, n_eq, n_m1, n_m2, n_m9, n_12, n_19, n_10, n_01, n_1n1, n_0n1, n_1n0, n_0n0, n_dI, n_m1lt, q_inb, n_nar, n_nar0, n_nar1, n_bool, Bool.false_eq_true, Bool.true_eq_false, if_true, if_false, ↓reduceIte, Nat.reduceAdd, Nat.reduceMul, Nat.reduceSub, Nat.reduceLT, Nat.reduceLeDiff, Nat.reduceEqDiff, Nat.reduceMod, Nat.reduceDiv, q_D hP.1.1.1, q_N hP.1.1.1, C3 hP, hA, e1, q_D P1.1.1.1, q_N P1.1.1.1, e2, h10, e3, q_D P3.1.1.1, q_N P3.1.1.1, e4, h10', y2', z2', n_bit (p := k_vl B n s2) (by omega), n_bit (p := k_vl B n s3) (by omega), n_or, hc3, e6, n_nr]
        · obtain ⟨e, rfl⟩ : ∃ e, d = e + 1 := ⟨d - 1, by omega⟩
          obtain ⟨M1, e1, P1⟩ := r_P_n (d := e) hP (by omega)
          rw [← es2] at P1
          obtain ⟨r2, r1, r6⟩ := R2 P1
          obtain ⟨M2, e2, t2, -⟩ := r_num (d := e) P1.1 (a := 0) (hi := ir_I M1 414 2 - nI 1) (by decide) hG r1 (by omega)
          rw [k_lim32 r2 hN] at e2 t2
          rw [if_pos f1] at e2
          have P2 := r_P_e P1 (t2 f1)
          rw [← es3] at P2
          obtain ⟨r2', r1', r6'⟩ := R2 P2
          obtain ⟨M3, v, e3, t3, -⟩ := r_ot (d := e) P2.1 v3 hN r2' hG r1' (by omega)
          obtain ⟨ev, t3⟩ := t3 f2
          have P3 := r_P_e P2 t3
          rw [ev] at e3
          have r6'' := (R2 P3).2.2
          have P4 : r_P B n L xs M0 0 (k_nt B n s3) (k_apt K A (k_vl B n s2) (k_vl B n s3)) (ir_sI (ir_sI (ir_sI M3 414 (173 + 2 * A) (nI (k_vl B n s2))) 414 (173 + 2 * A + 1) (nI (k_vl B n s3))) 414 6 (nI (A + 1))) := r_P_4 (r_P_4 (r_P_4 P3))
          refine ⟨_, ⟨fun _ => P4, fun z => absurd rfl z⟩, fun X hX => RR hd hP _ X ?_ P4.1.1.1 hX⟩
          rw [RA hP, L_X12_readApart_17]
          simp (disch := omega) only [q_ckt, q_lt, q_cI, q_cJ, q_cV, q_cP, q_xI, q_xV, q_xP, q_xJ, g_gk, g_ga, g_gw, g_gp, g_gq, g_P, g_J, q_I_s, q_I_n, q_I_k, nI_add, pk_sub, pk_mul, nI_clamp, n_lt0, n_0lt, n_eq0, n_lt, n_le, n_eq, n_m1, n_m2, n_m9, n_12, n_19, n_10, n_01, n_1n1, n_0n1, n_1n0, n_0n0, n_dI, n_m1lt, q_inb, n_nar, n_nar0, n_nar1, n_bool, Bool.false_eq_true, Bool.true_eq_false, if_true, if_false, ↓reduceIte, Nat.reduceAdd, Nat.reduceMul, Nat.reduceSub, Nat.reduceLT, Nat.reduceLeDiff, Nat.reduceEqDiff, Nat.reduceMod, Nat.reduceDiv, q_R hP.1.1.1, hP.1.2.2.2.2.1, e1, q_R P1.1.1.1, e2, q_R P2.1.1.1, e3, q_R P3.1.1.1, P3.1.2.2.2.2.1, r6'']
      · refine ⟨k_of (k_kd B n s3) (k_vl B n s3) N (k_vl B n s2), s3, K, N, k_of_b, by omega, a2, fun z => absurd z f2, fun M0 M d hd hP => ?_, fun M0 M d hd hP => ?_⟩
        · obtain ⟨e, rfl⟩ : ∃ e, d = e + 1 := ⟨d - 1, by omega⟩
          obtain ⟨M1, e1, P1⟩ := c_P_n (d := e) hP (by omega)
          rw [← es2] at P1
          obtain ⟨M2, e2, e2', -⟩ := c_num (d := e) P1.1 (a := 0) (hi := ir_I M1 101 2 - nI 1) (by decide) (by omega)
          rw [k_lim32 (C2 P1) hN] at e2 e2'
          rw [if_pos f1, e2' f1] at e2
          have h10 := P1.1.2.2.2.2.2.2.2.2.2 v1
          obtain ⟨M3, e3, P3⟩ := c_P_n (d := e) P1 (by omega)
          rw [← es3] at P3
          obtain ⟨M4, e4, -, t4⟩ := c_ot (d := e) P3.1 v3 hN (C2 P3) (by omega)
          rw [k_1_n f2] at e4
          rw [k_1_n f2]
          refine ⟨M4, CR hd hP (by decide +kernel) ?_, fun z => absurd z f2, fun _ => t4 f2⟩
          rw [E_X4_readApart]
          simp (disch := omega) only [q_ckt, q_lt, q_cI, q_cJ, q_cV, q_cP, q_xI, q_xV, q_xP, q_xJ, g_gk, g_ga, g_gw, g_gp, g_gq, g_P, g_J, q_I_s, q_I_n, q_I_k, nI_add, pk_sub, pk_mul, nI_clamp, n_lt0, n_0lt, n_eq0, n_lt, n_le, n_eq, n_m1, n_m2, n_m9, n_12, n_19, n_10, n_01, n_1n1, n_0n1, n_1n0, n_0n0, n_dI, n_m1lt, q_inb, n_nar, n_nar0, n_nar1, n_bool, Bool.false_eq_true, Bool.true_eq_false, if_true, if_false, ↓reduceIte, Nat.reduceAdd, Nat.reduceMul, Nat.reduceSub, Nat.reduceLT, Nat.reduceLeDiff, Nat.reduceEqDiff, Nat.reduceMod, Nat.reduceDiv, q_D hP.1.1.1, q_N hP.1.1.1, C3 hP, hA, e1, q_D P1.1.1.1, q_N P1.1.1.1, e2, h10, e3, q_D P3.1.1.1, e4, n_nr]
        · obtain ⟨e, rfl⟩ : ∃ e, d = e + 1 := ⟨d - 1, by omega⟩
          obtain ⟨M1, e1, P1⟩ := r_P_n (d := e) hP (by omega)
          rw [← es2] at P1
          obtain ⟨r2, r1, r6⟩ := R2 P1
          obtain ⟨M2, e2, t2, -⟩ := r_num (d := e) P1.1 (a := 0) (hi := ir_I M1 414 2 - nI 1) (by decide) hG r1 (by omega)
          rw [k_lim32 r2 hN] at e2 t2
          rw [if_pos f1] at e2
          have P2 := r_P_e P1 (t2 f1)
          rw [← es3] at P2
          obtain ⟨r2', r1', r6'⟩ := R2 P2
          obtain ⟨M3, v, e3, -, t3⟩ := r_ot (d := e) P2.1 v3 hN r2' hG r1' (by omega)
          obtain ⟨-, F3⟩ := t3 f2
          refine ⟨M3, ⟨fun z => absurd z f2, fun _ => F3⟩, fun X hX => RR hd hP M3 X ?_ F3.1.1 hX⟩
          rw [RA hP, L_X12_readApart_17]
          simp (disch := omega) only [q_ckt, q_lt, q_cI, q_cJ, q_cV, q_cP, q_xI, q_xV, q_xP, q_xJ, g_gk, g_ga, g_gw, g_gp, g_gq, g_P, g_J, q_I_s, q_I_n, q_I_k, nI_add, pk_sub, pk_mul, nI_clamp, n_lt0, n_0lt, n_eq0, n_lt, n_le, n_eq, n_m1, n_m2, n_m9, n_12, n_19, n_10, n_01, n_1n1, n_0n1, n_1n0, n_0n0, n_dI, n_m1lt, q_inb, n_nar, n_nar0, n_nar1, n_bool, Bool.false_eq_true, Bool.true_eq_false, if_true, if_false, ↓reduceIte, Nat.reduceAdd, Nat.reduceMul, Nat.reduceSub, Nat.reduceLT, Nat.reduceLeDiff, Nat.reduceEqDiff, Nat.reduceMod, Nat.reduceDiv, q_R hP.1.1.1, hP.1.2.2.2.2.1, e1, q_R P1.1.1.1, e2, q_R P2.1.1.1, e3, q_R F3.1.1, r_F_z F3]
    · refine ⟨k_nf (k_kd B n s2) (k_vl B n s2) 0 ((N : Int) - 1), s2, K, N, k_nf_b, by omega, b2, fun z => absurd z f1, fun M0 M d hd hP => ?_, fun M0 M d hd hP => ?_⟩
      · obtain ⟨e, rfl⟩ : ∃ e, d = e + 1 := ⟨d - 1, by omega⟩
        obtain ⟨M1, e1, P1⟩ := c_P_n (d := e) hP (by omega)
        rw [← es2] at P1
        obtain ⟨M2, e2, -, t2⟩ := c_num (d := e) P1.1 (a := 0) (hi := ir_I M1 101 2 - nI 1) (by decide) (by omega)
        rw [k_lim32 (C2 P1) hN] at e2 t2
        rw [if_neg f1] at e2
        rw [k_1_n f1]
        refine ⟨M2, CR hd hP (by decide +kernel) ?_, fun z => absurd z f1, fun _ => t2 f1⟩
        rw [E_X4_readApart]
        simp (disch := omega) only [q_ckt, q_lt, q_cI, q_cJ, q_cV, q_cP, q_xI, q_xV, q_xP, q_xJ, g_gk, g_ga, g_gw, g_gp, g_gq, g_P, g_J, q_I_s, q_I_n, q_I_k, nI_add, pk_sub, pk_mul, nI_clamp, n_lt0, n_0lt, n_eq0, n_lt, n_le, n_eq, n_m1, n_m2, n_m9, n_12, n_19, n_10, n_01, n_1n1, n_0n1, n_1n0, n_0n0, n_dI, n_m1lt, q_inb, n_nar, n_nar0, n_nar1, n_bool, Bool.false_eq_true, Bool.true_eq_false, if_true, if_false, ↓reduceIte, Nat.reduceAdd, Nat.reduceMul, Nat.reduceSub, Nat.reduceLT, Nat.reduceLeDiff, Nat.reduceEqDiff, Nat.reduceMod, Nat.reduceDiv, q_D hP.1.1.1, q_N hP.1.1.1, C3 hP, hA, e1, q_D P1.1.1.1, q_N P1.1.1.1, e2, n_nr]
      · obtain ⟨e, rfl⟩ : ∃ e, d = e + 1 := ⟨d - 1, by omega⟩
        obtain ⟨M1, e1, P1⟩ := r_P_n (d := e) hP (by omega)
        rw [← es2] at P1
        obtain ⟨r2, r1, r6⟩ := R2 P1
        obtain ⟨M2, e2, -, t2⟩ := r_num (d := e) P1.1 (a := 0) (hi := ir_I M1 414 2 - nI 1) (by decide) hG r1 (by omega)
        rw [k_lim32 r2 hN] at e2 t2
        rw [if_neg f1] at e2
        have F2 := t2 f1
        refine ⟨M2, ⟨fun z => absurd z f1, fun _ => F2⟩, fun X hX => RR hd hP M2 X ?_ F2.1.1 hX⟩
        rw [RA hP, L_X12_readApart_17]
        simp (disch := omega) only [q_ckt, q_lt, q_cI, q_cJ, q_cV, q_cP, q_xI, q_xV, q_xP, q_xJ, g_gk, g_ga, g_gw, g_gp, g_gq, g_P, g_J, q_I_s, q_I_n, q_I_k, nI_add, pk_sub, pk_mul, nI_clamp, n_lt0, n_0lt, n_eq0, n_lt, n_le, n_eq, n_m1, n_m2, n_m9, n_12, n_19, n_10, n_01, n_1n1, n_0n1, n_1n0, n_0n0, n_dI, n_m1lt, q_inb, n_nar, n_nar0, n_nar1, n_bool, Bool.false_eq_true, Bool.true_eq_false, if_true, if_false, ↓reduceIte, Nat.reduceAdd, Nat.reduceMul, Nat.reduceSub, Nat.reduceLT, Nat.reduceLeDiff, Nat.reduceEqDiff, Nat.reduceMod, Nat.reduceDiv, q_R hP.1.1.1, hP.1.2.2.2.2.1, e1, q_R P1.1.1.1, e2, q_R F2.1.1, r_otF F2 (v := nI 0) (show 3 ≤ e by omega), r_F_z F2]
end LP
