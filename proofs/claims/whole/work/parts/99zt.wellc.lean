/-! THE WELL: what is read so far, and the short lines -/
/-- G goods, N people -/
def k_FR (G N : Nat) (K : Nat → Int32) : Prop := (1 ≤ G ∧ G ≤ 6 ∧ N ≤ 8 ∧ K 1 = nI G ∧ K 2 = nI N ∧ K 9 = nI N) ∧ (∀ i, i < N → K (10 + i) = nI i) ∧ (∀ p, p < N → ∃ a : Nat, a < G ∧ K (18 + p) = nI a) ∧ (∃ y : Nat, 1 ≤ y ∧ y ≤ 3 ∧ K 3 = nI y) ∧ (∃ r : Nat, r ≤ 999 ∧ K 4 = nI r) ∧ (K 5 = 0 ∨ K 5 = 1) ∧ (∃ A : Nat, A ≤ 8 ∧ K 6 = nI A ∧ ∀ k, k < A → ∃ p q : Nat, p < N ∧ q < N ∧ K (173 + 2 * k) = nI p ∧ K (173 + 2 * k + 1) = nI q) ∧ k_wfL K ∧ (K 8 = 0 ∧ (∀ k, 34 ≤ k → k ≤ 42 → K k = 0) ∧ K 44 = 0) ∧ (K 43 = 0 ∨ K 43 = 1) ∧ (∀ k, 61 ≤ k → k < 109 → -99 ≤ (K k).toInt ∧ (K k).toInt ≤ 99)
section FR
variable {G N : Nat} {K K' : Nat → Int32}
theorem k_FR_d (h : k_FR G N K) : k_n K = N ∧ k_g K = G ∧ k_m K = N ∧ k_w K = 0 ∧ k_na K ≤ 8 ∧ k_bsz K := by
  obtain ⟨⟨a1, a2, a3, a4, a5, a6⟩, h2, h3, h4, h5, h6, ⟨A, A8, h7, h8⟩, h9, ⟨h10, h11, h12⟩, h13, h14⟩ := h
  have e1 : k_n K = N := by unfold k_n; rw [a5, nI_clamp (by omega)]
  have e2 : k_g K = G := by unfold k_g; rw [a4, nI_clamp (by omega)]
  have e3 : k_m K = N := by unfold k_m; rw [a6, nI_clamp (by omega)]
  have e4 : k_w K = 0 := by unfold k_w; rw [h12]; rfl
  have e5 : k_na K ≤ 8 := by unfold k_na; rw [h7, nI_clamp (by omega)]; exact A8
  exact ⟨e1, e2, e3, e4, e5, by rw [e1]; exact a3, by rw [e2]; exact a2, by rw [e3]; exact a3, by rw [e4]; exact Nat.zero_le _, e5, G, a2, a4⟩
theorem k_FR_wf (h : k_FR G N K) (h15 : ∀ k, 1640 ≤ k → K k = 0) : k_wf K := by
  obtain ⟨e1, e2, e3, e4, e5, -⟩ := k_FR_d h
  obtain ⟨⟨a1, a2, a3, a4, a5, a6⟩, h2, h3, ⟨y, y1, y2, y3⟩, ⟨r, r1, r2⟩, h6, ⟨A, A8, h7, h8⟩, h9, ⟨h10, h11, h12⟩, h13, h14⟩ := h
  have ey : k_y K = y := by unfold k_y; rw [y3, nI_clamp (by omega)]
  have ea : k_na K = A := by unfold k_na; rw [h7, nI_clamp (by omega)]
  have ed : k_nd K = 0 := by unfold k_nd; rw [h10]; rfl
  have eq : ∀ i, i < N → k_q K i = i := fun i hi => by unfold k_q; rw [h2 i hi, nI_clamp (by omega)]
  refine ⟨⟨⟨by rw [e2]; exact a4, by rw [e2]; exact a2, by rw [e1]; exact a5, by rw [e1]; exact a3, by rw [ey]; exact y3, by rw [ey]; exact y1, by rw [ey]; exact y2, h6, h9⟩, by rw [e3]; exact a6, by rw [e3, e1]; exact Nat.le_refl _, fun i hi => ?_, fun i hi => ?_, fun i j hi hj hq => ?_, fun p hp => ?_, fun p hp => ?_, h13, by rw [e4]; exact h12, by rw [e4]; exact Nat.zero_le _, fun i hi => ?_⟩, ⟨by rw [ed]; exact h10, by rw [ed]; exact Nat.zero_le _, fun i hi => ?_⟩, ⟨by rw [ea]; exact h7, by rw [ea]; exact A8, fun k hk => ?_⟩, r, r1, r2, h14, h15⟩
  · rw [e3] at hi
    rw [eq i hi]; exact h2 i hi
  · rw [e3] at hi
    rw [eq i hi, e1]; exact hi
  · rw [e3] at hi hj
    rw [eq i hi, eq j hj] at hq
    exact hq
  · rw [e1] at hp
    obtain ⟨a, b1, b2⟩ := h3 p hp
    unfold k_a
    rw [b2, nI_clamp (by omega)]
  · rw [e1] at hp
    obtain ⟨a, b1, b2⟩ := h3 p hp
    unfold k_a
    rw [b2, nI_clamp (by omega), e2]
    exact b1
  · rw [e4] at hi; exact absurd hi (Nat.not_lt_zero _)
  · rw [ed] at hi; exact absurd hi (Nat.not_lt_zero _)
  · rw [ea] at hk
    rw [e1]
    exact h8 k hk
/-- a scalar or a liking changed -/
theorem k_FR_x (h : k_FR G N K) (hk : ∀ k, k ≠ 0 → k ≠ 3 → k ≠ 4 → k ≠ 5 → k ≠ 43 → ¬ (109 ≤ k ∧ k < 173) → K' k = K k) (h3 : ∃ y : Nat, 1 ≤ y ∧ y ≤ 3 ∧ K' 3 = nI y) (h4 : ∃ r : Nat, r ≤ 999 ∧ K' 4 = nI r) (h5 : K' 5 = 0 ∨ K' 5 = 1) (h43 : K' 43 = 0 ∨ K' 43 = 1) : k_FR G N K' := by
  obtain ⟨⟨a1, a2, a3, a4, a5, a6⟩, g2, g3, -, -, -, ⟨A, A8, g7, g8⟩, g9, ⟨g10, g11, g12⟩, -, g14⟩ := h
  have e : ∀ k, k ≠ 0 ∧ k ≠ 3 ∧ k ≠ 4 ∧ k ≠ 5 ∧ k ≠ 43 ∧ ¬ (109 ≤ k ∧ k < 173) → K' k = K k := fun k w => hk k w.1 w.2.1 w.2.2.1 w.2.2.2.1 w.2.2.2.2.1 w.2.2.2.2.2
  refine ⟨⟨a1, a2, a3, by rw [e 1 (by omega)]; exact a4, by rw [e 2 (by omega)]; exact a5, by rw [e 9 (by omega)]; exact a6⟩, fun i hi => by rw [e _ (by omega)]; exact g2 i hi, fun p hp => ?_, h3, h4, h5, ⟨A, A8, by rw [e 6 (by omega)]; exact g7, fun k hk => ?_⟩, k_wfL_cg (e 7 (by omega)) (fun k hk => e k (by omega)) g9, ⟨by rw [e 8 (by omega)]; exact g10, fun k h1 h2 => by rw [e k (by omega)]; exact g11 k h1 h2, by rw [e 44 (by omega)]; exact g12⟩, h43, fun k h1 h2 => by rw [e k (by omega)]; exact g14 k h1 h2⟩
  · obtain ⟨a, b1, b2⟩ := g3 p hp
    exact ⟨a, b1, by rw [e _ (by omega)]; exact b2⟩
  · obtain ⟨p, q, b1, b2, b3, b4⟩ := g8 k hk
    exact ⟨p, q, b1, b2, by rw [e _ (by omega)]; exact b3, by rw [e _ (by omega)]; exact b4⟩
theorem k_FR_1 (h : k_FR G N K) {c : Nat} {v : Int32} (hc : (c = 0) ∨ (c = 3 ∧ ∃ y : Nat, 1 ≤ y ∧ y ≤ 3 ∧ v = nI y) ∨ (c = 4 ∧ ∃ r : Nat, r ≤ 999 ∧ v = nI r) ∨ (c = 5 ∧ v = nI 1) ∨ (c = 43 ∧ v = nI 1) ∨ (109 ≤ c ∧ c < 173)) : k_FR G N (k_put1 K c v) := by
  have y := h.2.2.2.1
  have r := h.2.2.2.2.1
  have n5 := h.2.2.2.2.2.1
  have n43 := h.2.2.2.2.2.2.2.2.2.1
  have e : ∀ k, k ≠ c → k_put1 K c v k = K k := fun k hk => if_neg hk
  have es : k_put1 K c v c = v := if_pos rfl
  refine k_FR_x h (fun k h1 h2 h3 h4 h5 h6 => e k (by omega)) ?_ ?_ ?_ ?_
  · by_cases q : c = 3
    · rw [q] at es ⊢
      rcases hc with z | z | z | z | z | z
      · omega
      · rw [es]; exact z.2
      · omega
      · omega
      · omega
      · omega
    · rw [e 3 (fun z => q z.symm)]; exact y
  · by_cases q : c = 4
    · rw [q] at es ⊢
      rcases hc with z | z | z | z | z | z
      · omega
      · omega
      · rw [es]; exact z.2
      · omega
      · omega
      · omega
    · rw [e 4 (fun z => q z.symm)]; exact r
  · by_cases q : c = 5
    · rw [q] at es ⊢
      rcases hc with z | z | z | z | z | z
      · omega
      · omega
      · omega
      · rw [es, z.2]; exact Or.inr rfl
      · omega
      · omega
    · rw [e 5 (fun z => q z.symm)]; exact n5
  · by_cases q : c = 43
    · rw [q] at es ⊢
      rcases hc with z | z | z | z | z | z
      · omega
      · omega
      · omega
      · omega
      · rw [es, z.2]; exact Or.inr rfl
      · omega
    · rw [e 43 (fun z => q z.symm)]; exact n43
end FR
/-- a line, but for its stop -/
def w_N (B : Nat → Nat) (n L : Nat) (xs : Nat → Int32) (G s : Nat) (K : Nat → Int32) : Prop := ∃ (f p : Nat) (K' : Nat → Int32) (N' : Nat), f ≤ 4 ∧ s ≤ p ∧ p ≤ n ∧ (f = 0 → s < p ∧ k_FR G N' K') ∧ (∀ M0 M d, 51 ≤ d → c_P B n L xs M0 s K M → ∃ M', m_X4_readLine (d + 1) 100 M = ir_oI (k_1 f) M' ∧ c_Q B n L xs M0 f p K' M') ∧ (∀ M0 M d, 51 ≤ d → r_P B n L xs M0 0 s K M → ∃ M', r_Q B n L xs M0 0 f p K' M' ∧ ∀ X, m_X12_readStop d 412 M' = ir_oV X → m_X12_readLine (d + 1) 412 M = ir_oV X)
section SL
variable {B : Nat → Nat} {n L : Nat} {xs : Nat → Int32} {M0 M : ir_M} {d dp s f p G N : Nat} {K : Nat → Int32}
theorem r_wordN (h : r_T B n L xs M0 dp s M) {j a : Nat} (hj : j < 22) (ha : a = 1000000 + k_rs j) (hk : k_kd B n s ≠ 256 + j) (hd : 6 ≤ d) : m_X12_isWord d 412 a M = ir_oI (nI 0) M := by
  have w := r_word (d := d) h hj hd
  rw [if_neg hk] at w
  rw [ha]
  exact w
theorem r_wordY (h : r_T B n L xs M0 dp s M) {j a : Nat} (hj : j < 22) (ha : a = 1000000 + k_rs j) (hk : k_kd B n s = 256 + j) (hd : 6 ≤ d) : m_X12_isWord d 412 a M = ir_oI (nI 1) M := by
  have w := r_word (d := d) h hj hd
  rw [if_pos hk] at w
  rw [ha]
  exact w
theorem r_P_e {M M' : ir_M} {K : Nat → Int32} {p : Nat} (h : r_P B n L xs M0 dp s K M) (t : r_T B n L xs M0 dp p M' ∧ q_eq [412] M M') : r_P B n L xs M0 dp p K M' := ⟨t.1, fun k => (q_I_eq t.2 (by decide) k).trans (h.2 k)⟩
theorem c_P_e {M M' : ir_M} {K : Nat → Int32} {p : Nat} (h : c_P B n L xs M0 s K M) (t : c_T B n L xs M0 p M' ∧ q_eq [100] M M') : c_P B n L xs M0 p K M' := ⟨t.1, c_K_eq t.2 (by decide) h.2⟩
theorem r_no {g : Bool} {c : ir_R} {M : ir_M} {X Y : Int32 → ir_M → ir_R} (hg : g = true) (hc : c = ir_oI (nI 0) M) : ir_ck g (ir_cI c (fun r M1 => if r = 0 then X r M1 else Y r M1)) = X (nI 0) M := by
  rw [hg, hc]
  simp (disch := omega) only [q_ckt, q_lt, q_cI, q_cJ, q_cV, q_cP, q_xI, q_xV, q_xP, q_xJ, g_gk, g_ga, g_gw, g_gp, g_gq, g_P, g_J, q_I_s, q_I_n, q_I_k, nI_add, pk_sub, pk_mul, nI_clamp, n_lt0, n_0lt, n_eq0, n_lt, n_le, n_eq, n_m1, n_m2, n_m9, n_12, n_19, n_10, n_01, n_1n1, n_0n1, n_1n0, n_0n0, n_dI, n_m1lt, q_inb, n_nar, n_nar0, n_nar1, n_bool, Bool.false_eq_true, Bool.true_eq_false, if_true, if_false, ↓reduceIte, Nat.reduceAdd, Nat.reduceMul, Nat.reduceSub, Nat.reduceLT, Nat.reduceLeDiff, Nat.reduceEqDiff, Nat.reduceMod, Nat.reduceDiv]
theorem r_yes {g : Bool} {c : ir_R} {M : ir_M} {X Y : Int32 → ir_M → ir_R} (hg : g = true) (hc : c = ir_oI (nI 1) M) : ir_ck g (ir_cI c (fun r M1 => if r = 0 then X r M1 else Y r M1)) = Y (nI 1) M := by
  rw [hg, hc]
  simp (disch := omega) only [q_ckt, q_lt, q_cI, q_cJ, q_cV, q_cP, q_xI, q_xV, q_xP, q_xJ, g_gk, g_ga, g_gw, g_gp, g_gq, g_P, g_J, q_I_s, q_I_n, q_I_k, nI_add, pk_sub, pk_mul, nI_clamp, n_lt0, n_0lt, n_eq0, n_lt, n_le, n_eq, n_m1, n_m2, n_m9, n_12, n_19, n_10, n_01, n_1n1, n_0n1, n_1n0, n_0n0, n_dI, n_m1lt, q_inb, n_nar, n_nar0, n_nar1, n_bool, Bool.false_eq_true, Bool.true_eq_false, if_true, if_false, ↓reduceIte, Nat.reduceAdd, Nat.reduceMul, Nat.reduceSub, Nat.reduceLT, Nat.reduceLeDiff, Nat.reduceEqDiff, Nat.reduceMod, Nat.reduceDiv]
theorem n_isb : ir_isB (nI 1) = true ∧ ir_isB (nI 0) = true ∧ ∀ b : Bool, (b && true) = b := ⟨by decide +kernel, by decide +kernel, fun b => Bool.and_true b⟩
theorem w_Middle (hF : k_FR G N K) (hs : s ≤ n) (q : k_kd B n s = 262) : w_N B n L xs G s K := by
  obtain ⟨b1, b2, b3, b4, b5, b6, b7, b8⟩ := k_nt_b (B := B) hs
  have s1 := b3 (by omega)
  have hb := (k_FR_d hF).2.2.2.2.2
  refine ⟨0, k_nt B n s, k_put1 K 3 (nI 3), N, by decide, b1, b2, fun _ => ⟨s1, k_FR_1 hF (by exact Or.inr (Or.inl ⟨rfl, 3, by decide, by decide, rfl⟩))⟩, fun M0 M d hd hP => ?_, fun M0 M d hd hP => ?_⟩
  · obtain ⟨h6, h8, -, h300⟩ := c_hdr hP.1
    have P1 := c_P_1 (k := 4) (c := 3) (v := nI 3) hP hb (by unfold k_prc; omega)
    obtain ⟨M2, e2, P2⟩ := c_P_n (d := d) P1 (by omega)
    refine ⟨M2, ?_, fun _ => P2, fun z => absurd rfl z⟩
    rw [E_X4_readLine, k_1_0]
    simp (disch := omega) only [q_ckt, q_lt, q_cI, q_cJ, q_cV, q_cP, q_xI, q_xV, q_xP, q_xJ, g_gk, g_ga, g_gw, g_gp, g_gq, g_P, g_J, q_I_s, q_I_n, q_I_k, nI_add, pk_sub, pk_mul, nI_clamp, n_lt0, n_0lt, n_eq0, n_lt, n_le, n_eq, n_m1, n_m2, n_m9, n_12, n_19, n_10, n_01, n_1n1, n_0n1, n_1n0, n_0n0, n_dI, n_m1lt, q_inb, n_nar, n_nar0, n_nar1, n_bool, Bool.false_eq_true, Bool.true_eq_false, if_true, if_false, ↓reduceIte, Nat.reduceAdd, Nat.reduceMul, Nat.reduceSub, Nat.reduceLT, Nat.reduceLeDiff, Nat.reduceEqDiff, Nat.reduceMod, Nat.reduceDiv, q_D hP.1.1.1, q_N hP.1.1.1, h8, q, e2, n_nr, n_isb]
  · skip
    have u1 := r_wordN (d := d) hP.1 (j := 1) (a := 1000034) (by decide) rfl (by omega) (by omega)
    have u3 := r_wordN (d := d) hP.1 (j := 3) (a := 1000039) (by decide) rfl (by omega) (by omega)
    have u4 := r_tookN (d := d) hP.1 (j := 4) (a := 1000040) (by decide) rfl (by omega) (by omega)
    have u5 := r_tookN (d := d) hP.1 (j := 5) (a := 1000041) (by decide) rfl (by omega) (by omega)
    obtain ⟨M1, e1, t1⟩ := r_tookY (d := d) hP.1 (j := 6) (a := 1000042) (by decide) rfl q (by omega)
    have P1 := r_P_4 (k := 3) (v := nI 3) (r_P_e hP t1)
    refine ⟨_, ⟨fun _ => P1, fun z => absurd rfl z⟩, fun X hX => ?_⟩
    rw [E_X12_readLine]
    refine (r_no (q_R hP.1.1.1).1 u1).trans ?_
    refine (r_no (q_R hP.1.1.1).1 u3).trans ?_
    refine (r_no (q_R hP.1.1.1).1 u4).trans ?_
    refine (r_no (q_R hP.1.1.1).1 u5).trans ?_
    refine (r_yes (q_R hP.1.1.1).1 e1).trans ?_
    simp (disch := omega) only [q_ckt, q_lt, q_cI, q_cJ, q_cV, q_cP, q_xI, q_xV, q_xP, q_xJ, g_gk, g_ga, g_gw, g_gp, g_gq, g_P, g_J, q_I_s, q_I_n, q_I_k, nI_add, pk_sub, pk_mul, nI_clamp, n_lt0, n_0lt, n_eq0, n_lt, n_le, n_eq, n_m1, n_m2, n_m9, n_12, n_19, n_10, n_01, n_1n1, n_0n1, n_1n0, n_0n0, n_dI, n_m1lt, q_inb, n_nar, n_nar0, n_nar1, n_bool, Bool.false_eq_true, Bool.true_eq_false, if_true, if_false, ↓reduceIte, Nat.reduceAdd, Nat.reduceMul, Nat.reduceSub, Nat.reduceLT, Nat.reduceLeDiff, Nat.reduceEqDiff, Nat.reduceMod, Nat.reduceDiv, q_R t1.1.1.1, hX]
theorem w_Ring (hF : k_FR G N K) (hs : s ≤ n) (q : k_kd B n s = 263) : w_N B n L xs G s K := by
  obtain ⟨b1, b2, b3, b4, b5, b6, b7, b8⟩ := k_nt_b (B := B) hs
  have s1 := b3 (by omega)
  have hb := (k_FR_d hF).2.2.2.2.2
  refine ⟨0, k_nt B n s, k_put1 K 43 (nI 1), N, by decide, b1, b2, fun _ => ⟨s1, k_FR_1 hF (by exact Or.inr (Or.inr (Or.inr (Or.inr (Or.inl ⟨rfl, rfl⟩)))))⟩, fun M0 M d hd hP => ?_, fun M0 M d hd hP => ?_⟩
  · obtain ⟨h6, h8, -, h300⟩ := c_hdr hP.1
    have P1 := c_P_r (v := nI 1) hP hb
    obtain ⟨M2, e2, P2⟩ := c_P_n (d := d) P1 (by omega)
    refine ⟨M2, ?_, fun _ => P2, fun z => absurd rfl z⟩
    rw [E_X4_readLine, k_1_0]
    simp (disch := omega) only [q_ckt, q_lt, q_cI, q_cJ, q_cV, q_cP, q_xI, q_xV, q_xP, q_xJ, g_gk, g_ga, g_gw, g_gp, g_gq, g_P, g_J, q_I_s, q_I_n, q_I_k, nI_add, pk_sub, pk_mul, nI_clamp, n_lt0, n_0lt, n_eq0, n_lt, n_le, n_eq, n_m1, n_m2, n_m9, n_12, n_19, n_10, n_01, n_1n1, n_0n1, n_1n0, n_0n0, n_dI, n_m1lt, q_inb, n_nar, n_nar0, n_nar1, n_bool, Bool.false_eq_true, Bool.true_eq_false, if_true, if_false, ↓reduceIte, Nat.reduceAdd, Nat.reduceMul, Nat.reduceSub, Nat.reduceLT, Nat.reduceLeDiff, Nat.reduceEqDiff, Nat.reduceMod, Nat.reduceDiv, q_D hP.1.1.1, q_N hP.1.1.1, h8, q, e2, n_nr, n_isb]
  · skip
    have u1 := r_wordN (d := d) hP.1 (j := 1) (a := 1000034) (by decide) rfl (by omega) (by omega)
    have u3 := r_wordN (d := d) hP.1 (j := 3) (a := 1000039) (by decide) rfl (by omega) (by omega)
    have u4 := r_tookN (d := d) hP.1 (j := 4) (a := 1000040) (by decide) rfl (by omega) (by omega)
    have u5 := r_tookN (d := d) hP.1 (j := 5) (a := 1000041) (by decide) rfl (by omega) (by omega)
    have u6 := r_tookN (d := d) hP.1 (j := 6) (a := 1000042) (by decide) rfl (by omega) (by omega)
    obtain ⟨M1, e1, t1⟩ := r_tookY (d := d) hP.1 (j := 7) (a := 1000043) (by decide) rfl q (by omega)
    have P1 := r_P_4 (k := 43) (v := nI 1) (r_P_e hP t1)
    refine ⟨_, ⟨fun _ => P1, fun z => absurd rfl z⟩, fun X hX => ?_⟩
    rw [E_X12_readLine]
    refine (r_no (q_R hP.1.1.1).1 u1).trans ?_
    refine (r_no (q_R hP.1.1.1).1 u3).trans ?_
    refine (r_no (q_R hP.1.1.1).1 u4).trans ?_
    refine (r_no (q_R hP.1.1.1).1 u5).trans ?_
    refine (r_no (q_R hP.1.1.1).1 u6).trans ?_
    refine (r_yes (q_R hP.1.1.1).1 e1).trans ?_
    simp (disch := omega) only [q_ckt, q_lt, q_cI, q_cJ, q_cV, q_cP, q_xI, q_xV, q_xP, q_xJ, g_gk, g_ga, g_gw, g_gp, g_gq, g_P, g_J, q_I_s, q_I_n, q_I_k, nI_add, pk_sub, pk_mul, nI_clamp, n_lt0, n_0lt, n_eq0, n_lt, n_le, n_eq, n_m1, n_m2, n_m9, n_12, n_19, n_10, n_01, n_1n1, n_0n1, n_1n0, n_0n0, n_dI, n_m1lt, q_inb, n_nar, n_nar0, n_nar1, n_bool, Bool.false_eq_true, Bool.true_eq_false, if_true, if_false, ↓reduceIte, Nat.reduceAdd, Nat.reduceMul, Nat.reduceSub, Nat.reduceLT, Nat.reduceLeDiff, Nat.reduceEqDiff, Nat.reduceMod, Nat.reduceDiv, q_R t1.1.1.1, hX]
theorem w_Night (hF : k_FR G N K) (hs : s ≤ n) (q : k_kd B n s = 264) : w_N B n L xs G s K := by
  obtain ⟨b1, b2, b3, b4, b5, b6, b7, b8⟩ := k_nt_b (B := B) hs
  have s1 := b3 (by omega)
  have hb := (k_FR_d hF).2.2.2.2.2
  refine ⟨0, k_nt B n s, k_put1 K 5 (nI 1), N, by decide, b1, b2, fun _ => ⟨s1, k_FR_1 hF (by exact Or.inr (Or.inr (Or.inr (Or.inl ⟨rfl, rfl⟩))))⟩, fun M0 M d hd hP => ?_, fun M0 M d hd hP => ?_⟩
  · obtain ⟨h6, h8, -, h300⟩ := c_hdr hP.1
    have P1 := c_P_1 (k := 6) (c := 5) (v := nI 1) hP hb (by unfold k_prc; omega)
    obtain ⟨M2, e2, P2⟩ := c_P_n (d := d) P1 (by omega)
    refine ⟨M2, ?_, fun _ => P2, fun z => absurd rfl z⟩
    rw [E_X4_readLine, k_1_0]
    simp (disch := omega) only [q_ckt, q_lt, q_cI, q_cJ, q_cV, q_cP, q_xI, q_xV, q_xP, q_xJ, g_gk, g_ga, g_gw, g_gp, g_gq, g_P, g_J, q_I_s, q_I_n, q_I_k, nI_add, pk_sub, pk_mul, nI_clamp, n_lt0, n_0lt, n_eq0, n_lt, n_le, n_eq, n_m1, n_m2, n_m9, n_12, n_19, n_10, n_01, n_1n1, n_0n1, n_1n0, n_0n0, n_dI, n_m1lt, q_inb, n_nar, n_nar0, n_nar1, n_bool, Bool.false_eq_true, Bool.true_eq_false, if_true, if_false, ↓reduceIte, Nat.reduceAdd, Nat.reduceMul, Nat.reduceSub, Nat.reduceLT, Nat.reduceLeDiff, Nat.reduceEqDiff, Nat.reduceMod, Nat.reduceDiv, q_D hP.1.1.1, q_N hP.1.1.1, h8, q, e2, n_nr, n_isb]
  · skip
    have u1 := r_wordN (d := d) hP.1 (j := 1) (a := 1000034) (by decide) rfl (by omega) (by omega)
    have u3 := r_wordN (d := d) hP.1 (j := 3) (a := 1000039) (by decide) rfl (by omega) (by omega)
    have u4 := r_tookN (d := d) hP.1 (j := 4) (a := 1000040) (by decide) rfl (by omega) (by omega)
    have u5 := r_tookN (d := d) hP.1 (j := 5) (a := 1000041) (by decide) rfl (by omega) (by omega)
    have u6 := r_tookN (d := d) hP.1 (j := 6) (a := 1000042) (by decide) rfl (by omega) (by omega)
    have u7 := r_tookN (d := d) hP.1 (j := 7) (a := 1000043) (by decide) rfl (by omega) (by omega)
    obtain ⟨M1, e1, t1⟩ := r_tookY (d := d) hP.1 (j := 8) (a := 1000044) (by decide) rfl q (by omega)
    have P1 := r_P_4 (k := 5) (v := nI 1) (r_P_e hP t1)
    refine ⟨_, ⟨fun _ => P1, fun z => absurd rfl z⟩, fun X hX => ?_⟩
    rw [E_X12_readLine]
    refine (r_no (q_R hP.1.1.1).1 u1).trans ?_
    refine (r_no (q_R hP.1.1.1).1 u3).trans ?_
    refine (r_no (q_R hP.1.1.1).1 u4).trans ?_
    refine (r_no (q_R hP.1.1.1).1 u5).trans ?_
    refine (r_no (q_R hP.1.1.1).1 u6).trans ?_
    refine (r_no (q_R hP.1.1.1).1 u7).trans ?_
    refine (r_yes (q_R hP.1.1.1).1 e1).trans ?_
    simp (disch := omega) only [q_ckt, q_lt, q_cI, q_cJ, q_cV, q_cP, q_xI, q_xV, q_xP, q_xJ, g_gk, g_ga, g_gw, g_gp, g_gq, g_P, g_J, q_I_s, q_I_n, q_I_k, nI_add, pk_sub, pk_mul, nI_clamp, n_lt0, n_0lt, n_eq0, n_lt, n_le, n_eq, n_m1, n_m2, n_m9, n_12, n_19, n_10, n_01, n_1n1, n_0n1, n_1n0, n_0n0, n_dI, n_m1lt, q_inb, n_nar, n_nar0, n_nar1, n_bool, Bool.false_eq_true, Bool.true_eq_false, if_true, if_false, ↓reduceIte, Nat.reduceAdd, Nat.reduceMul, Nat.reduceSub, Nat.reduceLT, Nat.reduceLeDiff, Nat.reduceEqDiff, Nat.reduceMod, Nat.reduceDiv, q_R t1.1.1.1, hX]
theorem w_Behind (hF : k_FR G N K) (hs : s ≤ n) (q : k_kd B n s = 261) : w_N B n L xs G s K := by
  obtain ⟨b1, b2, b3, b4, b5, b6, b7, b8⟩ := k_nt_b (B := B) hs
  have s1 := b3 (by omega)
  have hb := (k_FR_d hF).2.2.2.2.2
  obtain ⟨s2, es2⟩ : ∃ x, x = k_nt B n s := ⟨_, rfl⟩
  rw [← es2] at b1 b2 s1
  obtain ⟨a1, a2, a3, a4, a5, a6, a7, a8⟩ := k_nt_b (B := B) b2
  have tw : (nI 2).toInt = 2 := by decide +kernel
  by_cases qf : k_nf (k_kd B n s2) (k_vl B n s2) 1 (nI 2).toInt = 0
  · have kv : k_kd B n s2 = 2 ∧ 1 ≤ k_vl B n s2 ∧ k_vl B n s2 ≤ 2 := by
      have z := qf
      rw [tw] at z
      unfold k_nf at z
      by_cases z1 : k_kd B n s2 = 2
      · rw [if_pos z1] at z
        by_cases z2 : 1 ≤ k_vl B n s2 ∧ (k_vl B n s2 : Int) ≤ 2
        · exact ⟨z1, z2.1, by omega⟩
        · rw [if_neg z2] at z; exact nomatch z
      · rw [if_neg z1] at z
        exact absurd z (k_fk_b (by decide)).1
    have a3' := a3 (by omega)
    refine ⟨0, k_nt B n s2, k_put1 K 3 (nI (k_vl B n s2)), N, by decide, by omega, a2, fun _ => ⟨by omega, k_FR_1 hF (Or.inr (Or.inl ⟨rfl, k_vl B n s2, kv.2.1, by omega, rfl⟩))⟩, fun M0 M d hd hP => ?_, fun M0 M d hd hP => ?_⟩
    · obtain ⟨e, rfl⟩ : ∃ e, d = e + 1 := ⟨d - 1, by omega⟩
      obtain ⟨h6, h8, -, h300⟩ := c_hdr hP.1
      obtain ⟨M1, e1, P1⟩ := c_P_n (d := e) hP (by omega)
      rw [← es2] at P1
      have h10 := P1.1.2.2.2.2.2.2.2.2.2 kv.1
      obtain ⟨M2, e2, e3, -⟩ := c_num (d := e) P1.1 (a := 1) (hi := nI 2) (by decide) (by omega)
      rw [if_pos qf, e3 qf] at e2
      have P2 := c_P_1 (k := 4) (c := 3) (v := nI (k_vl B n s2)) P1 hb (by unfold k_prc; omega)
      obtain ⟨M4, e4, P4⟩ := c_P_n (d := e) P2 (by omega)
      refine ⟨M4, ?_, fun _ => P4, fun z => absurd rfl z⟩
      have go : m_X4_readBehind (e + 1) 100 M = ir_oI (nI 1) M4 := by
        rw [E_X4_readBehind]
        simp (disch := omega) only [q_ckt, q_lt, q_cI, q_cJ, q_cV, q_cP, q_xI, q_xV, q_xP, q_xJ, g_gk, g_ga, g_gw, g_gp, g_gq, g_P, g_J, q_I_s, q_I_n, q_I_k, nI_add, pk_sub, pk_mul, nI_clamp, n_lt0, n_0lt, n_eq0, n_lt, n_le, n_eq, n_m1, n_m2, n_m9, n_12, n_19, n_10, n_01, n_1n1, n_0n1, n_1n0, n_0n0, n_dI, n_m1lt, q_inb, n_nar, n_nar0, n_nar1, n_bool, Bool.false_eq_true, Bool.true_eq_false, if_true, if_false, ↓reduceIte, Nat.reduceAdd, Nat.reduceMul, Nat.reduceSub, Nat.reduceLT, Nat.reduceLeDiff, Nat.reduceEqDiff, Nat.reduceMod, Nat.reduceDiv, q_D hP.1.1.1, e1, q_D P1.1.1.1, q_N P1.1.1.1, e2, h10, e4, n_nr]
      rw [E_X4_readLine, k_1_0]
      simp (disch := omega) only [q_ckt, q_lt, q_cI, q_cJ, q_cV, q_cP, q_xI, q_xV, q_xP, q_xJ, g_gk, g_ga, g_gw, g_gp, g_gq, g_P, g_J, q_I_s, q_I_n, q_I_k, nI_add, pk_sub, pk_mul, nI_clamp, n_lt0, n_0lt, n_eq0, n_lt, n_le, n_eq, n_m1, n_m2, n_m9, n_12, n_19, n_10, n_01, n_1n1, n_0n1, n_1n0, n_0n0, n_dI, n_m1lt, q_inb, n_nar, n_nar0, n_nar1, n_bool, Bool.false_eq_true, Bool.true_eq_false, if_true, if_false, ↓reduceIte, Nat.reduceAdd, Nat.reduceMul, Nat.reduceSub, Nat.reduceLT, Nat.reduceLeDiff, Nat.reduceEqDiff, Nat.reduceMod, Nat.reduceDiv, q_D hP.1.1.1, h8, q, go, n_nr]
    · skip
      have u1 := r_wordN (d := d) hP.1 (j := 1) (a := 1000034) (by decide) rfl (by omega) (by omega)
      have u3 := r_wordN (d := d) hP.1 (j := 3) (a := 1000039) (by decide) rfl (by omega) (by omega)
      have u4 := r_tookN (d := d) hP.1 (j := 4) (a := 1000040) (by decide) rfl (by omega) (by omega)
      obtain ⟨M1, e1, t1⟩ := r_tookY (d := d) hP.1 (j := 5) (a := 1000041) (by decide) rfl q (by omega)
      have P1 := r_P_e hP t1
      rw [← es2] at P1
      obtain ⟨g, g1, g2⟩ := k_gl1 hb P1
      obtain ⟨M2, e2, t2, -⟩ := r_num (d := d) P1.1 (a := 1) (hi := nI 2) (by decide) g1 g2 (by omega)
      rw [if_pos qf] at e2
      have P2 := r_P_4 (k := 3) (v := nI (k_vl B n s2)) (r_P_e P1 (t2 qf))
      refine ⟨_, ⟨fun _ => P2, fun z => absurd rfl z⟩, fun X hX => ?_⟩
      rw [E_X12_readLine]
      refine (r_no (q_R hP.1.1.1).1 u1).trans ?_
      refine (r_no (q_R hP.1.1.1).1 u3).trans ?_
      refine (r_no (q_R hP.1.1.1).1 u4).trans ?_
      refine (r_yes (q_R hP.1.1.1).1 e1).trans ?_
      simp (disch := omega) only [q_ckt, q_lt, q_cI, q_cJ, q_cV, q_cP, q_xI, q_xV, q_xP, q_xJ, g_gk, g_ga, g_gw, g_gp, g_gq, g_P, g_J, q_I_s, q_I_n, q_I_k, nI_add, pk_sub, pk_mul, nI_clamp, n_lt0, n_0lt, n_eq0, n_lt, n_le, n_eq, n_m1, n_m2, n_m9, n_12, n_19, n_10, n_01, n_1n1, n_0n1, n_1n0, n_0n0, n_dI, n_m1lt, q_inb, n_nar, n_nar0, n_nar1, n_bool, Bool.false_eq_true, Bool.true_eq_false, if_true, if_false, ↓reduceIte, Nat.reduceAdd, Nat.reduceMul, Nat.reduceSub, Nat.reduceLT, Nat.reduceLeDiff, Nat.reduceEqDiff, Nat.reduceMod, Nat.reduceDiv, q_R t1.1.1.1, e2, q_R (t2 qf).1.1.1, hX]
  · have fb : k_nf (k_kd B n s2) (k_vl B n s2) 1 (nI 2).toInt ≤ 4 := by
      unfold k_nf
      have := k_fk_b (kd := k_kd B n s2) (w := 2) (by decide)
      split
      · split <;> omega
      · omega
    refine ⟨k_nf (k_kd B n s2) (k_vl B n s2) 1 (nI 2).toInt, s2, K, N, fb, by omega, b2, fun z => absurd z qf, fun M0 M d hd hP => ?_, fun M0 M d hd hP => ?_⟩
    · obtain ⟨e, rfl⟩ : ∃ e, d = e + 1 := ⟨d - 1, by omega⟩
      obtain ⟨h6, h8, -, h300⟩ := c_hdr hP.1
      obtain ⟨M1, e1, P1⟩ := c_P_n (d := e) hP (by omega)
      rw [← es2] at P1
      obtain ⟨M2, e2, -, t2⟩ := c_num (d := e) P1.1 (a := 1) (hi := nI 2) (by decide) (by omega)
      rw [if_neg qf] at e2
      refine ⟨M2, ?_, fun z => absurd z qf, fun _ => t2 qf⟩
      have go : m_X4_readBehind (e + 1) 100 M = ir_oI (nI 0) M2 := by
        rw [E_X4_readBehind]
        simp (disch := omega) only [q_ckt, q_lt, q_cI, q_cJ, q_cV, q_cP, q_xI, q_xV, q_xP, q_xJ, g_gk, g_ga, g_gw, g_gp, g_gq, g_P, g_J, q_I_s, q_I_n, q_I_k, nI_add, pk_sub, pk_mul, nI_clamp, n_lt0, n_0lt, n_eq0, n_lt, n_le, n_eq, n_m1, n_m2, n_m9, n_12, n_19, n_10, n_01, n_1n1, n_0n1, n_1n0, n_0n0, n_dI, n_m1lt, q_inb, n_nar, n_nar0, n_nar1, n_bool, Bool.false_eq_true, Bool.true_eq_false, if_true, if_false, ↓reduceIte, Nat.reduceAdd, Nat.reduceMul, Nat.reduceSub, Nat.reduceLT, Nat.reduceLeDiff, Nat.reduceEqDiff, Nat.reduceMod, Nat.reduceDiv, q_D hP.1.1.1, e1, q_D P1.1.1.1, e2, n_nr]
      rw [E_X4_readLine, k_1_n qf]
      simp (disch := omega) only [q_ckt, q_lt, q_cI, q_cJ, q_cV, q_cP, q_xI, q_xV, q_xP, q_xJ, g_gk, g_ga, g_gw, g_gp, g_gq, g_P, g_J, q_I_s, q_I_n, q_I_k, nI_add, pk_sub, pk_mul, nI_clamp, n_lt0, n_0lt, n_eq0, n_lt, n_le, n_eq, n_m1, n_m2, n_m9, n_12, n_19, n_10, n_01, n_1n1, n_0n1, n_1n0, n_0n0, n_dI, n_m1lt, q_inb, n_nar, n_nar0, n_nar1, n_bool, Bool.false_eq_true, Bool.true_eq_false, if_true, if_false, ↓reduceIte, Nat.reduceAdd, Nat.reduceMul, Nat.reduceSub, Nat.reduceLT, Nat.reduceLeDiff, Nat.reduceEqDiff, Nat.reduceMod, Nat.reduceDiv, q_D hP.1.1.1, h8, q, go, n_nr]
    · skip
      have u1 := r_wordN (d := d) hP.1 (j := 1) (a := 1000034) (by decide) rfl (by omega) (by omega)
      have u3 := r_wordN (d := d) hP.1 (j := 3) (a := 1000039) (by decide) rfl (by omega) (by omega)
      have u4 := r_tookN (d := d) hP.1 (j := 4) (a := 1000040) (by decide) rfl (by omega) (by omega)
      obtain ⟨M1, e1, t1⟩ := r_tookY (d := d) hP.1 (j := 5) (a := 1000041) (by decide) rfl q (by omega)
      have P1 := r_P_e hP t1
      rw [← es2] at P1
      obtain ⟨g, g1, g2⟩ := k_gl1 hb P1
      obtain ⟨M2, e2, -, t2⟩ := r_num (d := d) P1.1 (a := 1) (hi := nI 2) (by decide) g1 g2 (by omega)
      rw [if_neg qf] at e2
      have F2 := t2 qf
      have F3 := r_F_4 (k := 3) (v := nI 1) F2 (by decide)
      refine ⟨_, ⟨fun z => absurd z qf, fun _ => F3⟩, fun X hX => ?_⟩
      rw [E_X12_readLine]
      refine (r_no (q_R hP.1.1.1).1 u1).trans ?_
      refine (r_no (q_R hP.1.1.1).1 u3).trans ?_
      refine (r_no (q_R hP.1.1.1).1 u4).trans ?_
      refine (r_yes (q_R hP.1.1.1).1 e1).trans ?_
      simp (disch := omega) only [q_ckt, q_lt, q_cI, q_cJ, q_cV, q_cP, q_xI, q_xV, q_xP, q_xJ, g_gk, g_ga, g_gw, g_gp, g_gq, g_P, g_J, q_I_s, q_I_n, q_I_k, nI_add, pk_sub, pk_mul, nI_clamp, n_lt0, n_0lt, n_eq0, n_lt, n_le, n_eq, n_m1, n_m2, n_m9, n_12, n_19, n_10, n_01, n_1n1, n_0n1, n_1n0, n_0n0, n_dI, n_m1lt, q_inb, n_nar, n_nar0, n_nar1, n_bool, Bool.false_eq_true, Bool.true_eq_false, if_true, if_false, ↓reduceIte, Nat.reduceAdd, Nat.reduceMul, Nat.reduceSub, Nat.reduceLT, Nat.reduceLeDiff, Nat.reduceEqDiff, Nat.reduceMod, Nat.reduceDiv, q_R t1.1.1.1, e2, q_R F2.1.1, hX]
theorem w_Ruin (hF : k_FR G N K) (hs : s ≤ n) (q : k_kd B n s = 265) : w_N B n L xs G s K := by
  obtain ⟨b1, b2, b3, b4, b5, b6, b7, b8⟩ := k_nt_b (B := B) hs
  have s1 := b3 (by omega)
  have hb := (k_FR_d hF).2.2.2.2.2
  obtain ⟨s2, es2⟩ : ∃ x, x = k_nt B n s := ⟨_, rfl⟩
  rw [← es2] at b1 b2 s1
  obtain ⟨a1, a2, a3, a4, a5, a6, a7, a8⟩ := k_nt_b (B := B) b2
  have tw : (nI 999).toInt = 999 := by decide +kernel
  by_cases qf : k_nf (k_kd B n s2) (k_vl B n s2) 1 (nI 999).toInt = 0
  · have kv : k_kd B n s2 = 2 ∧ 1 ≤ k_vl B n s2 ∧ k_vl B n s2 ≤ 999 := by
      have z := qf
      rw [tw] at z
      unfold k_nf at z
      by_cases z1 : k_kd B n s2 = 2
      · rw [if_pos z1] at z
        by_cases z2 : 1 ≤ k_vl B n s2 ∧ (k_vl B n s2 : Int) ≤ 999
        · exact ⟨z1, z2.1, by omega⟩
        · rw [if_neg z2] at z; exact nomatch z
      · rw [if_neg z1] at z
        exact absurd z (k_fk_b (by decide)).1
    have a3' := a3 (by omega)
    refine ⟨0, k_nt B n s2, k_put1 K 4 (nI (k_vl B n s2)), N, by decide, by omega, a2, fun _ => ⟨by omega, k_FR_1 hF (Or.inr (Or.inr (Or.inl ⟨rfl, k_vl B n s2, kv.2.2, rfl⟩)))⟩, fun M0 M d hd hP => ?_, fun M0 M d hd hP => ?_⟩
    · obtain ⟨e, rfl⟩ : ∃ e, d = e + 1 := ⟨d - 1, by omega⟩
      obtain ⟨h6, h8, -, h300⟩ := c_hdr hP.1
      obtain ⟨M1, e1, P1⟩ := c_P_n (d := e) hP (by omega)
      rw [← es2] at P1
      have h10 := P1.1.2.2.2.2.2.2.2.2.2 kv.1
      obtain ⟨M2, e2, e3, -⟩ := c_num (d := e) P1.1 (a := 1) (hi := nI 999) (by decide) (by omega)
      rw [if_pos qf, e3 qf] at e2
      have P2 := c_P_1 (k := 5) (c := 4) (v := nI (k_vl B n s2)) P1 hb (by unfold k_prc; omega)
      obtain ⟨M4, e4, P4⟩ := c_P_n (d := e) P2 (by omega)
      refine ⟨M4, ?_, fun _ => P4, fun z => absurd rfl z⟩
      have go : m_X4_readRuin (e + 1) 100 M = ir_oI (nI 1) M4 := by
        rw [E_X4_readRuin]
        simp (disch := omega) only [q_ckt, q_lt, q_cI, q_cJ, q_cV, q_cP, q_xI, q_xV, q_xP, q_xJ, g_gk, g_ga, g_gw, g_gp, g_gq, g_P, g_J, q_I_s, q_I_n, q_I_k, nI_add, pk_sub, pk_mul, nI_clamp, n_lt0, n_0lt, n_eq0, n_lt, n_le, n_eq, n_m1, n_m2, n_m9, n_12, n_19, n_10, n_01, n_1n1, n_0n1, n_1n0, n_0n0, n_dI, n_m1lt, q_inb, n_nar, n_nar0, n_nar1, n_bool, Bool.false_eq_true, Bool.true_eq_false, if_true, if_false, ↓reduceIte, Nat.reduceAdd, Nat.reduceMul, Nat.reduceSub, Nat.reduceLT, Nat.reduceLeDiff, Nat.reduceEqDiff, Nat.reduceMod, Nat.reduceDiv, q_D hP.1.1.1, e1, q_D P1.1.1.1, q_N P1.1.1.1, e2, h10, e4, n_nr]
      rw [E_X4_readLine, k_1_0]
      simp (disch := omega) only [q_ckt, q_lt, q_cI, q_cJ, q_cV, q_cP, q_xI, q_xV, q_xP, q_xJ, g_gk, g_ga, g_gw, g_gp, g_gq, g_P, g_J, q_I_s, q_I_n, q_I_k, nI_add, pk_sub, pk_mul, nI_clamp, n_lt0, n_0lt, n_eq0, n_lt, n_le, n_eq, n_m1, n_m2, n_m9, n_12, n_19, n_10, n_01, n_1n1, n_0n1, n_1n0, n_0n0, n_dI, n_m1lt, q_inb, n_nar, n_nar0, n_nar1, n_bool, Bool.false_eq_true, Bool.true_eq_false, if_true, if_false, ↓reduceIte, Nat.reduceAdd, Nat.reduceMul, Nat.reduceSub, Nat.reduceLT, Nat.reduceLeDiff, Nat.reduceEqDiff, Nat.reduceMod, Nat.reduceDiv, q_D hP.1.1.1, h8, q, go, n_nr]
    · skip
      have u1 := r_wordN (d := d) hP.1 (j := 1) (a := 1000034) (by decide) rfl (by omega) (by omega)
      have u3 := r_wordN (d := d) hP.1 (j := 3) (a := 1000039) (by decide) rfl (by omega) (by omega)
      have u4 := r_tookN (d := d) hP.1 (j := 4) (a := 1000040) (by decide) rfl (by omega) (by omega)
      have u5 := r_tookN (d := d) hP.1 (j := 5) (a := 1000041) (by decide) rfl (by omega) (by omega)
      have u6 := r_tookN (d := d) hP.1 (j := 6) (a := 1000042) (by decide) rfl (by omega) (by omega)
      have u7 := r_tookN (d := d) hP.1 (j := 7) (a := 1000043) (by decide) rfl (by omega) (by omega)
      have u8 := r_tookN (d := d) hP.1 (j := 8) (a := 1000044) (by decide) rfl (by omega) (by omega)
      obtain ⟨M1, e1, t1⟩ := r_tookY (d := d) hP.1 (j := 9) (a := 1000045) (by decide) rfl q (by omega)
      have P1 := r_P_e hP t1
      rw [← es2] at P1
      obtain ⟨g, g1, g2⟩ := k_gl1 hb P1
      obtain ⟨M2, e2, t2, -⟩ := r_num (d := d) P1.1 (a := 1) (hi := nI 999) (by decide) g1 g2 (by omega)
      rw [if_pos qf] at e2
      have P2 := r_P_4 (k := 4) (v := nI (k_vl B n s2)) (r_P_e P1 (t2 qf))
      refine ⟨_, ⟨fun _ => P2, fun z => absurd rfl z⟩, fun X hX => ?_⟩
      rw [E_X12_readLine]
      refine (r_no (q_R hP.1.1.1).1 u1).trans ?_
      refine (r_no (q_R hP.1.1.1).1 u3).trans ?_
      refine (r_no (q_R hP.1.1.1).1 u4).trans ?_
      refine (r_no (q_R hP.1.1.1).1 u5).trans ?_
      refine (r_no (q_R hP.1.1.1).1 u6).trans ?_
      refine (r_no (q_R hP.1.1.1).1 u7).trans ?_
      refine (r_no (q_R hP.1.1.1).1 u8).trans ?_
      refine (r_yes (q_R hP.1.1.1).1 e1).trans ?_
      simp (disch := omega) only [q_ckt, q_lt, q_cI, q_cJ, q_cV, q_cP, q_xI, q_xV, q_xP, q_xJ, g_gk, g_ga, g_gw, g_gp, g_gq, g_P, g_J, q_I_s, q_I_n, q_I_k, nI_add, pk_sub, pk_mul, nI_clamp, n_lt0, n_0lt, n_eq0, n_lt, n_le, n_eq, n_m1, n_m2, n_m9, n_12, n_19, n_10, n_01, n_1n1, n_0n1, n_1n0, n_0n0, n_dI, n_m1lt, q_inb, n_nar, n_nar0, n_nar1, n_bool, Bool.false_eq_true, Bool.true_eq_false, if_true, if_false, ↓reduceIte, Nat.reduceAdd, Nat.reduceMul, Nat.reduceSub, Nat.reduceLT, Nat.reduceLeDiff, Nat.reduceEqDiff, Nat.reduceMod, Nat.reduceDiv, q_R t1.1.1.1, e2, q_R (t2 qf).1.1.1, hX]
  · have fb : k_nf (k_kd B n s2) (k_vl B n s2) 1 (nI 999).toInt ≤ 4 := by
      unfold k_nf
      have := k_fk_b (kd := k_kd B n s2) (w := 2) (by decide)
      split
      · split <;> omega
      · omega
    refine ⟨k_nf (k_kd B n s2) (k_vl B n s2) 1 (nI 999).toInt, s2, K, N, fb, by omega, b2, fun z => absurd z qf, fun M0 M d hd hP => ?_, fun M0 M d hd hP => ?_⟩
    · obtain ⟨e, rfl⟩ : ∃ e, d = e + 1 := ⟨d - 1, by omega⟩
      obtain ⟨h6, h8, -, h300⟩ := c_hdr hP.1
      obtain ⟨M1, e1, P1⟩ := c_P_n (d := e) hP (by omega)
      rw [← es2] at P1
      obtain ⟨M2, e2, -, t2⟩ := c_num (d := e) P1.1 (a := 1) (hi := nI 999) (by decide) (by omega)
      rw [if_neg qf] at e2
      refine ⟨M2, ?_, fun z => absurd z qf, fun _ => t2 qf⟩
      have go : m_X4_readRuin (e + 1) 100 M = ir_oI (nI 0) M2 := by
        rw [E_X4_readRuin]
        simp (disch := omega) only [q_ckt, q_lt, q_cI, q_cJ, q_cV, q_cP, q_xI, q_xV, q_xP, q_xJ, g_gk, g_ga, g_gw, g_gp, g_gq, g_P, g_J, q_I_s, q_I_n, q_I_k, nI_add, pk_sub, pk_mul, nI_clamp, n_lt0, n_0lt, n_eq0, n_lt, n_le, n_eq, n_m1, n_m2, n_m9, n_12, n_19, n_10, n_01, n_1n1, n_0n1, n_1n0, n_0n0, n_dI, n_m1lt, q_inb, n_nar, n_nar0, n_nar1, n_bool, Bool.false_eq_true, Bool.true_eq_false, if_true, if_false, ↓reduceIte, Nat.reduceAdd, Nat.reduceMul, Nat.reduceSub, Nat.reduceLT, Nat.reduceLeDiff, Nat.reduceEqDiff, Nat.reduceMod, Nat.reduceDiv, q_D hP.1.1.1, e1, q_D P1.1.1.1, e2, n_nr]
      rw [E_X4_readLine, k_1_n qf]
      simp (disch := omega) only [q_ckt, q_lt, q_cI, q_cJ, q_cV, q_cP, q_xI, q_xV, q_xP, q_xJ, g_gk, g_ga, g_gw, g_gp, g_gq, g_P, g_J, q_I_s, q_I_n, q_I_k, nI_add, pk_sub, pk_mul, nI_clamp, n_lt0, n_0lt, n_eq0, n_lt, n_le, n_eq, n_m1, n_m2, n_m9, n_12, n_19, n_10, n_01, n_1n1, n_0n1, n_1n0, n_0n0, n_dI, n_m1lt, q_inb, n_nar, n_nar0, n_nar1, n_bool, Bool.false_eq_true, Bool.true_eq_false, if_true, if_false, ↓reduceIte, Nat.reduceAdd, Nat.reduceMul, Nat.reduceSub, Nat.reduceLT, Nat.reduceLeDiff, Nat.reduceEqDiff, Nat.reduceMod, Nat.reduceDiv, q_D hP.1.1.1, h8, q, go, n_nr]
    · skip
      have u1 := r_wordN (d := d) hP.1 (j := 1) (a := 1000034) (by decide) rfl (by omega) (by omega)
      have u3 := r_wordN (d := d) hP.1 (j := 3) (a := 1000039) (by decide) rfl (by omega) (by omega)
      have u4 := r_tookN (d := d) hP.1 (j := 4) (a := 1000040) (by decide) rfl (by omega) (by omega)
      have u5 := r_tookN (d := d) hP.1 (j := 5) (a := 1000041) (by decide) rfl (by omega) (by omega)
      have u6 := r_tookN (d := d) hP.1 (j := 6) (a := 1000042) (by decide) rfl (by omega) (by omega)
      have u7 := r_tookN (d := d) hP.1 (j := 7) (a := 1000043) (by decide) rfl (by omega) (by omega)
      have u8 := r_tookN (d := d) hP.1 (j := 8) (a := 1000044) (by decide) rfl (by omega) (by omega)
      obtain ⟨M1, e1, t1⟩ := r_tookY (d := d) hP.1 (j := 9) (a := 1000045) (by decide) rfl q (by omega)
      have P1 := r_P_e hP t1
      rw [← es2] at P1
      obtain ⟨g, g1, g2⟩ := k_gl1 hb P1
      obtain ⟨M2, e2, -, t2⟩ := r_num (d := d) P1.1 (a := 1) (hi := nI 999) (by decide) g1 g2 (by omega)
      rw [if_neg qf] at e2
      have F2 := t2 qf
      have F3 := r_F_4 (k := 4) (v := nI 1) F2 (by decide)
      refine ⟨_, ⟨fun z => absurd z qf, fun _ => F3⟩, fun X hX => ?_⟩
      rw [E_X12_readLine]
      refine (r_no (q_R hP.1.1.1).1 u1).trans ?_
      refine (r_no (q_R hP.1.1.1).1 u3).trans ?_
      refine (r_no (q_R hP.1.1.1).1 u4).trans ?_
      refine (r_no (q_R hP.1.1.1).1 u5).trans ?_
      refine (r_no (q_R hP.1.1.1).1 u6).trans ?_
      refine (r_no (q_R hP.1.1.1).1 u7).trans ?_
      refine (r_no (q_R hP.1.1.1).1 u8).trans ?_
      refine (r_yes (q_R hP.1.1.1).1 e1).trans ?_
      simp (disch := omega) only [q_ckt, q_lt, q_cI, q_cJ, q_cV, q_cP, q_xI, q_xV, q_xP, q_xJ, g_gk, g_ga, g_gw, g_gp, g_gq, g_P, g_J, q_I_s, q_I_n, q_I_k, nI_add, pk_sub, pk_mul, nI_clamp, n_lt0, n_0lt, n_eq0, n_lt, n_le, n_eq, n_m1, n_m2, n_m9, n_12, n_19, n_10, n_01, n_1n1, n_0n1, n_1n0, n_0n0, n_dI, n_m1lt, q_inb, n_nar, n_nar0, n_nar1, n_bool, Bool.false_eq_true, Bool.true_eq_false, if_true, if_false, ↓reduceIte, Nat.reduceAdd, Nat.reduceMul, Nat.reduceSub, Nat.reduceLT, Nat.reduceLeDiff, Nat.reduceEqDiff, Nat.reduceMod, Nat.reduceDiv, q_R t1.1.1.1, e2, q_R F2.1.1, hX]
end SL
