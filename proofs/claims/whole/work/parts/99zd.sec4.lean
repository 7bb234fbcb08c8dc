/-! secrets, the class: all ways; what is sure -/
section SR
variable {K N : Nat → Int32} {M : ir_M} {d : Nat} {o : Nat → Nat}
theorem n_p2l : ∀ v, v < 8 → ∀ x, x < 8 → ((2 ^ v).testBit x = decide (v = x)) ∧ (255 : Nat).testBit x = true := by decide +kernel
/-- round a ring each way comes by one guess -/
theorem k_rnd (hk : k_ok K) (hm : 0 < k_m K) (hr : K 43 = 1) : k_su (fun G => k_cnt (k_fl (k_m K) N (k_y K) 0 (G / 8 / 8 % 8) (G / 8 % 8) (G % 8)) (k_prd (k_os2 (fun i => o i &&& k_gm (k_m K) G i) 0 (k_m K)))) 512 = k_cnt (k_ok2 K N) (k_prd (k_os2 o 0 (k_m K))) := by
  have e1 : ∀ G, k_cnt (k_fl (k_m K) N (k_y K) 0 (G / 8 / 8 % 8) (G / 8 % 8) (G % 8)) (k_prd (k_os2 (fun i => o i &&& k_gm (k_m K) G i) 0 (k_m K))) = k_cnt (fun a => k_fl (k_m K) N (k_y K) 0 (G / 8 / 8 % 8) (G / 8 % 8) (G % 8) a && k_im2 (k_os2 (k_gm (k_m K) G) 0 (k_m K)) a) (k_prd (k_os2 o 0 (k_m K))) := fun G => by
    rw [k_os2_z, k_prd_and _ _ _ (by rw [k_os2_len, k_os2_len])]
  rw [k_su_cg 512 (fun G _ => e1 G), k_ex, ← k_sl_cn]
  refine k_sl_cg _ fun a ha => ?_
  obtain ⟨al, ab⟩ := k_prd_mem.mp ha
  rw [k_os2_len] at al ab
  have pl : ∀ b, k_pr2 (k_m K) b < k_m K := fun b => Nat.mod_lt _ hm
  have a8 : ∀ i, i < k_m K → a.getD i 0 < 8 := fun i hi => (ab i hi).1
  obtain ⟨x1, h1⟩ : ∃ x, x = a.getD (k_pr2 (k_m K) 1) 0 := ⟨_, rfl⟩
  obtain ⟨x2, h2⟩ : ∃ x, x = a.getD (k_pr2 (k_m K) 2) 0 := ⟨_, rfl⟩
  obtain ⟨x3, h3⟩ : ∃ x, x = a.getD (k_pr2 (k_m K) 3) 0 := ⟨_, rfl⟩
  have l1 : x1 < 8 := by rw [h1]; exact a8 _ (pl 1)
  have l2 : x2 < 8 := by rw [h2]; exact a8 _ (pl 2)
  have l3 : x3 < 8 := by rw [h3]; exact a8 _ (pl 3)
  have im : ∀ G, G < 512 → (k_im2 (k_os2 (k_gm (k_m K) G) 0 (k_m K)) a = true ↔ G = x1 + 8 * x2 + 64 * x3) := fun G hG => by
    have v1 : G % 8 < 8 := Nat.mod_lt _ (by decide)
    have v2 : G / 8 % 8 < 8 := Nat.mod_lt _ (by decide)
    have v3 : G / 8 / 8 % 8 < 8 := Nat.mod_lt _ (by decide)
    rw [k_im2_all (by rw [k_os2_len]; exact al), k_os2_len]
    constructor
    · intro hh
      have z : ∀ i, i < k_m K → (k_gm (k_m K) G i).testBit (a.getD i 0) = true := fun i hi => by
        have := hh i hi
        rw [k_os2_g _ _ _ hi, Nat.zero_add] at this
        exact this
      have z1 := z _ (pl 1)
      have z2 := z _ (pl 2)
      have z3 := z _ (pl 3)
      unfold k_gm at z1 z2 z3
      rw [if_pos (rfl : k_pr2 (k_m K) 1 = k_pr2 (k_m K) 1), Nat.testBit_and, Bool.and_eq_true, ← h1, (n_p2l _ v1 _ l1).1] at z1
      rw [if_pos (rfl : k_pr2 (k_m K) 2 = k_pr2 (k_m K) 2), Nat.testBit_and, Nat.testBit_and, Bool.and_eq_true, Bool.and_eq_true, ← h2, (n_p2l _ v2 _ l2).1] at z2
      rw [if_pos (rfl : k_pr2 (k_m K) 3 = k_pr2 (k_m K) 3), Nat.testBit_and, Nat.testBit_and, Bool.and_eq_true, Bool.and_eq_true, ← h3, (n_p2l _ v3 _ l3).1] at z3
      have y1 := of_decide_eq_true z1.1
      have y2 := of_decide_eq_true z2.2.1
      have y3 := of_decide_eq_true z3.2.2
      omega
    · intro e i hi
      have g1 : G % 8 = x1 := by omega
      have g2 : G / 8 % 8 = x2 := by omega
      have g3 : G / 8 / 8 % 8 = x3 := by omega
      rw [k_os2_g _ _ _ hi, Nat.zero_add]
      unfold k_gm
      rw [g1, g2, g3, Nat.testBit_and, Nat.testBit_and]
      have one : ∀ (b x : Nat), x = a.getD (k_pr2 (k_m K) b) 0 → x < 8 → (if i = k_pr2 (k_m K) b then 2 ^ x else 255).testBit (a.getD i 0) = true := fun b x hx hx8 => by
        by_cases q : i = k_pr2 (k_m K) b
        · rw [if_pos q, q, ← hx, (n_p2l x hx8 x hx8).1]
          exact decide_eq_true rfl
        · rw [if_neg q]
          exact (n_p2l 0 (by decide) _ (a8 i hi)).2
      rw [one 1 x1 h1 l1, one 2 x2 h2 l2, one 3 x3 h3 l3]
      rfl
  have bk : ∀ b, k_bk K (k_av a) b = k_cv (a.getD (k_pr2 (k_m K) b) 0) := fun b => by
    unfold k_bk
    rw [if_pos hr]
    rfl
  have fl0 := k_fl_ok (K := K) (N := N) (a := a) (t := x3) (u := x2) (w := x1) al (by rw [bk, ← h1]) (by rw [bk, ← h2]) (by rw [bk, ← h3])
  refine (k_su_cg 512 (g := fun G => if G = x1 + 8 * x2 + 64 * x3 then (if k_ok2 K N a = true then 1 else 0) else 0) fun G hG => ?_).trans ?_
  · by_cases q : G = x1 + 8 * x2 + 64 * x3
    · rw [if_pos q, (im G hG).mpr q, Bool.and_true, show G % 8 = x1 by omega, show G / 8 % 8 = x2 by omega, show G / 8 / 8 % 8 = x3 by omega, fl0]
    · rw [if_neg q]
      cases e : k_im2 (k_os2 (k_gm (k_m K) G) 0 (k_m K)) a
      · rw [Bool.and_false, if_neg (by decide)]
      · exact absurd ((im G hG).mp e) q
  · rw [k_su_one, if_pos (by omega)]
theorem c_wr (h : c_sec2 K N M) (hm : 0 < k_m K) (hr : K 43 = 1) (ho : ∀ i, i < k_m K → ir_I M 134 i = nI (o i) ∧ o i < 256) : ∃ M', m_X6_waysRound (d + 6) 133 M = ir_oJ (Int64.ofNat (k_cnt (k_ok2 K N) (k_prd (k_os2 o 0 (k_m K))))) M' ∧ q_cs M M' ∧ M'.1 134 = M.1 134 := by
  have hk := h.1.2.2.1
  obtain ⟨W, eW⟩ : ∃ W : Nat → Nat, W = fun G => k_cnt (k_fl (k_m K) N (k_y K) 0 (G / 8 / 8 % 8) (G / 8 % 8) (G % 8)) (k_prd (k_os2 (fun i => o i &&& k_gm (k_m K) G i) 0 (k_m K))) := ⟨_, rfl⟩
  have tot : k_su W 512 = k_cnt (k_ok2 K N) (k_prd (k_os2 o 0 (k_m K))) := by rw [eW]; exact k_rnd hk hm hr
  have L := q_up (σ := ir_M) (V := fun G t => v_X6_waysRound_4 (d + 5) 133 (Int64.ofNat (k_su W G)) (nI G) t) (N := 512) (I := fun _ t => q_cs M t ∧ t.1 134 = M.1 134) (K := fun t => ir_oJ (Int64.ofNat (k_su W 512)) t) (by
    rintro G t hG ⟨hc, h134⟩
    have st := c_sec_cs h hc
    have ot : ∀ i, i < k_m K → ir_I t 134 i = nI (o i) ∧ o i < 256 := fun i hi => ⟨(congrFun h134 i).trans (ho i hi).1, (ho i hi).2⟩
    obtain ⟨t1, b, e1, q1, y1, n1⟩ := c_tg (d := d + 3) st hm ot hG
    have c1 := q_cs_eq st.1.1 q1 (by decide)
    have s1 := c_sec_cs st c1
    have k1 : t1.1 134 = M.1 134 := (q1.1 134 (by decide)).trans h134
    cases b with
    | false =>
      obtain ⟨i, hi, hz⟩ := n1 rfl
      have w0 : W G = 0 := by
        rw [eW]
        exact k_prd_e (i := i) (by rw [k_os2_len]; exact hi) (by rw [k_os2_g _ _ _ hi, Nat.zero_add]; exact hz) _
      rw [if_neg (by decide)] at e1
      refine ⟨t1, ⟨hc.tr c1, k1⟩, ?_⟩
      rw [show k_su W (G + 1) = k_su W G + W G from rfl, w0, L_X6_waysRound_4]
      simp (disch := omega) only [q_ckt, q_lt, q_cI, q_cJ, q_cV, q_cP, q_xI, q_xV, q_xP, q_xJ, g_gk, g_ga, g_gw, g_gp, g_gq, g_P, g_J, q_I_s, q_I_n, q_I_k, nI_add, pk_sub, pk_mul, nI_clamp, n_lt0, n_0lt, n_eq0, n_lt, n_le, n_eq, n_m1, n_m2, n_m9, n_12, n_19, n_10, n_01, n_1n1, n_0n1, n_1n0, n_0n0, n_dI, n_m1lt, q_inb, n_nar, n_nar0, n_nar1, n_bool, Bool.false_eq_true, Bool.true_eq_false, if_true, if_false, ↓reduceIte, Nat.reduceAdd, Nat.reduceMul, Nat.reduceSub, Nat.reduceLT, Nat.reduceLeDiff, Nat.reduceEqDiff, Nat.reduceMod, Nat.reduceDiv, hG, q_E st.1.1, e1]
      rfl
    | true =>
      obtain ⟨y2, y3, y4, y5⟩ := y1 rfl
      rw [if_pos rfl] at e1
      obtain ⟨t2, e2, w2⟩ := c_wb (d := d + 1) (l := 135) (o := fun i => o i &&& k_gm (k_m K) G i) s1 (Or.inr rfl) y5 (t := G / 8 / 8 % 8) (u := G / 8 % 8) (w := G % 8) (Nat.mod_lt _ (by decide)) (Nat.mod_lt _ (by decide)) (Nat.mod_lt _ (by decide)) (fun _ => ⟨y4, y3, y2⟩)
      have ew : k_G (k_m K) N (k_y K) (k_os2 (fun i => o i &&& k_gm (k_m K) G i) 0 (k_m K)) 0 (G / 8 / 8 % 8) (G / 8 % 8) (G % 8) = W G := by rw [eW]; exact (k_cnt_G _ _ _ _ _).symm
      rw [ew] at e2
      refine ⟨t2, ⟨(hc.tr c1).tr w2.cs, by rw [w2.2.1]; exact k1⟩, ?_⟩
      rw [show k_su W (G + 1) = k_su W G + W G from rfl, Int64.ofNat_add, L_X6_waysRound_4]
      simp (disch := omega) only [q_ckt, q_lt, q_cI, q_cJ, q_cV, q_cP, q_xI, q_xV, q_xP, q_xJ, g_gk, g_ga, g_gw, g_gp, g_gq, g_P, g_J, q_I_s, q_I_n, q_I_k, nI_add, pk_sub, pk_mul, nI_clamp, n_lt0, n_0lt, n_eq0, n_lt, n_le, n_eq, n_m1, n_m2, n_m9, n_12, n_19, n_10, n_01, n_1n1, n_0n1, n_1n0, n_0n0, n_dI, n_m1lt, q_inb, n_nar, n_nar0, n_nar1, n_bool, Bool.false_eq_true, Bool.true_eq_false, if_true, if_false, ↓reduceIte, Nat.reduceAdd, Nat.reduceMul, Nat.reduceSub, Nat.reduceLT, Nat.reduceLeDiff, Nat.reduceEqDiff, Nat.reduceMod, Nat.reduceDiv, hG, q_E st.1.1, e1, q_E s1.1.1, e2]) (by
    rintro t _
    rw [L_X6_waysRound_4]
    simp (disch := omega) only [q_ckt, q_lt, q_cI, q_cJ, q_cV, q_cP, q_xI, q_xV, q_xP, q_xJ, g_gk, g_ga, g_gw, g_gp, g_gq, g_P, g_J, q_I_s, q_I_n, q_I_k, nI_add, pk_sub, pk_mul, nI_clamp, n_lt0, n_0lt, n_eq0, n_lt, n_le, n_eq, n_m1, n_m2, n_m9, n_12, n_19, n_10, n_01, n_1n1, n_0n1, n_1n0, n_0n0, n_dI, n_m1lt, q_inb, n_nar, n_nar0, n_nar1, n_bool, Bool.false_eq_true, Bool.true_eq_false, if_true, if_false, ↓reduceIte, Nat.reduceAdd, Nat.reduceMul, Nat.reduceSub, Nat.reduceLT, Nat.reduceLeDiff, Nat.reduceEqDiff, Nat.reduceMod, Nat.reduceDiv]) (i := 0) (t := M) (by omega) ⟨q_cs.rf h.1.1, rfl⟩
  obtain ⟨t, ⟨a, b⟩, ee⟩ := L
  rw [tot] at ee
  exact ⟨t, (E_X6_waysRound (d + 5) 133 M).trans ee, a, b⟩
theorem k_code (hk : k_ok K) {x : Int32} (h : x = -2 ∨ k_gd K x) : ∃ c, c < 8 ∧ x = k_cv c := by
  have hb := k_bds hk
  rcases h with rfl | rfl | ⟨j, hj, rfl⟩
  · exact ⟨0, by decide, by decide +kernel⟩
  · exact ⟨1, by decide, by decide +kernel⟩
  · have : ∀ j, j < 6 → nI j = k_cv (j + 2) := by decide +kernel
    exact ⟨j + 2, by omega, this j (by omega)⟩
theorem k_bk_gd (hk : k_ok K) (hr : ¬ K 43 = 1) {A : Nat → Int32} {b : Nat} (h1 : 1 ≤ b) : k_bk K A b = -2 ∨ k_gd K (k_bk K A b) := by
  have hb := k_bds hk
  unfold k_bk
  rw [if_neg hr]
  by_cases q : K 5 = 1 ∧ b ≤ k_w K
  · rw [if_pos q]
    exact Or.inr (hk.2.2.2.2.2.2.2.2.2.2.2 _ (by omega))
  · rw [if_neg q]
    exact Or.inl rfl
/-- the three ahead, where no ring is -/
def c_l3 (K : Nat → Int32) (M : ir_M) : Prop := ¬ K 43 = 1 → 0 < k_m K → ∀ b, 1 ≤ b → b ≤ 3 → ir_I M 117 (3 - b) = k_bk K (fun _ => 0) b
theorem c_wy (h : c_sec2 K N M) (hl : c_l3 K M) (ho : ∀ i, i < k_m K → ir_I M 134 i = nI (o i) ∧ o i < 256) : ∃ M', m_X6_ways (d + 7) 133 M = ir_oJ (Int64.ofNat (k_cnt (k_ok2 K N) (k_prd (k_os2 o 0 (k_m K))))) M' ∧ q_cs M M' ∧ M'.1 134 = M.1 134 ∧ c_l3 K M' := by
  have hk := h.1.2.2.1
  have hb := k_bds hk
  have h43 := hk.2.2.2.2.2.2.2.2.1
  by_cases m0 : k_m K = 0
  · obtain ⟨M1, e1, w1⟩ := c_wb (d := d + 2) (l := 134) h (Or.inl rfl) ho (t := 0) (u := 0) (w := 0) (by decide) (by decide) (by decide) (fun q => by omega)
    have ev : k_G (k_m K) N (k_y K) (k_os2 o 0 (k_m K)) 0 0 0 0 = k_cnt (k_ok2 K N) (k_prd (k_os2 o 0 (k_m K))) := by
      rw [← k_cnt_G]
      refine k_cnt_cg _ fun a ha => ?_
      have al := (k_prd_mem.mp ha).1
      rw [k_os2_len, m0] at al
      rw [List.length_eq_zero_iff.mp al]
      unfold k_fl k_F k_ok2
      rw [m0, decide_eq_true (Nat.le_refl 0), Bool.true_or]
      rfl
    rw [ev] at e1
    refine ⟨M1, ?_, w1.cs, by rw [w1.2.1], fun _ q => absurd q (by omega)⟩
    rw [E_X6_ways]
    rcases h43 with z | z
    · simp (disch := omega) only [q_ckt, q_lt, q_cI, q_cJ, q_cV, q_cP, q_xI, q_xV, q_xP, q_xJ, g_gk, g_ga, g_gw, g_gp, g_gq, g_P, g_J, q_I_s, q_I_n, q_I_k, nI_add, pk_sub, pk_mul, nI_clamp, n_lt0, n_0lt, n_eq0, n_lt, n_le, n_eq, n_m1, n_m2, n_m9, n_12, n_19, n_10, n_01, n_1n1, n_0n1, n_1n0, n_0n0, n_dI, n_m1lt, q_inb, n_nar, n_nar0, n_nar1, n_bool, Bool.false_eq_true, Bool.true_eq_false, if_true, if_false, ↓reduceIte, Nat.reduceAdd, Nat.reduceMul, Nat.reduceSub, Nat.reduceLT, Nat.reduceLeDiff, Nat.reduceEqDiff, Nat.reduceMod, Nat.reduceDiv, c_spg h.1.1 h.2.1, q_S h.1.1 (a := 12) (by decide), c_use h.1, z, q_E h.1.1, e1]
    · simp (disch := omega) only [q_ckt, q_lt, q_cI, q_cJ, q_cV, q_cP, q_xI, q_xV, q_xP, q_xJ, g_gk, g_ga, g_gw, g_gp, g_gq, g_P, g_J, q_I_s, q_I_n, q_I_k, nI_add, pk_sub, pk_mul, nI_clamp, n_lt0, n_0lt, n_eq0, n_lt, n_le, n_eq, n_m1, n_m2, n_m9, n_12, n_19, n_10, n_01, n_1n1, n_0n1, n_1n0, n_0n0, n_dI, n_m1lt, q_inb, n_nar, n_nar0, n_nar1, n_bool, Bool.false_eq_true, Bool.true_eq_false, if_true, if_false, ↓reduceIte, Nat.reduceAdd, Nat.reduceMul, Nat.reduceSub, Nat.reduceLT, Nat.reduceLeDiff, Nat.reduceEqDiff, Nat.reduceMod, Nat.reduceDiv, c_spg h.1.1 h.2.1, q_S h.1.1 (a := 12) (by decide), c_use h.1, z, n_10, m0, Nat.lt_irrefl, q_E h.1.1, e1]
  · by_cases hr : K 43 = 1
    · obtain ⟨M1, e1, w1, k1⟩ := c_wr (d := d) h (by omega) hr ho
      refine ⟨M1, ?_, w1, k1, fun q => absurd hr q⟩
      rw [E_X6_ways]
      simp (disch := omega) only [q_ckt, q_lt, q_cI, q_cJ, q_cV, q_cP, q_xI, q_xV, q_xP, q_xJ, g_gk, g_ga, g_gw, g_gp, g_gq, g_P, g_J, q_I_s, q_I_n, q_I_k, nI_add, pk_sub, pk_mul, nI_clamp, n_lt0, n_0lt, n_eq0, n_lt, n_le, n_eq, n_m1, n_m2, n_m9, n_12, n_19, n_10, n_01, n_1n1, n_0n1, n_1n0, n_0n0, n_dI, n_m1lt, q_inb, n_nar, n_nar0, n_nar1, n_bool, Bool.false_eq_true, Bool.true_eq_false, if_true, if_false, ↓reduceIte, Nat.reduceAdd, Nat.reduceMul, Nat.reduceSub, Nat.reduceLT, Nat.reduceLeDiff, Nat.reduceEqDiff, Nat.reduceMod, Nat.reduceDiv, c_spg h.1.1 h.2.1, q_S h.1.1 (a := 12) (by decide), c_use h.1, hr, n_10, show 0 < k_m K by omega, q_E h.1.1, e1]
    · have z := h43.resolve_right hr
      have hl' := hl hr (by omega)
      obtain ⟨w, w8, ew⟩ := k_code hk (k_bk_gd (A := fun _ => 0) hk hr (b := 1) (by decide))
      obtain ⟨u, u8, eu⟩ := k_code hk (k_bk_gd (A := fun _ => 0) hk hr (b := 2) (by decide))
      obtain ⟨t, t8, et⟩ := k_code hk (k_bk_gd (A := fun _ => 0) hk hr (b := 3) (by decide))
      obtain ⟨M1, e1, w1⟩ := c_wb (d := d + 2) (l := 134) h (Or.inl rfl) ho t8 u8 w8 (fun _ => ⟨(hl' 3 (by decide) (by decide)).trans et, (hl' 2 (by decide) (by decide)).trans eu, (hl' 1 (by decide) (by decide)).trans ew⟩)
      have ev : k_G (k_m K) N (k_y K) (k_os2 o 0 (k_m K)) 0 t u w = k_cnt (k_ok2 K N) (k_prd (k_os2 o 0 (k_m K))) := by
        rw [← k_cnt_G]
        refine k_cnt_cg _ fun a ha => ?_
        have al := (k_prd_mem.mp ha).1
        rw [k_os2_len] at al
        exact k_fl_ok al (ew.symm.trans (k_bk_n hr)) (eu.symm.trans (k_bk_n hr)) (et.symm.trans (k_bk_n hr))
      rw [ev] at e1
      refine ⟨M1, ?_, w1.cs, by rw [w1.2.1], fun a b c d e => by rw [q_ws_I w1]; exact hl a b c d e⟩
      rw [E_X6_ways]
      simp (disch := omega) only [q_ckt, q_lt, q_cI, q_cJ, q_cV, q_cP, q_xI, q_xV, q_xP, q_xJ, g_gk, g_ga, g_gw, g_gp, g_gq, g_P, g_J, q_I_s, q_I_n, q_I_k, nI_add, pk_sub, pk_mul, nI_clamp, n_lt0, n_0lt, n_eq0, n_lt, n_le, n_eq, n_m1, n_m2, n_m9, n_12, n_19, n_10, n_01, n_1n1, n_0n1, n_1n0, n_0n0, n_dI, n_m1lt, q_inb, n_nar, n_nar0, n_nar1, n_bool, Bool.false_eq_true, Bool.true_eq_false, if_true, if_false, ↓reduceIte, Nat.reduceAdd, Nat.reduceMul, Nat.reduceSub, Nat.reduceLT, Nat.reduceLeDiff, Nat.reduceEqDiff, Nat.reduceMod, Nat.reduceDiv, c_spg h.1.1 h.2.1, q_S h.1.1 (a := 12) (by decide), c_use h.1, z, q_E h.1.1, e1]
/-! what one may have asked -/
def k_co (K : Nat → Int32) (i : Nat) : Nat → Nat
  | 0 => 0
  | g + 1 => if k_al K (k_q K i) (nI g) (nI i) = true then k_co K i g ||| 2 ^ (g + 2) else k_co K i g
def k_op (K : Nat → Int32) (i : Nat) : Nat := if k_co K i (k_g K) = 0 then 2 else k_co K i (k_g K)
theorem k_co_lt {i : Nat} : ∀ n, n ≤ 6 → k_co K i n < 256
  | 0, _ => show 0 < 256 by decide
  | n + 1, h => by
    have ih := k_co_lt (i := i) n (by omega)
    unfold k_co
    split
    · exact Nat.or_lt_two_pow (n := 8) ih (Nat.pow_lt_pow_right (by decide) (by omega))
    · exact ih
theorem k_co_bit {i c : Nat} : ∀ n, (k_co K i n).testBit c = (decide (2 ≤ c ∧ c < n + 2) && k_al K (k_q K i) (nI (c - 2)) (nI i))
  | 0 => by
    show (0 : Nat).testBit c = _
    rw [Nat.zero_testBit, decide_eq_false (by omega)]
    rfl
  | n + 1 => by
    unfold k_co
    by_cases q : k_al K (k_q K i) (nI n) (nI i) = true
    · rw [if_pos q, Nat.testBit_or, k_co_bit n, n_p2b]
      by_cases q2 : n + 2 = c
      · rw [decide_eq_true q2, Bool.or_true, decide_eq_true (by omega), show c - 2 = n by omega, q]
        rfl
      · rw [decide_eq_false q2, Bool.or_false]
        by_cases q3 : 2 ≤ c ∧ c < n + 2
        · rw [decide_eq_true q3, decide_eq_true (by omega)]
        · rw [decide_eq_false q3, decide_eq_false (by omega)]
    · rw [if_neg q, k_co_bit n]
      by_cases q2 : n + 2 = c
      · rw [show c - 2 = n by omega, Bool.eq_false_iff.mpr q, Bool.and_false, Bool.and_false]
      · by_cases q3 : 2 ≤ c ∧ c < n + 2
        · rw [decide_eq_true q3, decide_eq_true (by omega)]
        · rw [decide_eq_false q3, decide_eq_false (by omega)]
theorem n_g2 : ∀ g, g < 8 → nI 1 <<< ((nI g - (-2 : Int32)) &&& 31) = nI (2 ^ (g + 2)) := by decide +kernel
theorem c_op (h : c_rl M 12 K) (hP : c_spP M) {i : Nat} (hi : i < k_m K) (hc : ir_I M 119 i = nI (k_ch K i (k_g K))) : m_X6_optionsAt (d + 2) 133 (nI i) M = ir_oI (nI (k_op K i)) M := by
  have hk := h.2.2.1
  have hb := k_bds hk
  have L := q_up (σ := ir_M) (V := fun x t => v_X6_optionsAt_4 (d + 1) 133 (nI i) (nI (k_co K i x)) (nI x) t) (N := k_g K) (I := fun _ t => t = M) (K := fun t => ir_oI (nI (k_op K i)) t) (by
    rintro x t hx rfl
    refine ⟨t, rfl, ?_⟩
    have ma := c_ma (d := d) h.1 hk hi hc hx
    show _ = v_X6_optionsAt_4 (d + 1) 133 (nI i) (nI (if k_al K (k_q K i) (nI x) (nI i) = true then _ else _)) (nI (x + 1)) t
    rw [L_X6_optionsAt_4]
    by_cases q : k_al K (k_q K i) (nI x) (nI i) = true
    · rw [if_pos q] at ma ⊢
      simp (disch := omega) only [q_ckt, q_lt, q_cI, q_cJ, q_cV, q_cP, q_xI, q_xV, q_xP, q_xJ, g_gk, g_ga, g_gw, g_gp, g_gq, g_P, g_J, q_I_s, q_I_n, q_I_k, nI_add, pk_sub, pk_mul, nI_clamp, n_lt0, n_0lt, n_eq0, n_lt, n_le, n_eq, n_m1, n_m2, n_m9, n_12, n_19, n_10, n_01, n_1n1, n_0n1, n_1n0, n_0n0, n_dI, n_m1lt, q_inb, n_nar, n_nar0, n_nar1, n_bool, Bool.false_eq_true, Bool.true_eq_false, if_true, if_false, ↓reduceIte, Nat.reduceAdd, Nat.reduceMul, Nat.reduceSub, Nat.reduceLT, Nat.reduceLeDiff, Nat.reduceEqDiff, Nat.reduceMod, Nat.reduceDiv, c_spg h.1 hP, q_T h.1, c_use h, hx, q_F h.1, ma, n_g2 x (by omega), n_or]
    · rw [if_neg q] at ma ⊢
      simp (disch := omega) only [q_ckt, q_lt, q_cI, q_cJ, q_cV, q_cP, q_xI, q_xV, q_xP, q_xJ, g_gk, g_ga, g_gw, g_gp, g_gq, g_P, g_J, q_I_s, q_I_n, q_I_k, nI_add, pk_sub, pk_mul, nI_clamp, n_lt0, n_0lt, n_eq0, n_lt, n_le, n_eq, n_m1, n_m2, n_m9, n_12, n_19, n_10, n_01, n_1n1, n_0n1, n_1n0, n_0n0, n_dI, n_m1lt, q_inb, n_nar, n_nar0, n_nar1, n_bool, Bool.false_eq_true, Bool.true_eq_false, if_true, if_false, ↓reduceIte, Nat.reduceAdd, Nat.reduceMul, Nat.reduceSub, Nat.reduceLT, Nat.reduceLeDiff, Nat.reduceEqDiff, Nat.reduceMod, Nat.reduceDiv, c_spg h.1 hP, q_T h.1, c_use h, hx, q_F h.1, ma]) (by
    rintro t rfl
    have cl := k_co_lt (K := K) (i := i) (k_g K) hb.1
    rw [L_X6_optionsAt_4]
    unfold k_op
    by_cases q : k_co K i (k_g K) = 0
    · rw [if_pos q]
      simp (disch := omega) only [q_ckt, q_lt, q_cI, q_cJ, q_cV, q_cP, q_xI, q_xV, q_xP, q_xJ, g_gk, g_ga, g_gw, g_gp, g_gq, g_P, g_J, q_I_s, q_I_n, q_I_k, nI_add, pk_sub, pk_mul, nI_clamp, n_lt0, n_0lt, n_eq0, n_lt, n_le, n_eq, n_m1, n_m2, n_m9, n_12, n_19, n_10, n_01, n_1n1, n_0n1, n_1n0, n_0n0, n_dI, n_m1lt, q_inb, n_nar, n_nar0, n_nar1, n_bool, Bool.false_eq_true, Bool.true_eq_false, if_true, if_false, ↓reduceIte, Nat.reduceAdd, Nat.reduceMul, Nat.reduceSub, Nat.reduceLT, Nat.reduceLeDiff, Nat.reduceEqDiff, Nat.reduceMod, Nat.reduceDiv, c_spg h.1 hP, q_T h.1, c_use h, Nat.lt_irrefl, q]
    · rw [if_neg q]
      simp (disch := omega) only [q_ckt, q_lt, q_cI, q_cJ, q_cV, q_cP, q_xI, q_xV, q_xP, q_xJ, g_gk, g_ga, g_gw, g_gp, g_gq, g_P, g_J, q_I_s, q_I_n, q_I_k, nI_add, pk_sub, pk_mul, nI_clamp, n_lt0, n_0lt, n_eq0, n_lt, n_le, n_eq, n_m1, n_m2, n_m9, n_12, n_19, n_10, n_01, n_1n1, n_0n1, n_1n0, n_0n0, n_dI, n_m1lt, q_inb, n_nar, n_nar0, n_nar1, n_bool, Bool.false_eq_true, Bool.true_eq_false, if_true, if_false, ↓reduceIte, Nat.reduceAdd, Nat.reduceMul, Nat.reduceSub, Nat.reduceLT, Nat.reduceLeDiff, Nat.reduceEqDiff, Nat.reduceMod, Nat.reduceDiv, c_spg h.1 hP, q_T h.1, c_use h, Nat.lt_irrefl, q]) (i := 0) (t := M) (by omega) rfl
  obtain ⟨t, rfl, ee⟩ := L
  exact (E_X6_optionsAt (d + 1) 133 _ t).trans ee
theorem q_st_P3 {k v : Nat} (hp : q_PI M) (h4 : k ≠ 4) (h5 : k ≠ 5) (hn : (q_pt.all fun l => l.all fun e => !(e.1 == 133 && e.2.1 == k)) = true) : q_st 0 M (ir_sP M 133 k v) := by
  have e : ∀ j, j ≠ k → ir_P (ir_sP M 133 k v) 133 j = ir_P M 133 j := fun j hj => p_Pk hj
  refine ⟨⟨⟨hp.1, fun l hl e he => ?_, ?_⟩, fun x hx => ⟨rfl, rfl, if_neg (show ¬ x = 133 by omega)⟩, Nat.le_refl _, Nat.le_refl _⟩, fun _ _ => rfl, ⟨fun _ _ _ => rfl, fun _ _ => rfl⟩, fun _ _ _ => rfl⟩
  · have h1 := List.all_eq_true.mp (List.all_eq_true.mp hn l hl) e he
    show ir_P (ir_sP M 133 k v) e.1 e.2.1 = e.2.2
    have old : ir_P M e.1 e.2.1 = e.2.2 := hp.2.1 l hl e he
    by_cases q : e.1 = 133
    · by_cases q2 : e.2.1 = k
      · rw [q, q2] at h1
        simp at h1
      · rw [← old, q, p_Pk q2]
    · rw [p_Pn q]
      exact old
  · have z := hp.2.2
    have a : (ir_sP M 133 k v).2.2.1 133 4 = M.2.2.1 133 4 := e 4 (fun w => h4 w.symm)
    have b : (ir_sP M 133 k v).2.2.1 133 5 = M.2.2.1 133 5 := e 5 (fun w => h5 w.symm)
    rw [a, b]
    exact z
theorem n_bst : ir_bst (ir_kd 137) (nI 0) = 0 ∧ ir_bst (ir_kd 137) (nI 1) = 1 := by decide +kernel
theorem c_sbg {t mn : Nat} {T : Nat → Int64} (h : c_rl M 12 K) (ht : c_tt M t mn T) (hmn : mn = k_m K) : ∃ M', m_X6_begin (d + 5) 133 4 12 116 (404 + 2 * t) M = ir_oV M' ∧ q_st 0 M M' ∧ c_sec2 K (fun i => (T i).toInt32) M' ∧ c_l3 K M' ∧ ∀ i, i < k_m K → ir_I M' 134 i = nI (k_op K i) ∧ k_op K i < 256 := by
  have hk := h.2.2.1
  have hb := k_bds hk
  obtain ⟨N1, e1⟩ : ∃ N, N = ir_sP M 133 6 4 := ⟨_, rfl⟩
  obtain ⟨N2, e2⟩ : ∃ N, N = ir_sP N1 133 7 12 := ⟨_, rfl⟩
  obtain ⟨N3, e3⟩ : ∃ N, N = ir_sP N2 133 8 116 := ⟨_, rfl⟩
  have s1 : q_st 0 M N1 := by rw [e1]; exact q_st_P3 h.1 (by decide) (by decide) (by decide +kernel)
  have s2 : q_st 0 N1 N2 := by rw [e2]; exact q_st_P3 s1.1.1 (by decide) (by decide) (by decide +kernel)
  have s3 : q_st 0 N2 N3 := by rw [e3]; exact q_st_P3 s2.1.1 (by decide) (by decide) (by decide +kernel)
  have s123 := (s1.tr s2).tr s3
  have P3 : c_spP N3 := by
    refine ⟨?_, ?_, ?_⟩
    · rw [e3, p_Pk (by decide), e2, p_Pk (by decide), e1, p_Ps]
    · rw [e3, p_Pk (by decide), e2, p_Ps]
    · rw [e3, p_Ps]
  have c3 := q_st_c s123 h
  obtain ⟨N4, e4, q4, a4⟩ := c_lc (d := d) c3
  have c4 := c_rl_eq c3 q4 (by decide)
  have P4 := c_spP_eq q4 P3
  obtain ⟨N5, e5, q5, a5, b5⟩ := c_lh (d := d + 2) (A := fun j => ir_I N4 117 (3 + j)) c4 (fun _ _ => rfl)
  have c5 := c_rl_eq c4 q5 (by decide)
  have P5 := c_spP_eq q5 P4
  have s5 : q_st 0 M N5 := (s123.tr (q_st_eq c3.1 q4 (by decide))).tr (q_st_eq c4.1 q5 (by decide))
  have t5 := c_tt_st ht s5
  have L := q_up (σ := ir_M) (V := fun x t' => v_X6_begin_48 (d + 4) 133 (404 + 2 * t) (nI x) t') (N := k_m K) (I := fun x t' => q_eq [134, 136, 137] N5 t' ∧ (∀ i, i < x → ir_I t' 134 i = nI (k_op K i)) ∧ (∀ i, i < x → ir_I t' 137 i = if (T i).toInt32 = -1 then 0 else 1) ∧ ∀ i, i < x → ir_I t' 136 i = if (T i).toInt32 = -2 then -1 else (T i).toInt32) (K := ir_oV) (by
    rintro x t' hx ⟨hq, g1, g2, g3⟩
    have ct := q_st_c (q_st_eq c5.1 hq (by decide)) c5
    have Pt := c_spP_eq hq P5
    have tt := c_tt_eq t5 hq (by decide)
    have op := c_op (d := d + 2) ct Pt hx (by rw [q_I_eq hq (by decide), q_I_eq q5 (by decide)]; exact a4 x hx)
    obtain ⟨u1, eu1⟩ : ∃ N, N = ir_sI t' 134 x (nI (k_op K x)) := ⟨_, rfl⟩
    have qu1 : q_eq [134, 136, 137] t' u1 := by rw [eu1]; exact q_eq.sI (by decide)
    have pu1 := q_PI_eq qu1 ct.1
    have tu1 := c_tt_eq tt qu1 (by decide)
    have na := c_na (d := d + 3) (i := t) (mn := mn) (k := x) pu1 tu1.1 tu1.2.2.2.1 tu1.2.1 (by omega)
    rw [tu1.2.2.2.2 x (by omega)] at na
    have gk := (q_Yt ct.1 tu1.1).1
    obtain ⟨n, en⟩ : ∃ n, n = (T x).toInt32 := ⟨_, rfl⟩
    obtain ⟨u2, eu2⟩ : ∃ N, N = ir_sI u1 137 x (if n = -1 then 0 else 1) := ⟨_, rfl⟩
    obtain ⟨u3, eu3⟩ : ∃ N, N = ir_sI u2 136 x (if n = -2 then -1 else n) := ⟨_, rfl⟩
    have qu3 : q_eq [134, 136, 137] u1 u3 := by rw [eu3, eu2]; exact (q_eq.sI (by decide)).tr (q_eq.sI (by decide))
    have pu2 : q_PI u2 := by rw [eu2]; exact pu1
    have f100 : ∀ v : Int32, (v = nI 0 ∧ n = -1) ∨ (v = nI 1 ∧ ¬ n = -1) → v_X6_begin_100 (d + 4) 133 (404 + 2 * t) (nI x) n 137 (nI x) v u1 = v_X6_begin_48 (d + 4) 133 (404 + 2 * t) (nI (x + 1)) u3 := fun v hv => by
      have eb : ir_bst (ir_kd 137) v = if n = -1 then 0 else 1 := by
        rcases hv with ⟨h1, h2⟩ | ⟨h1, h2⟩
        · rw [h1, if_pos h2]; exact n_bst.1
        · rw [h1, if_neg h2]; exact n_bst.2
      rw [L_X6_begin_100]
      by_cases q : n = -2
      · simp (disch := omega) only [q_ckt, q_lt, q_cI, q_cJ, q_cV, q_cP, q_xI, q_xV, q_xP, q_xJ, g_gk, g_ga, g_gw, g_gp, g_gq, g_P, g_J, q_I_s, q_I_n, q_I_k, nI_add, pk_sub, pk_mul, nI_clamp, n_lt0, n_0lt, n_eq0, n_lt, n_le, n_eq, n_m1, n_m2, n_m9, n_12, n_19, n_10, n_01, n_1n1, n_0n1, n_1n0, n_0n0, n_dI, n_m1lt, q_inb, n_nar, n_nar0, n_nar1, n_bool, Bool.false_eq_true, Bool.true_eq_false, if_true, if_false, ↓reduceIte, Nat.reduceAdd, Nat.reduceMul, Nat.reduceSub, Nat.reduceLT, Nat.reduceLeDiff, Nat.reduceEqDiff, Nat.reduceMod, Nat.reduceDiv, q_E pu1, Bool.or_true, eb]
        rw [← eu2, eu3]
        simp (disch := omega) only [q_ckt, q_lt, q_cI, q_cJ, q_cV, q_cP, q_xI, q_xV, q_xP, q_xJ, g_gk, g_ga, g_gw, g_gp, g_gq, g_P, g_J, q_I_s, q_I_n, q_I_k, nI_add, pk_sub, pk_mul, nI_clamp, n_lt0, n_0lt, n_eq0, n_lt, n_le, n_eq, n_m1, n_m2, n_m9, n_12, n_19, n_10, n_01, n_1n1, n_0n1, n_1n0, n_0n0, n_dI, n_m1lt, q_inb, n_nar, n_nar0, n_nar1, n_bool, Bool.false_eq_true, Bool.true_eq_false, if_true, if_false, ↓reduceIte, Nat.reduceAdd, Nat.reduceMul, Nat.reduceSub, Nat.reduceLT, Nat.reduceLeDiff, Nat.reduceEqDiff, Nat.reduceMod, Nat.reduceDiv, q_E pu2, q]
      · simp (disch := omega) only [q_ckt, q_lt, q_cI, q_cJ, q_cV, q_cP, q_xI, q_xV, q_xP, q_xJ, g_gk, g_ga, g_gw, g_gp, g_gq, g_P, g_J, q_I_s, q_I_n, q_I_k, nI_add, pk_sub, pk_mul, nI_clamp, n_lt0, n_0lt, n_eq0, n_lt, n_le, n_eq, n_m1, n_m2, n_m9, n_12, n_19, n_10, n_01, n_1n1, n_0n1, n_1n0, n_0n0, n_dI, n_m1lt, q_inb, n_nar, n_nar0, n_nar1, n_bool, Bool.false_eq_true, Bool.true_eq_false, if_true, if_false, ↓reduceIte, Nat.reduceAdd, Nat.reduceMul, Nat.reduceSub, Nat.reduceLT, Nat.reduceLeDiff, Nat.reduceEqDiff, Nat.reduceMod, Nat.reduceDiv, q_E pu1, Bool.or_true, eb]
        rw [← eu2, eu3]
        simp (disch := omega) only [q_ckt, q_lt, q_cI, q_cJ, q_cV, q_cP, q_xI, q_xV, q_xP, q_xJ, g_gk, g_ga, g_gw, g_gp, g_gq, g_P, g_J, q_I_s, q_I_n, q_I_k, nI_add, pk_sub, pk_mul, nI_clamp, n_lt0, n_0lt, n_eq0, n_lt, n_le, n_eq, n_m1, n_m2, n_m9, n_12, n_19, n_10, n_01, n_1n1, n_0n1, n_1n0, n_0n0, n_dI, n_m1lt, q_inb, n_nar, n_nar0, n_nar1, n_bool, Bool.false_eq_true, Bool.true_eq_false, if_true, if_false, ↓reduceIte, Nat.reduceAdd, Nat.reduceMul, Nat.reduceSub, Nat.reduceLT, Nat.reduceLeDiff, Nat.reduceEqDiff, Nat.reduceMod, Nat.reduceDiv, q_E pu2, q]
    refine ⟨u3, ⟨(hq.tr qu1).tr qu3, fun i hi => ?_, fun i hi => ?_, fun i hi => ?_⟩, ?_⟩
    · rw [eu3, q_I_n (by decide), eu2, q_I_n (by decide), eu1, q_I_u]
      by_cases q : i = x
      · rw [if_pos q, q]
      · rw [if_neg q]; exact g1 i (by omega)
    · rw [eu3, q_I_n (by decide), eu2, q_I_u]
      by_cases q : i = x
      · rw [if_pos q, q, en]
      · rw [if_neg q, eu1, q_I_n (by decide)]; exact g2 i (by omega)
    · rw [eu3, q_I_u]
      by_cases q : i = x
      · rw [if_pos q, q, en]
      · rw [if_neg q, eu2, q_I_n (by decide), eu1, q_I_n (by decide)]; exact g3 i (by omega)
    · rw [L_X6_begin_48]
      by_cases q : n = -1
      · simp (disch := omega) only [q_ckt, q_lt, q_cI, q_cJ, q_cV, q_cP, q_xI, q_xV, q_xP, q_xJ, g_gk, g_ga, g_gw, g_gp, g_gq, g_P, g_J, q_I_s, q_I_n, q_I_k, nI_add, pk_sub, pk_mul, nI_clamp, n_lt0, n_0lt, n_eq0, n_lt, n_le, n_eq, n_m1, n_m2, n_m9, n_12, n_19, n_10, n_01, n_1n1, n_0n1, n_1n0, n_0n0, n_dI, n_m1lt, q_inb, n_nar, n_nar0, n_nar1, n_bool, Bool.false_eq_true, Bool.true_eq_false, if_true, if_false, ↓reduceIte, Nat.reduceAdd, Nat.reduceMul, Nat.reduceSub, Nat.reduceLT, Nat.reduceLeDiff, Nat.reduceEqDiff, Nat.reduceMod, Nat.reduceDiv, c_spg ct.1 Pt, q_S ct.1 (a := 12) (by decide), c_use ct, hx, q_E ct.1, op]
        rw [← eu1]
        simp (disch := omega) only [q_ckt, q_lt, q_cI, q_cJ, q_cV, q_cP, q_xI, q_xV, q_xP, q_xJ, g_gk, g_ga, g_gw, g_gp, g_gq, g_P, g_J, q_I_s, q_I_n, q_I_k, nI_add, pk_sub, pk_mul, nI_clamp, n_lt0, n_0lt, n_eq0, n_lt, n_le, n_eq, n_m1, n_m2, n_m9, n_12, n_19, n_10, n_01, n_1n1, n_0n1, n_1n0, n_0n0, n_dI, n_m1lt, q_inb, n_nar, n_nar0, n_nar1, n_bool, Bool.false_eq_true, Bool.true_eq_false, if_true, if_false, ↓reduceIte, Nat.reduceAdd, Nat.reduceMul, Nat.reduceSub, Nat.reduceLT, Nat.reduceLeDiff, Nat.reduceEqDiff, Nat.reduceMod, Nat.reduceDiv, gk, na, q_E pu1, ← en, q]
        rw [← q]
        exact f100 _ (Or.inl ⟨rfl, q⟩)
      · simp (disch := omega) only [q_ckt, q_lt, q_cI, q_cJ, q_cV, q_cP, q_xI, q_xV, q_xP, q_xJ, g_gk, g_ga, g_gw, g_gp, g_gq, g_P, g_J, q_I_s, q_I_n, q_I_k, nI_add, pk_sub, pk_mul, nI_clamp, n_lt0, n_0lt, n_eq0, n_lt, n_le, n_eq, n_m1, n_m2, n_m9, n_12, n_19, n_10, n_01, n_1n1, n_0n1, n_1n0, n_0n0, n_dI, n_m1lt, q_inb, n_nar, n_nar0, n_nar1, n_bool, Bool.false_eq_true, Bool.true_eq_false, if_true, if_false, ↓reduceIte, Nat.reduceAdd, Nat.reduceMul, Nat.reduceSub, Nat.reduceLT, Nat.reduceLeDiff, Nat.reduceEqDiff, Nat.reduceMod, Nat.reduceDiv, c_spg ct.1 Pt, q_S ct.1 (a := 12) (by decide), c_use ct, hx, q_E ct.1, op]
        rw [← eu1]
        simp (disch := omega) only [q_ckt, q_lt, q_cI, q_cJ, q_cV, q_cP, q_xI, q_xV, q_xP, q_xJ, g_gk, g_ga, g_gw, g_gp, g_gq, g_P, g_J, q_I_s, q_I_n, q_I_k, nI_add, pk_sub, pk_mul, nI_clamp, n_lt0, n_0lt, n_eq0, n_lt, n_le, n_eq, n_m1, n_m2, n_m9, n_12, n_19, n_10, n_01, n_1n1, n_0n1, n_1n0, n_0n0, n_dI, n_m1lt, q_inb, n_nar, n_nar0, n_nar1, n_bool, Bool.false_eq_true, Bool.true_eq_false, if_true, if_false, ↓reduceIte, Nat.reduceAdd, Nat.reduceMul, Nat.reduceSub, Nat.reduceLT, Nat.reduceLeDiff, Nat.reduceEqDiff, Nat.reduceMod, Nat.reduceDiv, gk, na, q_E pu1, ← en, q]
        exact f100 _ (Or.inr ⟨rfl, q⟩)) (by
    rintro t' ⟨hq, -⟩
    have ct := q_st_c (q_st_eq c5.1 hq (by decide)) c5
    have Pt := c_spP_eq hq P5
    rw [L_X6_begin_48]
    simp (disch := omega) only [q_ckt, q_lt, q_cI, q_cJ, q_cV, q_cP, q_xI, q_xV, q_xP, q_xJ, g_gk, g_ga, g_gw, g_gp, g_gq, g_P, g_J, q_I_s, q_I_n, q_I_k, nI_add, pk_sub, pk_mul, nI_clamp, n_lt0, n_0lt, n_eq0, n_lt, n_le, n_eq, n_m1, n_m2, n_m9, n_12, n_19, n_10, n_01, n_1n1, n_0n1, n_1n0, n_0n0, n_dI, n_m1lt, q_inb, n_nar, n_nar0, n_nar1, n_bool, Bool.false_eq_true, Bool.true_eq_false, if_true, if_false, ↓reduceIte, Nat.reduceAdd, Nat.reduceMul, Nat.reduceSub, Nat.reduceLT, Nat.reduceLeDiff, Nat.reduceEqDiff, Nat.reduceMod, Nat.reduceDiv, c_spg ct.1 Pt, q_S ct.1 (a := 12) (by decide), c_use ct, Nat.lt_irrefl]) (i := 0) (t := N5) (by omega) ⟨q_eq.rf _ _, fun i hi => absurd hi (by omega), fun i hi => absurd hi (by omega), fun i hi => absurd hi (by omega)⟩
  obtain ⟨N6, ⟨q6, g1, g2, g3⟩, e6⟩ := L
  have s6 := s5.tr (q_st_eq c5.1 q6 (by decide))
  refine ⟨N6, ?_, s6, ⟨q_st_c s6 h, c_spP_eq q6 P5, g2, g3⟩, fun hr m0 b h1 h3 => ?_, fun i hi => ⟨g1 i hi, ?_⟩⟩
  · have gv1 : ir_gv M 133 6 4 = true := q_gv0 h.1 rfl
    have gv2 : ir_gv N1 133 6 12 = true := q_gv0 s1.1.1 rfl
    have gv3 : ir_gv N2 133 6 116 = true := q_gv0 s2.1.1 rfl
    rw [E_X6_begin]
    simp (disch := omega) only [q_ckt, q_lt, q_cI, q_cJ, q_cV, q_cP, q_xI, q_xV, q_xP, q_xJ, g_gk, g_ga, g_gw, g_gp, g_gq, g_P, g_J, q_I_s, q_I_n, q_I_k, nI_add, pk_sub, pk_mul, nI_clamp, n_lt0, n_0lt, n_eq0, n_lt, n_le, n_eq, n_m1, n_m2, n_m9, n_12, n_19, n_10, n_01, n_1n1, n_0n1, n_1n0, n_0n0, n_dI, n_m1lt, q_inb, n_nar, n_nar0, n_nar1, n_bool, Bool.false_eq_true, Bool.true_eq_false, if_true, if_false, ↓reduceIte, Nat.reduceAdd, Nat.reduceMul, Nat.reduceSub, Nat.reduceLT, Nat.reduceLeDiff, Nat.reduceEqDiff, Nat.reduceMod, Nat.reduceDiv, gv1]
    rw [← e1]
    simp (disch := omega) only [q_ckt, q_lt, q_cI, q_cJ, q_cV, q_cP, q_xI, q_xV, q_xP, q_xJ, g_gk, g_ga, g_gw, g_gp, g_gq, g_P, g_J, q_I_s, q_I_n, q_I_k, nI_add, pk_sub, pk_mul, nI_clamp, n_lt0, n_0lt, n_eq0, n_lt, n_le, n_eq, n_m1, n_m2, n_m9, n_12, n_19, n_10, n_01, n_1n1, n_0n1, n_1n0, n_0n0, n_dI, n_m1lt, q_inb, n_nar, n_nar0, n_nar1, n_bool, Bool.false_eq_true, Bool.true_eq_false, if_true, if_false, ↓reduceIte, Nat.reduceAdd, Nat.reduceMul, Nat.reduceSub, Nat.reduceLT, Nat.reduceLeDiff, Nat.reduceEqDiff, Nat.reduceMod, Nat.reduceDiv, gv2]
    rw [← e2]
    simp (disch := omega) only [q_ckt, q_lt, q_cI, q_cJ, q_cV, q_cP, q_xI, q_xV, q_xP, q_xJ, g_gk, g_ga, g_gw, g_gp, g_gq, g_P, g_J, q_I_s, q_I_n, q_I_k, nI_add, pk_sub, pk_mul, nI_clamp, n_lt0, n_0lt, n_eq0, n_lt, n_le, n_eq, n_m1, n_m2, n_m9, n_12, n_19, n_10, n_01, n_1n1, n_0n1, n_1n0, n_0n0, n_dI, n_m1lt, q_inb, n_nar, n_nar0, n_nar1, n_bool, Bool.false_eq_true, Bool.true_eq_false, if_true, if_false, ↓reduceIte, Nat.reduceAdd, Nat.reduceMul, Nat.reduceSub, Nat.reduceLT, Nat.reduceLeDiff, Nat.reduceEqDiff, Nat.reduceMod, Nat.reduceDiv, gv3]
    rw [← e3]
    simp (disch := omega) only [q_ckt, q_lt, q_cI, q_cJ, q_cV, q_cP, q_xI, q_xV, q_xP, q_xJ, g_gk, g_ga, g_gw, g_gp, g_gq, g_P, g_J, q_I_s, q_I_n, q_I_k, nI_add, pk_sub, pk_mul, nI_clamp, n_lt0, n_0lt, n_eq0, n_lt, n_le, n_eq, n_m1, n_m2, n_m9, n_12, n_19, n_10, n_01, n_1n1, n_0n1, n_1n0, n_0n0, n_dI, n_m1lt, q_inb, n_nar, n_nar0, n_nar1, n_bool, Bool.false_eq_true, Bool.true_eq_false, if_true, if_false, ↓reduceIte, Nat.reduceAdd, Nat.reduceMul, Nat.reduceSub, Nat.reduceLT, Nat.reduceLeDiff, Nat.reduceEqDiff, Nat.reduceMod, Nat.reduceDiv, c_spg c3.1 P3, q_F c3.1, e4, c_spg c4.1 P4, q_F c4.1, e5]
    exact e6
  · rw [q_I_eq q6 (by decide)]
    exact (b5 m0 b h1 h3).trans (k_bk_n hr)
  · unfold k_op
    split
    · decide
    · exact k_co_lt _ hb.1
end SR
