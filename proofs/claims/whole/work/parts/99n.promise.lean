/-! promises -/
def k_pA (K : Nat → Int32) (S j : Nat) : Int32 := if S.testBit (k_q K j) = true then (match (k_ks K (k_as K) j true (k_g K)).1 with | some g => nI g | none => k_as K j) else k_as K j
def k_pm (K : Nat → Int32) (S : Nat) : Nat → Int32 := fun k => if 18 ≤ k ∧ k < 26 ∧ S.testBit (k - 18) = true then (match k_pl K (k - 18) with | some j => (match (k_ks K (k_as K) j true (k_g K)).1 with | some g => nI g | none => K k) | none => K k) else K k
section PR
variable {K : Nat → Int32} {S : Nat}
theorem k_pm_sa : k_sa K (k_pm K S) := fun k hk => if_neg (by omega)
theorem k_pm_q (hk : k_ok K) {j : Nat} (hj : j < k_m K) : k_pm K S (18 + k_q K j) = if S.testBit (k_q K j) = true then (match (k_ks K (k_as K) j true (k_g K)).1 with | some g => nI g | none => K (18 + k_q K j)) else K (18 + k_q K j) := by
  have hb := k_bds hk
  have hq := k_qn hk hj
  unfold k_pm
  rw [show 18 + k_q K j - 18 = k_q K j by omega]
  by_cases q : S.testBit (k_q K j) = true
  · rw [if_pos ⟨by omega, by omega, q⟩, if_pos q, k_pl_q hk hj]
  · rw [if_neg (fun w => q w.2.2), if_neg q]
theorem k_pm_ok (hk : k_ok K) : k_ok (k_pm K S) := by
  have hb := k_bds hk
  refine k_ok_a hk k_pm_sa fun p hp => ?_
  have old : ∃ g, g < k_g K ∧ K (18 + p) = nI g := ⟨k_a K p, k_ag hk hp, (k_use hk).2.2.2.2.2.2 p hp⟩
  unfold k_pm
  by_cases q : 18 ≤ 18 + p ∧ 18 + p < 26 ∧ S.testBit (18 + p - 18) = true
  · rw [if_pos q]
    cases e : k_pl K (18 + p - 18) with
    | none => exact old
    | some j =>
      dsimp only
      cases e2 : (k_ks K (k_as K) j true (k_g K)).1 with
      | none => exact old
      | some g => exact ⟨g, (k_ks_lt _ e2).1, rfl⟩
  · rw [if_neg q]
    exact old
theorem k_pm_as (hk : k_ok K) {j : Nat} (hj : j < k_m K) : k_as (k_pm K S) j = k_pA K S j := by
  have hb := k_bds hk
  have e := k_pm_q (S := S) hk hj
  unfold k_as k_pA
  rw [k_sa_q k_pm_sa (by omega), k_sa_al k_pm_sa]
  unfold k_a
  rw [e]
  have old : (if k_al K (k_q K j) (nI ((K (18 + k_q K j)).toNatClampNeg)) (nI j) = true then nI ((K (18 + k_q K j)).toNatClampNeg) else -1) = k_as K j := rfl
  by_cases q : S.testBit (k_q K j) = true
  · rw [if_pos q, if_pos q]
    cases e2 : (k_ks K (k_as K) j true (k_g K)).1 with
    | none => exact old
    | some g =>
      obtain ⟨hg, hal⟩ := k_ks_lt _ e2
      dsimp only
      rw [nI_clamp (by omega), if_pos hal]
  · rw [if_neg q, if_neg q]
    exact old
theorem k_pA_gd (hk : k_ok K) {j : Nat} (hj : j < k_m K) : k_gd K (k_pA K S j) := by
  unfold k_pA
  split
  · cases e2 : (k_ks K (k_as K) j true (k_g K)).1 with
    | none => exact k_as_gd hk hj
    | some g => exact k_gd_na (k_ks_lt _ e2).1
  · exact k_as_gd hk hj
theorem c_mkp {M : ir_M} {d : Nat} (h : c_rl M 12 K) (hw : k_wf K) (hA : ∀ j, j < k_m K → ir_I M 117 (3 + j) = k_as K j) (hc : ∀ j, j < k_m K → ir_I M 119 j = nI (k_ch K j (k_g K))) : ∃ t, m_X11_makePromise (d + 5) 1 (nI S) M = ir_oV t ∧ q_eq [91, 92, 93, 94, 95, 96, 117, 118] M t ∧ (∀ j, j < k_m K → ir_I t 117 (3 + j) = k_pA K S j) ∧ (∀ j, j < k_m K → ir_I t 118 j = k_fr K (k_pA K S) j) ∧ ∀ j, j < k_m K → ir_I t 95 (k_q K j) = k_fw K (k_td K) j := by
  have hk := h.2.2.1
  have hb := k_bds hk
  obtain ⟨M1, q1, c1, e1⟩ : ∃ M1, q_eq [] M M1 ∧ c_rl M1 12 K ∧ M1 = M := ⟨M, q_eq.rf _ _, h, rfl⟩
  have inj : ∀ i j, i < k_m K → j < k_m K → k_q K i = k_q K j → i = j := fun i j hi hj e => hk.2.2.2.2.2.1 i j hi hj e
  have L1 := q_up (σ := ir_M) (V := fun x t => v_X11_makePromise_2 (d + 4) 1 (nI S) (nI x) t) (N := k_m K) (I := fun x t => q_eq [93, 117, 118] M1 t ∧ (∀ j, j < k_m K → ir_I t 117 (3 + j) = k_as K j) ∧ ∀ j, j < x → ir_I t 93 (k_q K j) = k_pA K S j) (K := fun t => v_X11_makePromise_2 (d + 4) 1 (nI S) (nI (k_m K)) t) (by
    rintro x t hx ⟨hq, hr, hs⟩
    have ct := q_st_c (q_st_eq c1.1 hq (by decide)) c1
    have hu := c_use ct
    have hqx := k_qn hk hx
    have fin : ∀ (u : ir_M) (v : Int32), q_eq [117, 118] t u → (∀ j, j < k_m K → ir_I u 117 (3 + j) = k_as K j) → v_X11_makePromise_41 (d + 4) 1 (nI S) (nI x) (nI (k_q K x)) v u = v_X11_makePromise_2 (d + 4) 1 (nI S) (nI (x + 1)) (ir_sI u 93 (k_q K x) (if v = -1 then k_as K x else v)) := fun u v qu ru => by
      have cu := q_st_c (q_st_eq ct.1 qu (by decide)) ct
      rw [L_X11_makePromise_41]
      by_cases qv : v = -1
      · simp (disch := omega) only [q_ckt, q_lt, q_cI, q_cJ, q_cV, q_cP, q_xI, q_xV, q_xP, q_xJ, g_gk, g_ga, g_gw, g_gp, g_gq, g_P, g_J, q_I_s, q_I_n, q_I_k, nI_add, pk_sub, pk_mul, nI_clamp, n_lt0, n_0lt, n_eq0, n_lt, n_le, n_eq, n_m1, n_m2, n_m9, n_12, n_19, n_10, n_01, n_1n1, n_0n1, n_1n0, n_0n0, n_dI, n_m1lt, q_inb, n_nar, n_nar0, n_nar1, n_bool, Bool.false_eq_true, Bool.true_eq_false, if_true, if_false, ↓reduceIte, Nat.reduceAdd, Nat.reduceMul, Nat.reduceSub, Nat.reduceLT, Nat.reduceLeDiff, Nat.reduceEqDiff, Nat.reduceMod, Nat.reduceDiv, q_W cu.1, q_S cu.1 (a := 91) (by decide), qv, q_F cu.1, ru x hx]
      · simp (disch := omega) only [q_ckt, q_lt, q_cI, q_cJ, q_cV, q_cP, q_xI, q_xV, q_xP, q_xJ, g_gk, g_ga, g_gw, g_gp, g_gq, g_P, g_J, q_I_s, q_I_n, q_I_k, nI_add, pk_sub, pk_mul, nI_clamp, n_lt0, n_0lt, n_eq0, n_lt, n_le, n_eq, n_m1, n_m2, n_m9, n_12, n_19, n_10, n_01, n_1n1, n_0n1, n_1n0, n_0n0, n_dI, n_m1lt, q_inb, n_nar, n_nar0, n_nar1, n_bool, Bool.false_eq_true, Bool.true_eq_false, if_true, if_false, ↓reduceIte, Nat.reduceAdd, Nat.reduceMul, Nat.reduceSub, Nat.reduceLT, Nat.reduceLeDiff, Nat.reduceEqDiff, Nat.reduceMod, Nat.reduceDiv, q_W cu.1, q_S cu.1 (a := 91) (by decide), qv]
    have done : ∀ (u : ir_M) (v : Int32), q_eq [117, 118] t u → (∀ j, j < k_m K → ir_I u 117 (3 + j) = k_as K j) → (if v = -1 then k_as K x else v) = k_pA K S x → (q_eq [93, 117, 118] M1 (ir_sI u 93 (k_q K x) (if v = -1 then k_as K x else v)) ∧ (∀ j, j < k_m K → ir_I (ir_sI u 93 (k_q K x) (if v = -1 then k_as K x else v)) 117 (3 + j) = k_as K j) ∧ ∀ j, j < x + 1 → ir_I (ir_sI u 93 (k_q K x) (if v = -1 then k_as K x else v)) 93 (k_q K j) = k_pA K S j) := fun u v qu ru ev => by
      refine ⟨(hq.tr (qu.sub (by decide))).tr (q_eq.sI (by decide)), fun j hj => (q_I_n (by decide)).trans (ru j hj), fun j hj => ?_⟩
      rw [q_I_u, ev]
      by_cases q : j = x
      · rw [if_pos (by rw [q]), q]
      · rw [if_neg (fun w => q (inj j x (by omega) hx w)), q_I_eq qu (by decide)]
        exact hs j (by omega)
    by_cases qs : S.testBit (k_q K x) = true
    · have cc : ∀ j, j < k_m K → ir_I t 119 j = nI (k_ch K j (k_g K)) := fun j hj => by rw [q_I_eq hq (by decide), q_I_eq q1 (by decide)]; exact hc j hj
      obtain ⟨u, e2, q2, r2⟩ := c_ka (d := d) ct hw hr (fun j hj => k_as_gd hk hj) cc hx true
      rw [if_pos rfl, show (1 : Int32) = nI 1 from rfl] at e2
      have ev : (if k_on (k_ks K (k_as K) x true (k_g K)).1 = -1 then k_as K x else k_on (k_ks K (k_as K) x true (k_g K)).1) = k_pA K S x := by
        unfold k_pA
        rw [if_pos qs]
        cases e3 : (k_ks K (k_as K) x true (k_g K)).1 with
        | none => rfl
        | some g =>
          have := (k_ks_lt _ e3).1
          show (if nI g = -1 then k_as K x else nI g) = nI g
          rw [if_neg (n_m (k := 1) (by decide +kernel) (by decide) (by omega))]
      refine ⟨_, done u _ q2 r2 ev, ?_⟩
      rw [L_X11_makePromise_2]
      simp (disch := omega) only [q_ckt, q_lt, q_cI, q_cJ, q_cV, q_cP, q_xI, q_xV, q_xP, q_xJ, g_gk, g_ga, g_gw, g_gp, g_gq, g_P, g_J, q_I_s, q_I_n, q_I_k, nI_add, pk_sub, pk_mul, nI_clamp, n_lt0, n_0lt, n_eq0, n_lt, n_le, n_eq, n_m1, n_m2, n_m9, n_12, n_19, n_10, n_01, n_1n1, n_0n1, n_1n0, n_0n0, n_dI, n_m1lt, q_inb, n_nar, n_nar0, n_nar1, n_bool, Bool.false_eq_true, Bool.true_eq_false, if_true, if_false, ↓reduceIte, Nat.reduceAdd, Nat.reduceMul, Nat.reduceSub, Nat.reduceLT, Nat.reduceLeDiff, Nat.reduceEqDiff, Nat.reduceMod, Nat.reduceDiv, q_W ct.1, q_S ct.1 (a := 12) (by decide), hu, hx, n_bit, n_bt, qs, e2]
      exact fin u _ q2 r2
    · have ev : (if (-1 : Int32) = -1 then k_as K x else -1) = k_pA K S x := by
        unfold k_pA
        rw [if_neg qs, if_pos rfl]
      refine ⟨_, done t (-1) (q_eq.rf _ _) hr ev, ?_⟩
      rw [L_X11_makePromise_2]
      simp (disch := omega) only [q_ckt, q_lt, q_cI, q_cJ, q_cV, q_cP, q_xI, q_xV, q_xP, q_xJ, g_gk, g_ga, g_gw, g_gp, g_gq, g_P, g_J, q_I_s, q_I_n, q_I_k, nI_add, pk_sub, pk_mul, nI_clamp, n_lt0, n_0lt, n_eq0, n_lt, n_le, n_eq, n_m1, n_m2, n_m9, n_12, n_19, n_10, n_01, n_1n1, n_0n1, n_1n0, n_0n0, n_dI, n_m1lt, q_inb, n_nar, n_nar0, n_nar1, n_bool, Bool.false_eq_true, Bool.true_eq_false, if_true, if_false, ↓reduceIte, Nat.reduceAdd, Nat.reduceMul, Nat.reduceSub, Nat.reduceLT, Nat.reduceLeDiff, Nat.reduceEqDiff, Nat.reduceMod, Nat.reduceDiv, q_W ct.1, q_S ct.1 (a := 12) (by decide), hu, hx, n_bit, n_bt, Bool.eq_false_iff.mpr qs]
      exact fin t (-1) (q_eq.rf _ _) hr) (by
    rintro t ⟨hq, hr, hs⟩
    rfl) (i := 0) (t := M1) (by omega) ⟨q_eq.rf _ _, fun j hj => by rw [q_I_eq q1 (by decide)]; exact hA j hj, fun j hj => absurd hj (by omega)⟩
  obtain ⟨M2, ⟨q2, r2, s2⟩, e2⟩ := L1
  have c2 := q_st_c (q_st_eq c1.1 q2 (by decide)) c1
  obtain ⟨M3, e3, q3, r3, f3⟩ := c_fr (d := d + 1) c2 r2
  have c3 := c_rl_eq c2 q3 (by decide)
  have s3 : ∀ j, j < k_m K → ir_I M3 93 (k_q K j) = k_pA K S j := fun j hj => by rw [q_I_eq q3 (by decide)]; exact s2 j hj
  have L2 := q_up (σ := ir_M) (V := fun x t => v_X11_makePromise_104 (d + 4) 1 (nI x) t) (N := k_m K) (I := fun x t => q_eq [95] M3 t ∧ ∀ j, j < x → ir_I t 95 (k_q K j) = k_fw K (k_td K) j) (K := fun t => v_X11_makePromise_156 (d + 4) 1 (nI 0) t) (by
    rintro x t hx ⟨hq, hs⟩
    have ct := q_st_c (q_st_eq c3.1 hq (by decide)) c3
    have hqx := k_qn hk hx
    have wa := c_wa (d := d + 2) (Fl := k_td K) ct hx (by rw [q_I_eq hq (by decide)]; exact f3 x hx) (k_td_gd hk hx)
    refine ⟨ir_sI t 95 (k_q K x) (k_fw K (k_td K) x), ⟨hq.tr (q_eq.sI (by decide)), fun j hj => ?_⟩, ?_⟩
    · rw [q_I_u]
      by_cases q : j = x
      · rw [if_pos (by rw [q]), q]
      · rw [if_neg (fun w => q (inj j x (by omega) hx w))]
        exact hs j (by omega)
    · rw [L_X11_makePromise_104]
      simp (disch := omega) only [q_ckt, q_lt, q_cI, q_cJ, q_cV, q_cP, q_xI, q_xV, q_xP, q_xJ, g_gk, g_ga, g_gw, g_gp, g_gq, g_P, g_J, q_I_s, q_I_n, q_I_k, nI_add, pk_sub, pk_mul, nI_clamp, n_lt0, n_0lt, n_eq0, n_lt, n_le, n_eq, n_m1, n_m2, n_m9, n_12, n_19, n_10, n_01, n_1n1, n_0n1, n_1n0, n_0n0, n_dI, n_m1lt, q_inb, n_nar, n_nar0, n_nar1, n_bool, Bool.false_eq_true, Bool.true_eq_false, if_true, if_false, ↓reduceIte, Nat.reduceAdd, Nat.reduceMul, Nat.reduceSub, Nat.reduceLT, Nat.reduceLeDiff, Nat.reduceEqDiff, Nat.reduceMod, Nat.reduceDiv, q_W ct.1, q_S ct.1 (a := 12) (by decide), q_S ct.1 (a := 91) (by decide), c_use ct, hx, q_F ct.1, wa]) (by
    rintro t ⟨hq, hs⟩
    have ct := q_st_c (q_st_eq c3.1 hq (by decide)) c3
    rw [L_X11_makePromise_104]
    simp (disch := omega) only [q_ckt, q_lt, q_cI, q_cJ, q_cV, q_cP, q_xI, q_xV, q_xP, q_xJ, g_gk, g_ga, g_gw, g_gp, g_gq, g_P, g_J, q_I_s, q_I_n, q_I_k, nI_add, pk_sub, pk_mul, nI_clamp, n_lt0, n_0lt, n_eq0, n_lt, n_le, n_eq, n_m1, n_m2, n_m9, n_12, n_19, n_10, n_01, n_1n1, n_0n1, n_1n0, n_0n0, n_dI, n_m1lt, q_inb, n_nar, n_nar0, n_nar1, n_bool, Bool.false_eq_true, Bool.true_eq_false, if_true, if_false, ↓reduceIte, Nat.reduceAdd, Nat.reduceMul, Nat.reduceSub, Nat.reduceLT, Nat.reduceLeDiff, Nat.reduceEqDiff, Nat.reduceMod, Nat.reduceDiv, q_W ct.1, q_S ct.1 (a := 12) (by decide), c_use ct, Nat.lt_irrefl]) (i := 0) (t := M3) (by omega) ⟨q_eq.rf _ _, fun j hj => absurd hj (by omega)⟩
  obtain ⟨M4, ⟨q4, s4⟩, e4⟩ := L2
  have c4 := q_st_c (q_st_eq c3.1 q4 (by decide)) c3
  have p4 : ∀ j, j < k_m K → ir_I M4 93 (k_q K j) = k_pA K S j := fun j hj => by rw [q_I_eq q4 (by decide)]; exact s3 j hj
  have L3 := q_up (σ := ir_M) (V := fun x t => v_X11_makePromise_156 (d + 4) 1 (nI x) t) (N := k_m K) (I := fun x t => q_eq [117] M4 t ∧ ∀ j, j < x → ir_I t 117 (3 + j) = k_pA K S j) (K := fun t => v_X11_makePromise_156 (d + 4) 1 (nI (k_m K)) t) (by
    rintro x t hx ⟨hq, hs⟩
    have ct := c_rl_eq c4 hq (by decide)
    have hqx := k_qn hk hx
    have px : ir_I t 93 (k_q K x) = k_pA K S x := by rw [q_I_eq hq (by decide)]; exact p4 x hx
    refine ⟨ir_sI t 117 (3 + x) (k_pA K S x), ⟨hq.tr (q_eq.sI (by decide)), fun j hj => ?_⟩, ?_⟩
    · rw [q_I_u]
      by_cases q : j = x
      · rw [if_pos (by omega), q]
      · rw [if_neg (by omega)]
        exact hs j (by omega)
    · rw [L_X11_makePromise_156]
      simp (disch := omega) only [q_ckt, q_lt, q_cI, q_cJ, q_cV, q_cP, q_xI, q_xV, q_xP, q_xJ, g_gk, g_ga, g_gw, g_gp, g_gq, g_P, g_J, q_I_s, q_I_n, q_I_k, nI_add, pk_sub, pk_mul, nI_clamp, n_lt0, n_0lt, n_eq0, n_lt, n_le, n_eq, n_m1, n_m2, n_m9, n_12, n_19, n_10, n_01, n_1n1, n_0n1, n_1n0, n_0n0, n_dI, n_m1lt, q_inb, n_nar, n_nar0, n_nar1, n_bool, Bool.false_eq_true, Bool.true_eq_false, if_true, if_false, ↓reduceIte, Nat.reduceAdd, Nat.reduceMul, Nat.reduceSub, Nat.reduceLT, Nat.reduceLeDiff, Nat.reduceEqDiff, Nat.reduceMod, Nat.reduceDiv, q_W ct.1, q_S ct.1 (a := 12) (by decide), q_S ct.1 (a := 91) (by decide), c_use ct, hx, q_F ct.1, px]) (by
    rintro t ⟨hq, hs⟩
    rfl) (i := 0) (t := M4) (by omega) ⟨q_eq.rf _ _, fun j hj => absurd hj (by omega)⟩
  obtain ⟨M5, ⟨q5, s5⟩, e5⟩ := L3
  have c5 := c_rl_eq c4 q5 (by decide)
  obtain ⟨M6, e6, q6, r6, f6⟩ := c_fr (d := d + 1) c5 s5
  refine ⟨M6, ?_, ((((q1.sub (by decide)).tr (q2.sub (by decide))).tr (q3.sub (by decide))).tr (q4.sub (by decide))).tr ((q5.sub (by decide)).tr (q6.sub (by decide))), r6, f6, fun j hj => ?_⟩
  · rw [E_X11_makePromise]
    rw [← e1, e2, L_X11_makePromise_2]
    simp (disch := omega) only [q_ckt, q_lt, q_cI, q_cJ, q_cV, q_cP, q_xI, q_xV, q_xP, q_xJ, g_gk, g_ga, g_gw, g_gp, g_gq, g_P, g_J, q_I_s, q_I_n, q_I_k, nI_add, pk_sub, pk_mul, nI_clamp, n_lt0, n_0lt, n_eq0, n_lt, n_le, n_eq, n_m1, n_m2, n_m9, n_12, n_19, n_10, n_01, n_1n1, n_0n1, n_1n0, n_0n0, n_dI, n_m1lt, q_inb, n_nar, n_nar0, n_nar1, n_bool, Bool.false_eq_true, Bool.true_eq_false, if_true, if_false, ↓reduceIte, Nat.reduceAdd, Nat.reduceMul, Nat.reduceSub, Nat.reduceLT, Nat.reduceLeDiff, Nat.reduceEqDiff, Nat.reduceMod, Nat.reduceDiv, q_W c2.1, q_S c2.1 (a := 12) (by decide), c_use c2, Nat.lt_irrefl, q_T c2.1, q_F c2.1, e3]
    rw [e4, e5, L_X11_makePromise_156]
    simp (disch := omega) only [q_ckt, q_lt, q_cI, q_cJ, q_cV, q_cP, q_xI, q_xV, q_xP, q_xJ, g_gk, g_ga, g_gw, g_gp, g_gq, g_P, g_J, q_I_s, q_I_n, q_I_k, nI_add, pk_sub, pk_mul, nI_clamp, n_lt0, n_0lt, n_eq0, n_lt, n_le, n_eq, n_m1, n_m2, n_m9, n_12, n_19, n_10, n_01, n_1n1, n_0n1, n_1n0, n_0n0, n_dI, n_m1lt, q_inb, n_nar, n_nar0, n_nar1, n_bool, Bool.false_eq_true, Bool.true_eq_false, if_true, if_false, ↓reduceIte, Nat.reduceAdd, Nat.reduceMul, Nat.reduceSub, Nat.reduceLT, Nat.reduceLeDiff, Nat.reduceEqDiff, Nat.reduceMod, Nat.reduceDiv, q_W c5.1, q_S c5.1 (a := 12) (by decide), c_use c5, Nat.lt_irrefl, q_T c5.1, q_F c5.1, e6]
  · rw [q_I_eq q6 (by decide), q_I_eq q5 (by decide)]
    exact s4 j hj
/-! what comes of it -/
def k_ph (K : Nat → Int32) (S j : Nat) : Bool := S.testBit (k_q K j) && decide (k_fw K (k_fr K (k_pA K S)) j < k_fw K (k_td K) j)
def k_pgn (K : Nat → Int32) (S : Nat) : Nat → Int32
  | 0 => nI 0
  | j + 1 => if S.testBit (k_q K j) = true then k_pgn K S j + (k_fw K (k_fr K (k_pA K S)) j - k_fw K (k_td K) j) else k_pgn K S j
def k_pbk (K : Nat → Int32) (S p : Nat) : Bool := S.testBit p && (match k_pl K p with | some j => (k_bs K (k_pA K S) j (k_g K)).1.isSome | none => false)
section PC
variable {M : ir_M} {d : Nat}
theorem c_phd (h : c_rl M 12 K) (hF : ∀ j, j < k_m K → ir_I M 118 j = k_fr K (k_pA K S) j) (hT : ∀ j, j < k_m K → ir_I M 95 (k_q K j) = k_fw K (k_td K) j) : ∀ (r x : Nat), x + r = k_m K → v_X11_promiseHolds_2 (d + 2) 1 (nI S) (nI x) M = ir_oI (if (k_f1 (k_ph K S) r x).isSome = true then nI 0 else nI 1) M
  | 0, x, hx => by
    have hb := k_bds h.2.2.1
    rw [L_X11_promiseHolds_2]
    simp (disch := omega) only [q_ckt, q_lt, q_cI, q_cJ, q_cV, q_cP, q_xI, q_xV, q_xP, q_xJ, g_gk, g_ga, g_gw, g_gp, g_gq, g_P, g_J, q_I_s, q_I_n, q_I_k, nI_add, pk_sub, pk_mul, nI_clamp, n_lt0, n_0lt, n_eq0, n_lt, n_le, n_eq, n_m1, n_m2, n_m9, n_12, n_19, n_10, n_01, n_1n1, n_0n1, n_1n0, n_0n0, n_dI, n_m1lt, q_inb, n_nar, n_nar0, n_nar1, n_bool, Bool.false_eq_true, Bool.true_eq_false, if_true, if_false, ↓reduceIte, Nat.reduceAdd, Nat.reduceMul, Nat.reduceSub, Nat.reduceLT, Nat.reduceLeDiff, Nat.reduceEqDiff, Nat.reduceMod, Nat.reduceDiv, q_W h.1, q_S h.1 (a := 12) (by decide), c_use h, show ¬ x < k_m K by omega, k_f1, Option.isSome_none]
  | r + 1, x, hx => by
    have hk := h.2.2.1
    have hb := k_bds hk
    have ih := c_phd h hF hT r (x + 1) (by omega)
    have hqx := k_qn hk (i := x) (by omega)
    have wa := c_wa (d := d) h (i := x) (by omega) (hF x (by omega)) (k_fr_gd hk (fun j hj => k_pA_gd hk hj) (by omega))
    have tx := hT x (by omega)
    have u := c_use h
    rw [L_X11_promiseHolds_2]
    unfold k_f1 k_ph
    by_cases qs : S.testBit (k_q K x) = true
    · rw [qs, Bool.true_and]
      by_cases qc : k_fw K (k_fr K (k_pA K S)) x < k_fw K (k_td K) x
      · rw [decide_eq_true qc]
        simp (disch := omega) only [q_ckt, q_lt, q_cI, q_cJ, q_cV, q_cP, q_xI, q_xV, q_xP, q_xJ, g_gk, g_ga, g_gw, g_gp, g_gq, g_P, g_J, q_I_s, q_I_n, q_I_k, nI_add, pk_sub, pk_mul, nI_clamp, n_lt0, n_0lt, n_eq0, n_lt, n_le, n_eq, n_m1, n_m2, n_m9, n_12, n_19, n_10, n_01, n_1n1, n_0n1, n_1n0, n_0n0, n_dI, n_m1lt, q_inb, n_nar, n_nar0, n_nar1, n_bool, Bool.false_eq_true, Bool.true_eq_false, if_true, if_false, ↓reduceIte, Nat.reduceAdd, Nat.reduceMul, Nat.reduceSub, Nat.reduceLT, Nat.reduceLeDiff, Nat.reduceEqDiff, Nat.reduceMod, Nat.reduceDiv, q_W h.1, q_S h.1 (a := 12) (by decide), q_S h.1 (a := 91) (by decide), u, show x < k_m K by omega, n_bit, n_bt, qs, q_F h.1, wa, tx, qc, Option.isSome_some]
      · rw [decide_eq_false qc]
        simp (disch := omega) only [q_ckt, q_lt, q_cI, q_cJ, q_cV, q_cP, q_xI, q_xV, q_xP, q_xJ, g_gk, g_ga, g_gw, g_gp, g_gq, g_P, g_J, q_I_s, q_I_n, q_I_k, nI_add, pk_sub, pk_mul, nI_clamp, n_lt0, n_0lt, n_eq0, n_lt, n_le, n_eq, n_m1, n_m2, n_m9, n_12, n_19, n_10, n_01, n_1n1, n_0n1, n_1n0, n_0n0, n_dI, n_m1lt, q_inb, n_nar, n_nar0, n_nar1, n_bool, Bool.false_eq_true, Bool.true_eq_false, if_true, if_false, ↓reduceIte, Nat.reduceAdd, Nat.reduceMul, Nat.reduceSub, Nat.reduceLT, Nat.reduceLeDiff, Nat.reduceEqDiff, Nat.reduceMod, Nat.reduceDiv, q_W h.1, q_S h.1 (a := 12) (by decide), q_S h.1 (a := 91) (by decide), u, show x < k_m K by omega, n_bit, n_bt, qs, q_F h.1, wa, tx, qc]
        exact ih
    · rw [Bool.eq_false_iff.mpr qs, Bool.false_and]
      simp (disch := omega) only [q_ckt, q_lt, q_cI, q_cJ, q_cV, q_cP, q_xI, q_xV, q_xP, q_xJ, g_gk, g_ga, g_gw, g_gp, g_gq, g_P, g_J, q_I_s, q_I_n, q_I_k, nI_add, pk_sub, pk_mul, nI_clamp, n_lt0, n_0lt, n_eq0, n_lt, n_le, n_eq, n_m1, n_m2, n_m9, n_12, n_19, n_10, n_01, n_1n1, n_0n1, n_1n0, n_0n0, n_dI, n_m1lt, q_inb, n_nar, n_nar0, n_nar1, n_bool, Bool.false_eq_true, Bool.true_eq_false, if_true, if_false, ↓reduceIte, Nat.reduceAdd, Nat.reduceMul, Nat.reduceSub, Nat.reduceLT, Nat.reduceLeDiff, Nat.reduceEqDiff, Nat.reduceMod, Nat.reduceDiv, q_W h.1, q_S h.1 (a := 12) (by decide), u, show x < k_m K by omega, n_bit, n_bt, Bool.eq_false_iff.mpr qs]
      exact ih
theorem c_pgn (h : c_rl M 12 K) (hF : ∀ j, j < k_m K → ir_I M 118 j = k_fr K (k_pA K S) j) (hT : ∀ j, j < k_m K → ir_I M 95 (k_q K j) = k_fw K (k_td K) j) : m_X11_promiseGain (d + 3) 1 (nI S) M = ir_oI (k_pgn K S (k_m K)) M := by
  have hk := h.2.2.1
  have hb := k_bds hk
  have u := c_use h
  have L := q_up (σ := ir_M) (V := fun x t => v_X11_promiseGain_4 (d + 2) 1 (nI S) (k_pgn K S x) (nI x) t) (N := k_m K) (I := fun _ t => t = M) (K := fun t => ir_oI (k_pgn K S (k_m K)) t) (by
    rintro x t hx rfl
    refine ⟨t, rfl, ?_⟩
    have hqx := k_qn hk hx
    have wa := c_wa (d := d) h hx (hF x hx) (k_fr_gd hk (fun j hj => k_pA_gd hk hj) hx)
    have tx := hT x hx
    rw [show k_pgn K S (x + 1) = if S.testBit (k_q K x) = true then k_pgn K S x + (k_fw K (k_fr K (k_pA K S)) x - k_fw K (k_td K) x) else k_pgn K S x from rfl, L_X11_promiseGain_4]
    by_cases qs : S.testBit (k_q K x) = true
    · simp (disch := omega) only [q_ckt, q_lt, q_cI, q_cJ, q_cV, q_cP, q_xI, q_xV, q_xP, q_xJ, g_gk, g_ga, g_gw, g_gp, g_gq, g_P, g_J, q_I_s, q_I_n, q_I_k, nI_add, pk_sub, pk_mul, nI_clamp, n_lt0, n_0lt, n_eq0, n_lt, n_le, n_eq, n_m1, n_m2, n_m9, n_12, n_19, n_10, n_01, n_1n1, n_0n1, n_1n0, n_0n0, n_dI, n_m1lt, q_inb, n_nar, n_nar0, n_nar1, n_bool, Bool.false_eq_true, Bool.true_eq_false, if_true, if_false, ↓reduceIte, Nat.reduceAdd, Nat.reduceMul, Nat.reduceSub, Nat.reduceLT, Nat.reduceLeDiff, Nat.reduceEqDiff, Nat.reduceMod, Nat.reduceDiv, q_W h.1, q_S h.1 (a := 12) (by decide), q_S h.1 (a := 91) (by decide), u, hx, n_bit, n_bt, qs, q_F h.1, wa, tx]
    · simp (disch := omega) only [q_ckt, q_lt, q_cI, q_cJ, q_cV, q_cP, q_xI, q_xV, q_xP, q_xJ, g_gk, g_ga, g_gw, g_gp, g_gq, g_P, g_J, q_I_s, q_I_n, q_I_k, nI_add, pk_sub, pk_mul, nI_clamp, n_lt0, n_0lt, n_eq0, n_lt, n_le, n_eq, n_m1, n_m2, n_m9, n_12, n_19, n_10, n_01, n_1n1, n_0n1, n_1n0, n_0n0, n_dI, n_m1lt, q_inb, n_nar, n_nar0, n_nar1, n_bool, Bool.false_eq_true, Bool.true_eq_false, if_true, if_false, ↓reduceIte, Nat.reduceAdd, Nat.reduceMul, Nat.reduceSub, Nat.reduceLT, Nat.reduceLeDiff, Nat.reduceEqDiff, Nat.reduceMod, Nat.reduceDiv, q_W h.1, q_S h.1 (a := 12) (by decide), u, hx, n_bit, n_bt, Bool.eq_false_iff.mpr qs]) (by
    rintro t rfl
    rw [L_X11_promiseGain_4]
    simp (disch := omega) only [q_ckt, q_lt, q_cI, q_cJ, q_cV, q_cP, q_xI, q_xV, q_xP, q_xJ, g_gk, g_ga, g_gw, g_gp, g_gq, g_P, g_J, q_I_s, q_I_n, q_I_k, nI_add, pk_sub, pk_mul, nI_clamp, n_lt0, n_0lt, n_eq0, n_lt, n_le, n_eq, n_m1, n_m2, n_m9, n_12, n_19, n_10, n_01, n_1n1, n_0n1, n_1n0, n_0n0, n_dI, n_m1lt, q_inb, n_nar, n_nar0, n_nar1, n_bool, Bool.false_eq_true, Bool.true_eq_false, if_true, if_false, ↓reduceIte, Nat.reduceAdd, Nat.reduceMul, Nat.reduceSub, Nat.reduceLT, Nat.reduceLeDiff, Nat.reduceEqDiff, Nat.reduceMod, Nat.reduceDiv, q_W h.1, q_S h.1 (a := 12) (by decide), u, Nat.lt_irrefl]) (i := 0) (t := M) (by omega) rfl
  obtain ⟨t, rfl, ee⟩ := L
  exact (E_X11_promiseGain (d + 2) 1 _ t).trans ee
theorem c_pbk : ∀ (r x : Nat) {M : ir_M}, c_rl M 12 K → (∀ j, j < k_m K → ir_I M 117 (3 + j) = k_pA K S j) → (∀ j, j < k_m K → ir_I M 119 j = nI (k_ch K j (k_g K))) → x + r = k_n K → ∃ t, v_X11_promiseBreaker_2 (d + 5) 1 (nI S) (nI x) M = ir_oI (k_on (k_f1 (k_pbk K S) r x)) t ∧ q_eq [117, 118] M t
  | 0, x, M, h, hA, hc, hx => by
    have hb := k_bds h.2.2.1
    refine ⟨M, ?_, q_eq.rf _ _⟩
    rw [L_X11_promiseBreaker_2]
    simp (disch := omega) only [q_ckt, q_lt, q_cI, q_cJ, q_cV, q_cP, q_xI, q_xV, q_xP, q_xJ, g_gk, g_ga, g_gw, g_gp, g_gq, g_P, g_J, q_I_s, q_I_n, q_I_k, nI_add, pk_sub, pk_mul, nI_clamp, n_lt0, n_0lt, n_eq0, n_lt, n_le, n_eq, n_m1, n_m2, n_m9, n_12, n_19, n_10, n_01, n_1n1, n_0n1, n_1n0, n_0n0, n_dI, n_m1lt, q_inb, n_nar, n_nar0, n_nar1, n_bool, Bool.false_eq_true, Bool.true_eq_false, if_true, if_false, ↓reduceIte, Nat.reduceAdd, Nat.reduceMul, Nat.reduceSub, Nat.reduceLT, Nat.reduceLeDiff, Nat.reduceEqDiff, Nat.reduceMod, Nat.reduceDiv, q_W h.1, q_T h.1, c_use h, show ¬ x < k_n K by omega, k_f1, k_on]
  | r + 1, x, M, h, hA, hc, hx => by
    have hk := h.2.2.1
    have hb := k_bds hk
    have u := c_use h
    have pl := c_pl (d := d + 4) h (show x < 2 ^ 31 by omega)
    unfold k_f1
    rw [L_X11_promiseBreaker_2]
    by_cases qs : S.testBit x = true
    · cases e : k_pl K x with
      | none =>
        obtain ⟨t, e1, q1⟩ := c_pbk r (x + 1) h hA hc (by omega)
        have eb : k_pbk K S x = false := by unfold k_pbk; rw [e, Bool.and_false]
        refine ⟨t, ?_, q1⟩
        simp (disch := omega) only [q_ckt, q_lt, q_cI, q_cJ, q_cV, q_cP, q_xI, q_xV, q_xP, q_xJ, g_gk, g_ga, g_gw, g_gp, g_gq, g_P, g_J, q_I_s, q_I_n, q_I_k, nI_add, pk_sub, pk_mul, nI_clamp, n_lt0, n_0lt, n_eq0, n_lt, n_le, n_eq, n_m1, n_m2, n_m9, n_12, n_19, n_10, n_01, n_1n1, n_0n1, n_1n0, n_0n0, n_dI, n_m1lt, q_inb, n_nar, n_nar0, n_nar1, n_bool, Bool.false_eq_true, Bool.true_eq_false, if_true, if_false, ↓reduceIte, Nat.reduceAdd, Nat.reduceMul, Nat.reduceSub, Nat.reduceLT, Nat.reduceLeDiff, Nat.reduceEqDiff, Nat.reduceMod, Nat.reduceDiv, q_W h.1, q_T h.1, u, show x < k_n K by omega, n_bit, n_bt, qs, q_S h.1 (a := 12) (by decide), pl, e, k_on, L_X11_promiseBreaker_33, eb]
        exact e1
      | some j =>
        have hjm := (k_pl_some e).1
        obtain ⟨t1, e2, q2, r2⟩ := c_lm (d := d) h hA (fun j hj => k_pA_gd hk hj) hc hjm
        cases e3 : (k_bs K (k_pA K S) j (k_g K)).1 with
        | none =>
          obtain ⟨t, e1, q1⟩ := c_pbk r (x + 1) (c_rl_eq h q2 (by decide)) r2 (fun j hj => by rw [q_I_eq q2 (by decide)]; exact hc j hj) (by omega)
          have eb : k_pbk K S x = false := by unfold k_pbk; rw [e]; dsimp only; rw [e3]; exact Bool.and_false _
          rw [e3] at e2
          refine ⟨t, ?_, q2.tr q1⟩
          simp (disch := omega) only [q_ckt, q_lt, q_cI, q_cJ, q_cV, q_cP, q_xI, q_xV, q_xP, q_xJ, g_gk, g_ga, g_gw, g_gp, g_gq, g_P, g_J, q_I_s, q_I_n, q_I_k, nI_add, pk_sub, pk_mul, nI_clamp, n_lt0, n_0lt, n_eq0, n_lt, n_le, n_eq, n_m1, n_m2, n_m9, n_12, n_19, n_10, n_01, n_1n1, n_0n1, n_1n0, n_0n0, n_dI, n_m1lt, q_inb, n_nar, n_nar0, n_nar1, n_bool, Bool.false_eq_true, Bool.true_eq_false, if_true, if_false, ↓reduceIte, Nat.reduceAdd, Nat.reduceMul, Nat.reduceSub, Nat.reduceLT, Nat.reduceLeDiff, Nat.reduceEqDiff, Nat.reduceMod, Nat.reduceDiv, q_W h.1, q_T h.1, u, show x < k_n K by omega, n_bit, n_bt, qs, q_S h.1 (a := 12) (by decide), pl, e, k_on, L_X11_promiseBreaker_33, eb, e2]
          exact e1
        | some g =>
          have hg := (k_bs_lt _ e3).1
          have eb : k_pbk K S x = true := by unfold k_pbk; rw [e, qs]; dsimp only; rw [e3]; rfl
          rw [e3] at e2
          refine ⟨t1, ?_, q2⟩
          simp (disch := omega) only [q_ckt, q_lt, q_cI, q_cJ, q_cV, q_cP, q_xI, q_xV, q_xP, q_xJ, g_gk, g_ga, g_gw, g_gp, g_gq, g_P, g_J, q_I_s, q_I_n, q_I_k, nI_add, pk_sub, pk_mul, nI_clamp, n_lt0, n_0lt, n_eq0, n_lt, n_le, n_eq, n_m1, n_m2, n_m9, n_12, n_19, n_10, n_01, n_1n1, n_0n1, n_1n0, n_0n0, n_dI, n_m1lt, q_inb, n_nar, n_nar0, n_nar1, n_bool, Bool.false_eq_true, Bool.true_eq_false, if_true, if_false, ↓reduceIte, Nat.reduceAdd, Nat.reduceMul, Nat.reduceSub, Nat.reduceLT, Nat.reduceLeDiff, Nat.reduceEqDiff, Nat.reduceMod, Nat.reduceDiv, q_W h.1, q_T h.1, u, show x < k_n K by omega, n_bit, n_bt, qs, q_S h.1 (a := 12) (by decide), pl, e, k_on, L_X11_promiseBreaker_33, eb, e2]
    · obtain ⟨t, e1, q1⟩ := c_pbk r (x + 1) h hA hc (by omega)
      have eb : k_pbk K S x = false := by unfold k_pbk; rw [Bool.eq_false_iff.mpr qs]; rfl
      refine ⟨t, ?_, q1⟩
      simp (disch := omega) only [q_ckt, q_lt, q_cI, q_cJ, q_cV, q_cP, q_xI, q_xV, q_xP, q_xJ, g_gk, g_ga, g_gw, g_gp, g_gq, g_P, g_J, q_I_s, q_I_n, q_I_k, nI_add, pk_sub, pk_mul, nI_clamp, n_lt0, n_0lt, n_eq0, n_lt, n_le, n_eq, n_m1, n_m2, n_m9, n_12, n_19, n_10, n_01, n_1n1, n_0n1, n_1n0, n_0n0, n_dI, n_m1lt, q_inb, n_nar, n_nar0, n_nar1, n_bool, Bool.false_eq_true, Bool.true_eq_false, if_true, if_false, ↓reduceIte, Nat.reduceAdd, Nat.reduceMul, Nat.reduceSub, Nat.reduceLT, Nat.reduceLeDiff, Nat.reduceEqDiff, Nat.reduceMod, Nat.reduceDiv, q_W h.1, q_T h.1, u, show x < k_n K by omega, n_bit, n_bt, Bool.eq_false_iff.mpr qs, L_X11_promiseBreaker_33, eb]
      exact e1
end PC
end PR
