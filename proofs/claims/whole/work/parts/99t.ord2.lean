/-! orders, the class stands them -/
theorem c_rl_S {S : List Nat} {M M' : ir_M} {K : Nat → Int32} (h : c_rl M 12 K) (he : q_eq S M M') (h1 : (4 ∉ S ∧ 5 ∉ S ∧ 7 ∉ S ∧ 8 ∉ S ∧ 10 ∉ S ∧ 11 ∉ S)) (h2 : ∀ j, j < 6 → 12 + j ∉ S) : c_rl M' 12 K := ⟨q_PI_eq he h.1, h.2.1, h.2.2.1, c_td_eq he h1 h.2.2.2.1, c_st_eq he h2 h.2.2.2.2⟩
def k_rb2 (K : Nat → Int32) (r : List Nat) (R : Nat) : Prop := R < 256 ∧ ∀ p, R.testBit p = (k_mem K p && !(r.contains p))
theorem n_p2b (p q : Nat) : (2 ^ p).testBit q = decide (p = q) := Nat.testBit_two_pow
theorem k_ctn {r : List Nat} {p q : Nat} : (r ++ [p]).contains q = (r.contains q || decide (p = q)) := by
  rw [List.contains_append]
  congr 1
  by_cases e : p = q
  · rw [decide_eq_true e, e]
    simp
  · rw [decide_eq_false e]
    simp
    exact fun w => e w.symm
theorem k_rb2_s {K : Nat → Int32} {r : List Nat} {R p : Nat} (h : k_rb2 K r R) : k_rb2 K (r ++ [p]) (k_dif R (2 ^ p)) := by
  refine ⟨k_dif_lt h.1, fun q => ?_⟩
  rw [k_dif_bit, h.2, n_p2b, k_ctn]
  cases k_mem K q <;> cases r.contains q <;> cases decide (p = q) <;> rfl
theorem k_rw_s {K : Nat → Int32} {r : List Nat} {p : Nat} (h : k_rw K r) (hp : p < k_n K) (hc : r.contains p = false) : k_rw K (r ++ [p]) := by
  have ln : (r ++ [p]).length = r.length + 1 := by rw [List.length_append]; rfl
  have no : ∀ i, i < r.length → r.getD i 0 ≠ p := fun i hi e => by
    have hm : r.getD i 0 ∈ r := by
      rw [List.getD_eq_getElem?_getD, List.getElem?_eq_getElem hi]
      exact List.getElem_mem hi
    rw [e] at hm
    rw [List.contains_iff_mem.mpr hm] at hc
    exact nomatch hc
  refine ⟨fun i hi => ?_, fun i j hi hj e => ?_⟩
  · by_cases q : i = r.length
    · rw [q, k_gr]; exact hp
    · rw [k_gl (by omega)]; exact h.1 i (by omega)
  · rw [ln] at hi hj
    by_cases qi : i = r.length
    · by_cases qj : j = r.length
      · omega
      · rw [qi, k_gr, k_gl (by omega)] at e
        exact absurd e.symm (no j (by omega))
    · by_cases qj : j = r.length
      · rw [qj, k_gr, k_gl (by omega)] at e
        exact absurd e (no i (by omega))
      · rw [k_gl (by omega), k_gl (by omega)] at e
        exact h.2 i j (by omega) (by omega) e
section OC2
variable {K : Nat → Int32} {least : Int32} {d : Nat}
theorem c_on_pre {r : List Nat} {p : Nat} {M : ir_M} (h : c_on K least (r ++ [p]) M) : c_on K least r M := by
  have ln : (r ++ [p]).length = r.length + 1 := by rw [List.length_append]; rfl
  obtain ⟨h1, h2, h3, h4, h5, h6, h7, h8⟩ := h
  refine ⟨h1, h2, h3, h4, h5, fun i hi => ?_, fun i hi => ?_, h8⟩
  · rw [h6 i (by omega), k_gl hi]
  · rw [h7 i (by omega), k_ar_pre hi]
theorem c_osd (hwf : k_wf K) : ∀ (k : Nat) {r : List Nat} {R : Nat} {ρ : Int32 × Option (Int32 × List Nat)} {M : ir_M}, r.length + k = k_m K → k_rw K r → k_rb2 K r R → c_on K least r M → c_of M (k_m K) ρ → ∃ M', m_X2_stand (d + 5 + k) 121 (nI r.length) (nI R) (k_os K r r.length) M = ir_oV M' ∧ q_eq [117, 121, 122, 123] M M' ∧ c_on K least r M' ∧ c_of M' (k_m K) (k_og K least k r ρ)
  | 0, r, R, ρ, M, hm, hw, hR, h, hf => by
    have hb := k_bds h.1.2.2.1
    obtain ⟨M1, e1, q1, a1, b1⟩ := c_cl (d := d) (by omega) hw h hf
    refine ⟨M1, ?_, q1.sub (by decide), a1, b1⟩
    rw [show r.length = k_m K by omega, show d + 5 + 0 = d + 4 + 1 from rfl, E_X2_stand]
    simp (disch := omega) only [q_ckt, q_lt, q_cI, q_cJ, q_cV, q_cP, q_xI, q_xV, q_xP, q_xJ, g_gk, g_ga, g_gw, g_gp, g_gq, g_P, g_J, q_I_s, q_I_n, q_I_k, nI_add, pk_sub, pk_mul, nI_clamp, n_lt0, n_0lt, n_eq0, n_lt, n_le, n_eq, n_m1, n_m2, n_m9, n_12, n_19, n_10, n_01, n_1n1, n_0n1, n_1n0, n_0n0, n_dI, n_m1lt, q_inb, n_nar, n_nar0, n_nar1, n_bool, Bool.false_eq_true, Bool.true_eq_false, if_true, if_false, ↓reduceIte, Nat.reduceAdd, Nat.reduceMul, Nat.reduceSub, Nat.reduceLT, Nat.reduceLeDiff, Nat.reduceEqDiff, Nat.reduceMod, Nat.reduceDiv, c_ocg h.1.1 h.2.1, q_S h.1.1 (a := 12) (by decide), c_use h.1, Nat.lt_irrefl, q_O h.1.1, e1]
  | k + 1, r, R, ρ, M, hm, hw, hR, h, hf => by
    have hk := h.1.2.2.1
    have hb := k_bds hk
    obtain ⟨h1, h2, h3, h4, h5, h6, h7, h8⟩ := h
    have ed : d + 5 + (k + 1) = d + 5 + k + 1 := by omega
    have hlm : r.length < k_m K := by omega
    obtain ⟨O, hO, hOb, eO⟩ : ∃ O, O < 256 ∧ (∀ p, p < k_n K → O.testBit p = k_oc K r p) ∧ m_X2_stand (d + 5 + (k + 1)) 121 (nI r.length) (nI R) (k_os K r r.length) M = v_X2_stand_45 (d + 5 + k) 121 (nI r.length) (nI R) (k_os K r r.length) (nI O) M := by
      by_cases q0 : 0 < r.length
      · have hl := hw.1 (r.length - 1) (by omega)
        obtain ⟨x, x1, x2, x3⟩ := h4 _ hl
        have ri := h6 (r.length - 1) (by omega)
        refine ⟨k_dif R x, k_dif_lt hR.1, fun p hp => ?_, ?_⟩
        · unfold k_oc
          rw [k_dif_bit, hR.2, x3 p (by omega), decide_eq_true q0, Bool.true_and]
        · rw [ed, E_X2_stand]
          simp (disch := omega) only [q_ckt, q_lt, q_cI, q_cJ, q_cV, q_cP, q_xI, q_xV, q_xP, q_xJ, g_gk, g_ga, g_gw, g_gp, g_gq, g_P, g_J, q_I_s, q_I_n, q_I_k, nI_add, pk_sub, pk_mul, nI_clamp, n_lt0, n_0lt, n_eq0, n_lt, n_le, n_eq, n_m1, n_m2, n_m9, n_12, n_19, n_10, n_01, n_1n1, n_0n1, n_1n0, n_0n0, n_dI, n_m1lt, q_inb, n_nar, n_nar0, n_nar1, n_bool, Bool.false_eq_true, Bool.true_eq_false, if_true, if_false, ↓reduceIte, Nat.reduceAdd, Nat.reduceMul, Nat.reduceSub, Nat.reduceLT, Nat.reduceLeDiff, Nat.reduceEqDiff, Nat.reduceMod, Nat.reduceDiv, c_ocg h1.1 h2, q_S h1.1 (a := 12) (by decide), c_use h1, hlm, q0, q_T h1.1, q_O h1.1, ri, x2, n_dif]
      · refine ⟨R, hR.1, fun p hp => ?_, ?_⟩
        · unfold k_oc
          rw [hR.2, decide_eq_false q0, Bool.false_and, Bool.not_false, Bool.and_true]
        · rw [ed, E_X2_stand]
          simp (disch := omega) only [q_ckt, q_lt, q_cI, q_cJ, q_cV, q_cP, q_xI, q_xV, q_xP, q_xJ, g_gk, g_ga, g_gw, g_gp, g_gq, g_P, g_J, q_I_s, q_I_n, q_I_k, nI_add, pk_sub, pk_mul, nI_clamp, n_lt0, n_0lt, n_eq0, n_lt, n_le, n_eq, n_m1, n_m2, n_m9, n_12, n_19, n_10, n_01, n_1n1, n_0n1, n_1n0, n_0n0, n_dI, n_m1lt, q_inb, n_nar, n_nar0, n_nar1, n_bool, Bool.false_eq_true, Bool.true_eq_false, if_true, if_false, ↓reduceIte, Nat.reduceAdd, Nat.reduceMul, Nat.reduceSub, Nat.reduceLT, Nat.reduceLeDiff, Nat.reduceEqDiff, Nat.reduceMod, Nat.reduceDiv, c_ocg h1.1 h2, q_S h1.1 (a := 12) (by decide), c_use h1, hlm, q0]
    obtain ⟨C, eC⟩ : ∃ C, C = (if K 43 = 1 ∧ r.length < k_y K then (-1 : Int32) else k_fe K false (k_m K) (k_ar K r) (k_y K) r.length) := ⟨_, rfl⟩
    have gA : ∀ j, j < r.length → k_gd K (k_ar K r j) := fun j hj => k_ak_gd hk (hw.1 j hj)
    have gC : k_gd K C := by
      rw [eC]
      by_cases q : K 43 = 1 ∧ r.length < k_y K
      · rw [if_pos q]; exact Or.inl rfl
      · rw [if_neg q, k_fe_pre (B := fun j => if j < r.length then k_ar K r j else -1) hb.2.2.2.2.1 hb.2.2.2.2.2 (by by_cases w : K 43 = 1; exact Or.inr (by have : ¬ r.length < k_y K := fun z => q ⟨w, z⟩; omega); exact Or.inl w) (fun j hj => (if_pos hj).symm)]
        refine k_fe_gd hk (fun j hj => ?_) hlm
        by_cases q2 : j < r.length
        · rw [if_pos q2]; exact gA j q2
        · rw [if_neg q2]; exact Or.inl rfl
    have e45 : v_X2_stand_45 (d + 5 + k) 121 (nI r.length) (nI R) (k_os K r r.length) (nI O) M = v_X2_stand_79 (d + 5 + k) 121 (nI r.length) (nI R) (k_os K r r.length) (nI O) C (nI 0) M := by
      have fl := c_flt (d := d + 4 + k) h1 h2 (show r.length < 100 by omega)
      rw [show d + 4 + k + 1 = d + 5 + k by omega] at fl
      rw [L_X2_stand_45, eC]
      by_cases q : K 43 = 1 ∧ r.length < k_y K
      · rw [if_pos q] at fl ⊢
        simp (disch := omega) only [q_ckt, q_lt, q_cI, q_cJ, q_cV, q_cP, q_xI, q_xV, q_xP, q_xJ, g_gk, g_ga, g_gw, g_gp, g_gq, g_P, g_J, q_I_s, q_I_n, q_I_k, nI_add, pk_sub, pk_mul, nI_clamp, n_lt0, n_0lt, n_eq0, n_lt, n_le, n_eq, n_m1, n_m2, n_m9, n_12, n_19, n_10, n_01, n_1n1, n_0n1, n_1n0, n_0n0, n_dI, n_m1lt, q_inb, n_nar, n_nar0, n_nar1, n_bool, Bool.false_eq_true, Bool.true_eq_false, if_true, if_false, ↓reduceIte, Nat.reduceAdd, Nat.reduceMul, Nat.reduceSub, Nat.reduceLT, Nat.reduceLeDiff, Nat.reduceEqDiff, Nat.reduceMod, Nat.reduceDiv, q_O h1.1, fl]
      · rw [if_neg q] at fl ⊢
        have fa := c_fla (d := d + 3 + k) h1.1 (show k_y K < 2 ^ 31 by omega) (show r.length < 8 by omega)
        rw [show d + 3 + k + 2 = d + 5 + k by omega] at fa
        rw [k_fe_ln (K := K) (A := k_ar K r) (L := fun j => ir_I M 117 j) (m := k_m K) hb.2.2.2.2.1 hb.2.2.2.2.2 (by by_cases w : K 43 = 1; exact Or.inr (by have : ¬ r.length < k_y K := fun z => q ⟨w, z⟩; omega); exact Or.inl w) h7 (fun w b b1 b3 => (h8 w (by omega) b b1 b3).trans (k_bk_n w))] at fa
        simp (disch := omega) only [q_ckt, q_lt, q_cI, q_cJ, q_cV, q_cP, q_xI, q_xV, q_xP, q_xJ, g_gk, g_ga, g_gw, g_gp, g_gq, g_P, g_J, q_I_s, q_I_n, q_I_k, nI_add, pk_sub, pk_mul, nI_clamp, n_lt0, n_0lt, n_eq0, n_lt, n_le, n_eq, n_m1, n_m2, n_m9, n_12, n_19, n_10, n_01, n_1n1, n_0n1, n_1n0, n_0n0, n_dI, n_m1lt, q_inb, n_nar, n_nar0, n_nar1, n_bool, Bool.false_eq_true, Bool.true_eq_false, if_true, if_false, ↓reduceIte, Nat.reduceAdd, Nat.reduceMul, Nat.reduceSub, Nat.reduceLT, Nat.reduceLeDiff, Nat.reduceEqDiff, Nat.reduceMod, Nat.reduceDiv, q_O h1.1, fl, c_ocg h1.1 h2, q_T h1.1, c_use h1, q_F h1.1, fa]
    have L := q_up (σ := ir_M) (V := fun x t => v_X2_stand_79 (d + 5 + k) 121 (nI r.length) (nI R) (k_os K r r.length) (nI O) C (nI x) t) (N := k_n K) (I := fun x t => q_eq [117, 121, 122, 123] M t ∧ c_on K least r t ∧ c_of t (k_m K) ((List.range x).foldl (fun ρ p => if k_oc K r p = true then k_og K least k (r ++ [p]) ρ else ρ) ρ)) (K := ir_oV) (by
      rintro x t hx ⟨hq, ⟨g1, g2, g3, g4, g5, g6, g7, g8⟩, hft⟩
      rw [k_foldl]
      have ob := hOb x hx
      by_cases qc : k_oc K r x = true
      · rw [if_pos qc]
        rw [qc] at ob
        have mc : k_mem K x = true ∧ r.contains x = false := by
          unfold k_oc at qc
          simp only [Bool.and_eq_true, Bool.not_eq_true'] at qc
          exact qc.1
        obtain ⟨t1, et1⟩ : ∃ N, N = ir_sI t 123 r.length (nI x) := ⟨_, rfl⟩
        obtain ⟨t2, et2⟩ : ∃ N, N = ir_sI t1 117 (3 + r.length) (k_ak K x r.length) := ⟨_, rfl⟩
        have q1 : q_eq [117, 121, 122, 123] t t1 := by rw [et1]; exact q_eq.sI (by decide)
        have q2 : q_eq [117, 121, 122, 123] t1 t2 := by rw [et2]; exact q_eq.sI (by decide)
        have p1 := q_PI_eq q1 g1.1
        have ln : (r ++ [x]).length = r.length + 1 := by rw [List.length_append]; rfl
        have q12 := q1.tr q2
        have c2 := c_rl_S g1 q12 (by decide) (by decide)
        have ak : ir_I t1 124 (8 * x + r.length) = k_ak K x r.length := by rw [q_I_eq q1 (by decide)]; exact g5 x _ mc.1 hlm
        have on2 : c_on K least (r ++ [x]) t2 := by
          refine ⟨c2, c_ocP_eq q12 g2, ?_, c_ap_fr (q12.1 _ (by decide)) g4, fun p i hp hi => by rw [q_I_eq q12 (by decide)]; exact g5 p i hp hi, fun i hi => ?_, fun i hi => ?_, fun a1 a2 b b1 b3 => ?_⟩
          · rw [et2, q_I_n (by decide), et1, q_I_n (by decide)]; exact g3
          · rw [et2, q_I_n (by decide), et1, q_I_u]
            by_cases q : i = r.length
            · rw [if_pos q, q, k_gr]
            · rw [if_neg q, k_gl (by omega)]; exact g6 i (by omega)
          · rw [et2, q_I_u]
            by_cases q : i = r.length
            · rw [if_pos (by omega), q]
              unfold k_ar
              rw [k_gr]
            · rw [if_neg (by omega), et1, q_I_n (by decide), k_ar_pre (by omega)]
              exact g7 i (by omega)
          · rw [et2, q_I_k (by omega), et1, q_I_n (by decide)]; exact g8 a1 a2 b b1 b3
        have of2 : c_of t2 (k_m K) ((List.range x).foldl (fun ρ p => if k_oc K r p = true then k_og K least k (r ++ [p]) ρ else ρ) ρ) := by
          unfold c_of at hft ⊢
          simp only [et2, et1, q_I_n (show (121 : Nat) ≠ 117 by decide), q_I_n (show (122 : Nat) ≠ 117 by decide), q_I_n (show (121 : Nat) ≠ 123 by decide), q_I_n (show (122 : Nat) ≠ 123 by decide)]
          exact hft
        obtain ⟨t3, e3, q3, a3, b3⟩ := c_osd hwf k (by omega) (k_rw_s hw hx mc.2) (k_rb2_s hR) on2 of2
        refine ⟨t3, ⟨(hq.tr q12).tr q3, c_on_pre a3, b3⟩, ?_⟩
        have wt := c_wt (d := d + 4 + k) c2 hx gC
        rw [show d + 4 + k + 1 = d + 5 + k by omega] at wt
        rw [ln, k_os_s hk, ← eC] at e3
        rw [L_X2_stand_79]
        simp (disch := omega) only [q_ckt, q_lt, q_cI, q_cJ, q_cV, q_cP, q_xI, q_xV, q_xP, q_xJ, g_gk, g_ga, g_gw, g_gp, g_gq, g_P, g_J, q_I_s, q_I_n, q_I_k, nI_add, pk_sub, pk_mul, nI_clamp, n_lt0, n_0lt, n_eq0, n_lt, n_le, n_eq, n_m1, n_m2, n_m9, n_12, n_19, n_10, n_01, n_1n1, n_0n1, n_1n0, n_0n0, n_dI, n_m1lt, q_inb, n_nar, n_nar0, n_nar1, n_bool, Bool.false_eq_true, Bool.true_eq_false, if_true, if_false, ↓reduceIte, Nat.reduceAdd, Nat.reduceMul, Nat.reduceSub, Nat.reduceLT, Nat.reduceLeDiff, Nat.reduceEqDiff, Nat.reduceMod, Nat.reduceDiv, c_ocg g1.1 g2, q_T g1.1, c_use g1, hx, n_bit, n_bt, ob, q_O g1.1, q_F g1.1, Nat.mul_comm x 8, g5 x r.length mc.1 hlm]
        rw [← et1, ← et2]
        simp (disch := omega) only [q_ckt, q_lt, q_cI, q_cJ, q_cV, q_cP, q_xI, q_xV, q_xP, q_xJ, g_gk, g_ga, g_gw, g_gp, g_gq, g_P, g_J, q_I_s, q_I_n, q_I_k, nI_add, pk_sub, pk_mul, nI_clamp, n_lt0, n_0lt, n_eq0, n_lt, n_le, n_eq, n_m1, n_m2, n_m9, n_12, n_19, n_10, n_01, n_1n1, n_0n1, n_1n0, n_0n0, n_dI, n_m1lt, q_inb, n_nar, n_nar0, n_nar1, n_bool, Bool.false_eq_true, Bool.true_eq_false, if_true, if_false, ↓reduceIte, Nat.reduceAdd, Nat.reduceMul, Nat.reduceSub, Nat.reduceLT, Nat.reduceLeDiff, Nat.reduceEqDiff, Nat.reduceMod, Nat.reduceDiv, c_ocg c2.1 (c_ocP_eq q12 g2), q_T c2.1, wt, q_O c2.1, n_dif, e3]
      · rw [if_neg qc]
        refine ⟨t, ⟨hq, ⟨g1, g2, g3, g4, g5, g6, g7, g8⟩, hft⟩, ?_⟩
        rw [Bool.eq_false_iff.mpr qc] at ob
        rw [L_X2_stand_79]
        simp (disch := omega) only [q_ckt, q_lt, q_cI, q_cJ, q_cV, q_cP, q_xI, q_xV, q_xP, q_xJ, g_gk, g_ga, g_gw, g_gp, g_gq, g_P, g_J, q_I_s, q_I_n, q_I_k, nI_add, pk_sub, pk_mul, nI_clamp, n_lt0, n_0lt, n_eq0, n_lt, n_le, n_eq, n_m1, n_m2, n_m9, n_12, n_19, n_10, n_01, n_1n1, n_0n1, n_1n0, n_0n0, n_dI, n_m1lt, q_inb, n_nar, n_nar0, n_nar1, n_bool, Bool.false_eq_true, Bool.true_eq_false, if_true, if_false, ↓reduceIte, Nat.reduceAdd, Nat.reduceMul, Nat.reduceSub, Nat.reduceLT, Nat.reduceLeDiff, Nat.reduceEqDiff, Nat.reduceMod, Nat.reduceDiv, c_ocg g1.1 g2, q_T g1.1, c_use g1, hx, n_bit, n_bt, ob]) (by
      rintro t ⟨hq, ht, hft⟩
      rw [L_X2_stand_79]
      simp (disch := omega) only [q_ckt, q_lt, q_cI, q_cJ, q_cV, q_cP, q_xI, q_xV, q_xP, q_xJ, g_gk, g_ga, g_gw, g_gp, g_gq, g_P, g_J, q_I_s, q_I_n, q_I_k, nI_add, pk_sub, pk_mul, nI_clamp, n_lt0, n_0lt, n_eq0, n_lt, n_le, n_eq, n_m1, n_m2, n_m9, n_12, n_19, n_10, n_01, n_1n1, n_0n1, n_1n0, n_0n0, n_dI, n_m1lt, q_inb, n_nar, n_nar0, n_nar1, n_bool, Bool.false_eq_true, Bool.true_eq_false, if_true, if_false, ↓reduceIte, Nat.reduceAdd, Nat.reduceMul, Nat.reduceSub, Nat.reduceLT, Nat.reduceLeDiff, Nat.reduceEqDiff, Nat.reduceMod, Nat.reduceDiv, c_ocg ht.1.1 ht.2.1, q_T ht.1.1, c_use ht.1, Nat.lt_irrefl]) (i := 0) (t := M) (by omega) ⟨q_eq.rf _ _, ⟨h1, h2, h3, h4, h5, h6, h7, h8⟩, hf⟩
    obtain ⟨t, ⟨a, b, c⟩, ee⟩ := L
    exact ⟨t, (eO.trans e45).trans ee, a, b, c⟩
/-- what is asked, by places -/
theorem c_lap {M : ir_M} (h : c_rl M 12 K) (hP : c_ocP M) : ∃ t, m_X2_layAskedByPlaces (d + 4) 121 M = ir_oV t ∧ q_eq [9, 120, 124] M t ∧ ∀ p i, k_mem K p = true → i < k_m K → ir_I t 124 (8 * p + i) = k_ak K p i := by
  have hk := h.2.2.1
  have hb := k_bds hk
  have L := q_up (σ := ir_M) (V := fun x t => v_X2_layAskedByPlaces_2 (d + 3) 121 (nI x) t) (N := k_m K) (I := fun x t => q_eq [9, 120, 124] M t ∧ ∀ j i, j < x → i < k_m K → ir_I t 124 (8 * k_q K j + i) = k_ak K (k_q K j) i) (K := ir_oV) (by
    rintro x t hx ⟨hq, ht⟩
    have ct := c_rl_S h hq (by decide) (by decide)
    have Pt := c_ocP_eq hq hP
    have hqx := k_qn hk hx
    have hag := k_ag hk hqx
    have L2 := q_up (σ := ir_M) (V := fun y u => v_X2_layAskedByPlaces_36 (d + 3) 121 (nI x) (nI (k_q K x)) (nI (k_a K (k_q K x))) (nI y) u) (N := k_m K) (I := fun y u => q_eq [9, 120, 124] t u ∧ (∀ z, (z < 8 * k_q K x ∨ 8 * k_q K x + 8 ≤ z) → ir_I u 124 z = ir_I t 124 z) ∧ ∀ i, i < y → ir_I u 124 (8 * k_q K x + i) = k_ak K (k_q K x) i) (K := fun u => v_X2_layAskedByPlaces_2 (d + 3) 121 (nI (x + 1)) u) (by
      rintro y u hy ⟨hqu, hf, hu⟩
      have cu := c_rl_S ct hqu (by decide) (by decide)
      have Pu := c_ocP_eq hqu Pt
      obtain ⟨u1, e1, q1⟩ := c_lf (d := d) cu (pl := nI y) hqx (k_gd_na hag)
      have cu1 := c_rl_eq cu q1 (by decide)
      refine ⟨ir_sI u1 124 (8 * k_q K x + y) (k_ak K (k_q K x) y), ⟨(hqu.tr (q1.sub (by decide))).tr (q_eq.sI (by decide)), fun z hz => ?_, fun i hi => ?_⟩, ?_⟩
      · rw [q_I_k (by omega), q_I_eq q1 (by decide)]; exact hf z hz
      · rw [q_I_u]
        by_cases q : i = y
        · rw [if_pos (by omega), q]
        · rw [if_neg (by omega), q_I_eq q1 (by decide)]; exact hu i (by omega)
      · rw [L_X2_layAskedByPlaces_36]
        unfold k_ak
        cases ea : k_al K (k_q K x) (nI (k_a K (k_q K x))) (nI y)
        · rw [ea, if_neg (by decide)] at e1
          simp (disch := omega) only [q_ckt, q_lt, q_cI, q_cJ, q_cV, q_cP, q_xI, q_xV, q_xP, q_xJ, g_gk, g_ga, g_gw, g_gp, g_gq, g_P, g_J, q_I_s, q_I_n, q_I_k, nI_add, pk_sub, pk_mul, nI_clamp, n_lt0, n_0lt, n_eq0, n_lt, n_le, n_eq, n_m1, n_m2, n_m9, n_12, n_19, n_10, n_01, n_1n1, n_0n1, n_1n0, n_0n0, n_dI, n_m1lt, q_inb, n_nar, n_nar0, n_nar1, n_bool, Bool.false_eq_true, Bool.true_eq_false, if_true, if_false, ↓reduceIte, Nat.reduceAdd, Nat.reduceMul, Nat.reduceSub, Nat.reduceLT, Nat.reduceLeDiff, Nat.reduceEqDiff, Nat.reduceMod, Nat.reduceDiv, c_ocg cu.1 Pu, q_S cu.1 (a := 12) (by decide), c_use cu, hy, q_F cu.1, e1, q_O cu1.1, Nat.mul_comm (k_q K x) 8]
        · rw [ea, if_pos rfl] at e1
          simp (disch := omega) only [q_ckt, q_lt, q_cI, q_cJ, q_cV, q_cP, q_xI, q_xV, q_xP, q_xJ, g_gk, g_ga, g_gw, g_gp, g_gq, g_P, g_J, q_I_s, q_I_n, q_I_k, nI_add, pk_sub, pk_mul, nI_clamp, n_lt0, n_0lt, n_eq0, n_lt, n_le, n_eq, n_m1, n_m2, n_m9, n_12, n_19, n_10, n_01, n_1n1, n_0n1, n_1n0, n_0n0, n_dI, n_m1lt, q_inb, n_nar, n_nar0, n_nar1, n_bool, Bool.false_eq_true, Bool.true_eq_false, if_true, if_false, ↓reduceIte, Nat.reduceAdd, Nat.reduceMul, Nat.reduceSub, Nat.reduceLT, Nat.reduceLeDiff, Nat.reduceEqDiff, Nat.reduceMod, Nat.reduceDiv, c_ocg cu.1 Pu, q_S cu.1 (a := 12) (by decide), c_use cu, hy, q_F cu.1, e1, n_10, q_O cu1.1, Nat.mul_comm (k_q K x) 8]) (by
      rintro u ⟨hqu, hf, hu⟩
      have cu := c_rl_S ct hqu (by decide) (by decide)
      have Pu := c_ocP_eq hqu Pt
      rw [L_X2_layAskedByPlaces_36]
      simp (disch := omega) only [q_ckt, q_lt, q_cI, q_cJ, q_cV, q_cP, q_xI, q_xV, q_xP, q_xJ, g_gk, g_ga, g_gw, g_gp, g_gq, g_P, g_J, q_I_s, q_I_n, q_I_k, nI_add, pk_sub, pk_mul, nI_clamp, n_lt0, n_0lt, n_eq0, n_lt, n_le, n_eq, n_m1, n_m2, n_m9, n_12, n_19, n_10, n_01, n_1n1, n_0n1, n_1n0, n_0n0, n_dI, n_m1lt, q_inb, n_nar, n_nar0, n_nar1, n_bool, Bool.false_eq_true, Bool.true_eq_false, if_true, if_false, ↓reduceIte, Nat.reduceAdd, Nat.reduceMul, Nat.reduceSub, Nat.reduceLT, Nat.reduceLeDiff, Nat.reduceEqDiff, Nat.reduceMod, Nat.reduceDiv, c_ocg cu.1 Pu, q_S cu.1 (a := 12) (by decide), c_use cu, Nat.lt_irrefl]) (i := 0) (t := t) (by omega) ⟨q_eq.rf _ _, fun _ _ => rfl, fun i hi => absurd hi (by omega)⟩
    obtain ⟨u, ⟨a, b, c⟩, ee⟩ := L2
    refine ⟨u, ⟨hq.tr a, fun j i hj hi => ?_⟩, ?_⟩
    · by_cases q : j = x
      · rw [q]; exact c i hi
      · have ne : k_q K j ≠ k_q K x := fun w => q (hk.2.2.2.2.2.1 j x (by omega) hx w)
        rw [b _ (by omega)]
        exact ht j i (by omega) hi
    · rw [L_X2_layAskedByPlaces_2]
      simp (disch := omega) only [q_ckt, q_lt, q_cI, q_cJ, q_cV, q_cP, q_xI, q_xV, q_xP, q_xJ, g_gk, g_ga, g_gw, g_gp, g_gq, g_P, g_J, q_I_s, q_I_n, q_I_k, nI_add, pk_sub, pk_mul, nI_clamp, n_lt0, n_0lt, n_eq0, n_lt, n_le, n_eq, n_m1, n_m2, n_m9, n_12, n_19, n_10, n_01, n_1n1, n_0n1, n_1n0, n_0n0, n_dI, n_m1lt, q_inb, n_nar, n_nar0, n_nar1, n_bool, Bool.false_eq_true, Bool.true_eq_false, if_true, if_false, ↓reduceIte, Nat.reduceAdd, Nat.reduceMul, Nat.reduceSub, Nat.reduceLT, Nat.reduceLeDiff, Nat.reduceEqDiff, Nat.reduceMod, Nat.reduceDiv, c_ocg ct.1 Pt, q_S ct.1 (a := 12) (by decide), c_use ct, hx]
      exact ee) (by
    rintro t ⟨hq, ht⟩
    have ct := c_rl_S h hq (by decide) (by decide)
    have Pt := c_ocP_eq hq hP
    rw [L_X2_layAskedByPlaces_2]
    simp (disch := omega) only [q_ckt, q_lt, q_cI, q_cJ, q_cV, q_cP, q_xI, q_xV, q_xP, q_xJ, g_gk, g_ga, g_gw, g_gp, g_gq, g_P, g_J, q_I_s, q_I_n, q_I_k, nI_add, pk_sub, pk_mul, nI_clamp, n_lt0, n_0lt, n_eq0, n_lt, n_le, n_eq, n_m1, n_m2, n_m9, n_12, n_19, n_10, n_01, n_1n1, n_0n1, n_1n0, n_0n0, n_dI, n_m1lt, q_inb, n_nar, n_nar0, n_nar1, n_bool, Bool.false_eq_true, Bool.true_eq_false, if_true, if_false, ↓reduceIte, Nat.reduceAdd, Nat.reduceMul, Nat.reduceSub, Nat.reduceLT, Nat.reduceLeDiff, Nat.reduceEqDiff, Nat.reduceMod, Nat.reduceDiv, c_ocg ct.1 Pt, q_S ct.1 (a := 12) (by decide), c_use ct, Nat.lt_irrefl]) (i := 0) (t := M) (by omega) ⟨q_eq.rf _ _, fun j i hj => absurd hj (by omega)⟩
  obtain ⟨t, ⟨a, b⟩, ee⟩ := L
  refine ⟨t, (E_X2_layAskedByPlaces (d + 3) 121 M).trans ee, a, fun p i hp hi => ?_⟩
  unfold k_mem at hp
  cases e : k_pl K p with
  | none => rw [e] at hp; exact nomatch hp
  | some j =>
    obtain ⟨h1, h2⟩ := k_pl_some e
    rw [← h2]
    exact b j i h1 hi
theorem k_cd_d : ∀ R, R < 256 → ∀ p, p < 8 → R.testBit p = true → k_card (k_dif R (2 ^ p)) + 1 = k_card R := by decide +kernel
theorem k_cd_o : ∀ R, R < 256 → ∀ p, p < 8 → R.testBit p = false → k_card (R ||| 2 ^ p) = k_card R + 1 := by decide +kernel
/-- the class's search -/
def q_su (M M' : ir_M) : Prop := q_go 0 M M' ∧ q_v1 M M' ∧ q_v2 M M'
theorem q_su.tr {A B C : ir_M} (h : q_su A B) (g : q_su B C) : q_su A C := ⟨h.1.tr g.1, fun a ha => (g.2.1 a ha).trans (h.2.1 a ha), fun a k ha => (g.2.2.1 a k ha).trans (h.2.2.1 a k ha), fun a ha => (g.2.2.2 a ha).trans (h.2.2.2 a ha)⟩
theorem q_st.su {M M' : ir_M} (h : q_st 0 M M') : q_su M M' := ⟨h.1, h.2.1, h.2.2.1⟩
theorem q_su_eq {S : List Nat} {M M' : ir_M} (hp : q_PI M) (he : q_eq S M M') (hS : ∀ a ∈ S, q_tmp a = true ∨ a = 121 ∨ a = 122) : q_su M M' := by
  have ne : ∀ a, q_tmp a = false → a ≠ 121 → a ≠ 122 → M'.1 a = M.1 a := fun a h1 h2 h3 => he.1 a (fun q => by
    rcases hS a q with w | w | w
    · rw [w] at h1; exact nomatch h1
    · exact h2 w
    · exact h3 w)
  have tm : ∀ a, q_tmp a = true → q_l1 a = false ∧ ∀ k, q_l2 a k = false := fun a ha => ⟨(q_tmp_no ha).1, (q_tmp_no ha).2.1⟩
  have no : ∀ a, q_l1 a = true → M'.1 a = M.1 a := fun a ha => ne a (by
    cases e : q_tmp a
    · rfl
    · rw [(tm a e).1] at ha; exact nomatch ha) (fun w => by rw [w] at ha; exact nomatch ha) (fun w => by rw [w] at ha; exact nomatch ha)
  refine ⟨q_go_2 hp he.2 (fun a ha => ne a ?_ (by omega) (by omega)), no, fun a k ha => ?_, fun a _ => by rw [he.2]⟩
  · cases e : q_tmp a
    · rfl
    · have := q_tmp_r e; omega
  · refine congrFun (ne a ?_ (fun w => by rw [w] at ha; exact nomatch ha) (fun w => by rw [w] at ha; exact nomatch ha)) k
    cases e : q_tmp a
    · rfl
    · rw [(tm a e).2 k] at ha; exact nomatch ha
theorem c_se {M : ir_M} (h : c_rl M 12 K) (hwf : k_wf K) (hap : c_ap M 4 K) : ∃ M', m_X2_search (d + 14) 121 4 12 116 least M = ir_oV M' ∧ q_su M M' ∧ ir_I M' 121 0 = 1 ∧ c_of M' (k_m K) (k_og K least (k_m K) [] (nI 0, none)) := by
  have hk := h.2.2.1
  have hb := k_bds hk
  obtain ⟨N1, e1⟩ : ∃ N, N = ir_sP M 121 8 4 := ⟨_, rfl⟩
  obtain ⟨N2, e2⟩ : ∃ N, N = ir_sP N1 121 9 12 := ⟨_, rfl⟩
  obtain ⟨N3, e3⟩ : ∃ N, N = ir_sP N2 121 10 116 := ⟨_, rfl⟩
  have s1 : q_st 0 M N1 := by rw [e1]; exact q_st_P h.1 (by decide +kernel) (by decide) (by decide)
  have s2 : q_st 0 N1 N2 := by rw [e2]; exact q_st_P s1.1.1 (by decide +kernel) (by decide) (by decide)
  have s3 : q_st 0 N2 N3 := by rw [e3]; exact q_st_P s2.1.1 (by decide +kernel) (by decide) (by decide)
  have s123 := (s1.tr s2).tr s3
  have iN : ∀ a k, ir_I N3 a k = ir_I M a k := fun a k => by rw [e3, p_I, e2, p_I, e1, p_I]
  have P3 : c_ocP N3 := by
    refine ⟨?_, ?_, ?_⟩
    · rw [e3, p_Pk (by decide), e2, p_Pk (by decide), e1, p_Ps]
    · rw [e3, p_Pk (by decide), e2, p_Ps]
    · rw [e3, p_Ps]
  obtain ⟨N4, e4⟩ : ∃ N, N = ir_sI (ir_sI (ir_sI (ir_sI N3 121 5 least) 121 1 (nI 0)) 121 3 (nI 0)) 121 2 (nI 0) := ⟨_, rfl⟩
  have q4 : q_eq [121] N3 N4 := by rw [e4]; exact (((q_eq.sI (by decide)).tr (q_eq.sI (by decide))).tr (q_eq.sI (by decide))).tr (q_eq.sI (by decide))
  have c3 := q_st_c s123 h
  have c4 := c_rl_S c3 q4 (by decide) (by decide)
  have P4 := c_ocP_eq q4 P3
  obtain ⟨N5, e5, q5, a5⟩ := c_lap (d := d + 9) c4 P4
  have c5 := c_rl_S c4 q5 (by decide) (by decide)
  have P5 := c_ocP_eq q5 P4
  obtain ⟨N6, e6, q6, a6, b6⟩ := c_lh (d := d + 11) (A := fun j => ir_I N5 117 (3 + j)) c5 (fun _ _ => rfl)
  have c6 := c_rl_eq c5 q6 (by decide)
  have P6 := c_ocP_eq q6 P5
  have q46 : q_eq [9, 117, 120, 124] N4 N6 := (q5.sub (by decide)).tr (q6.sub (by decide))
  have on6 : c_on K least [] N6 := by
    refine ⟨c6, P6, ?_, ?_, fun p i hp hi => by rw [q_I_eq q6 (by decide)]; exact a5 p i hp hi, fun i hi => absurd hi (by show ¬ i < 0; omega), fun i hi => absurd hi (by show ¬ i < 0; omega), fun w m0 b b1 b3 => (b6 m0 b b1 b3).trans (k_bk_n w)⟩
    · rw [q_I_eq q46 (by decide), e4, q_I_k (by decide), q_I_k (by decide), q_I_k (by decide), q_I_s]
    · refine c_ap_fr ?_ hap
      show N6.1 6 = M.1 6
      rw [q46.1 6 (by decide), q4.1 6 (by decide)]
      exact funext (iN 6)
  have of6 : c_of N6 (k_m K) (nI 0, none) := by
    refine ⟨?_, Or.inl ⟨rfl, ?_⟩⟩
    · rw [q_I_eq q46 (by decide), e4, q_I_k (by decide), q_I_s]
    · rw [q_I_eq q46 (by decide), e4, q_I_k (by decide), q_I_k (by decide), q_I_s]
      rfl
  obtain ⟨N7, e7, q7, a7, b7⟩ := c_osd (d := d + 8 - k_m K) hwf (k_m K) (r := []) (R := k_mb K) (by show 0 + k_m K = k_m K; omega) ⟨fun i hi => absurd hi (by show ¬ i < 0; omega), fun i j hi => absurd hi (by show ¬ i < 0; omega)⟩ ⟨k_mb_lt hk, fun p => by rw [k_mb_bit hk]; show k_mem K p = (k_mem K p && !false); rw [Bool.not_false, Bool.and_true]⟩ on6 of6
  rw [show d + 8 - k_m K + 5 + k_m K = d + 13 by omega, show ([] : List Nat).length = 0 from rfl, show k_os K [] 0 = nI 0 from rfl] at e7
  refine ⟨ir_sI N7 121 0 (nI 1), ?_, ?_, q_I_s, ?_⟩
  · have gv1 : ir_gv M 121 2 4 = true := q_gv0 h.1 rfl
    have gv2 : ir_gv N1 121 2 12 = true := q_gv0 s1.1.1 rfl
    have gv3 : ir_gv N2 121 2 116 = true := q_gv0 s2.1.1 rfl
    have mb := c_mb (d := d + 12) c6
    rw [E_X2_search]
    simp (disch := omega) only [q_ckt, q_lt, q_cI, q_cJ, q_cV, q_cP, q_xI, q_xV, q_xP, q_xJ, g_gk, g_ga, g_gw, g_gp, g_gq, g_P, g_J, q_I_s, q_I_n, q_I_k, nI_add, pk_sub, pk_mul, nI_clamp, n_lt0, n_0lt, n_eq0, n_lt, n_le, n_eq, n_m1, n_m2, n_m9, n_12, n_19, n_10, n_01, n_1n1, n_0n1, n_1n0, n_0n0, n_dI, n_m1lt, q_inb, n_nar, n_nar0, n_nar1, n_bool, Bool.false_eq_true, Bool.true_eq_false, if_true, if_false, ↓reduceIte, Nat.reduceAdd, Nat.reduceMul, Nat.reduceSub, Nat.reduceLT, Nat.reduceLeDiff, Nat.reduceEqDiff, Nat.reduceMod, Nat.reduceDiv, gv1]
    rw [← e1]
    simp (disch := omega) only [q_ckt, q_lt, q_cI, q_cJ, q_cV, q_cP, q_xI, q_xV, q_xP, q_xJ, g_gk, g_ga, g_gw, g_gp, g_gq, g_P, g_J, q_I_s, q_I_n, q_I_k, nI_add, pk_sub, pk_mul, nI_clamp, n_lt0, n_0lt, n_eq0, n_lt, n_le, n_eq, n_m1, n_m2, n_m9, n_12, n_19, n_10, n_01, n_1n1, n_0n1, n_1n0, n_0n0, n_dI, n_m1lt, q_inb, n_nar, n_nar0, n_nar1, n_bool, Bool.false_eq_true, Bool.true_eq_false, if_true, if_false, ↓reduceIte, Nat.reduceAdd, Nat.reduceMul, Nat.reduceSub, Nat.reduceLT, Nat.reduceLeDiff, Nat.reduceEqDiff, Nat.reduceMod, Nat.reduceDiv, gv2]
    rw [← e2]
    simp (disch := omega) only [q_ckt, q_lt, q_cI, q_cJ, q_cV, q_cP, q_xI, q_xV, q_xP, q_xJ, g_gk, g_ga, g_gw, g_gp, g_gq, g_P, g_J, q_I_s, q_I_n, q_I_k, nI_add, pk_sub, pk_mul, nI_clamp, n_lt0, n_0lt, n_eq0, n_lt, n_le, n_eq, n_m1, n_m2, n_m9, n_12, n_19, n_10, n_01, n_1n1, n_0n1, n_1n0, n_0n0, n_dI, n_m1lt, q_inb, n_nar, n_nar0, n_nar1, n_bool, Bool.false_eq_true, Bool.true_eq_false, if_true, if_false, ↓reduceIte, Nat.reduceAdd, Nat.reduceMul, Nat.reduceSub, Nat.reduceLT, Nat.reduceLeDiff, Nat.reduceEqDiff, Nat.reduceMod, Nat.reduceDiv, gv3]
    rw [← e3]
    simp (disch := omega) only [q_ckt, q_lt, q_cI, q_cJ, q_cV, q_cP, q_xI, q_xV, q_xP, q_xJ, g_gk, g_ga, g_gw, g_gp, g_gq, g_P, g_J, q_I_s, q_I_n, q_I_k, nI_add, pk_sub, pk_mul, nI_clamp, n_lt0, n_0lt, n_eq0, n_lt, n_le, n_eq, n_m1, n_m2, n_m9, n_12, n_19, n_10, n_01, n_1n1, n_0n1, n_1n0, n_0n0, n_dI, n_m1lt, q_inb, n_nar, n_nar0, n_nar1, n_bool, Bool.false_eq_true, Bool.true_eq_false, if_true, if_false, ↓reduceIte, Nat.reduceAdd, Nat.reduceMul, Nat.reduceSub, Nat.reduceLT, Nat.reduceLeDiff, Nat.reduceEqDiff, Nat.reduceMod, Nat.reduceDiv, q_O s3.1.1, show ir_isB (nI 0) = true from rfl, Bool.and_self]
    rw [← e4]
    simp (disch := omega) only [q_ckt, q_lt, q_cI, q_cJ, q_cV, q_cP, q_xI, q_xV, q_xP, q_xJ, g_gk, g_ga, g_gw, g_gp, g_gq, g_P, g_J, q_I_s, q_I_n, q_I_k, nI_add, pk_sub, pk_mul, nI_clamp, n_lt0, n_0lt, n_eq0, n_lt, n_le, n_eq, n_m1, n_m2, n_m9, n_12, n_19, n_10, n_01, n_1n1, n_0n1, n_1n0, n_0n0, n_dI, n_m1lt, q_inb, n_nar, n_nar0, n_nar1, n_bool, Bool.false_eq_true, Bool.true_eq_false, if_true, if_false, ↓reduceIte, Nat.reduceAdd, Nat.reduceMul, Nat.reduceSub, Nat.reduceLT, Nat.reduceLeDiff, Nat.reduceEqDiff, Nat.reduceMod, Nat.reduceDiv, q_O c4.1, e5, c_ocg c5.1 P5, q_F c5.1, e6, c_ocg c6.1 P6, q_S c6.1 (a := 12) (by decide), mb, q_O c6.1, e7, q_O a7.1.1, show ir_isB (nI 1) = true from rfl, Bool.and_self]
  · refine s123.su.tr (q_su_eq s3.1.1 (S := [9, 117, 120, 121, 122, 123, 124]) ?_ (by decide))
    exact (((q4.sub (by decide)).tr (q46.sub (by decide))).tr (q7.sub (by decide))).tr (q_eq.sI (by decide))
  · unfold c_of at b7 ⊢
    simp only [q_I_n (show (122 : Nat) ≠ 121 by decide), q_I_k (show (3 : Nat) ≠ 0 by decide), q_I_k (show (1 : Nat) ≠ 0 by decide), q_I_k (show (2 : Nat) ≠ 0 by decide)]
    exact b7
end OC2
