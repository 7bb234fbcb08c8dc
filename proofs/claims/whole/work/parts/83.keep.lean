/-! a deed is kept -/
section KP
variable {M : ir_M} {K : Nat → Int32} {d : Nat}
theorem r_keeps57 {F : Nat → Int32} {e : Nat} (hp : q_PI M) (hF : ∀ k, ir_I M 413 k = F k) (h8 : F 8 = nI e) (he : e ≤ 11) : ∃ M', v_X12_keeps_57 d 412 (nI 0) M = ir_oV M' ∧ q_eq [413] M M' ∧ ∀ k, ir_I M' 413 k = if k = 8 then nI (e + 1) else if 189 + 44 * e ≤ k ∧ k < 189 + 44 * e + 44 then F (9 + (k - (189 + 44 * e))) else F k := by
  have L := q_up (σ := ir_M) (V := fun x t => v_X12_keeps_57 d 412 (nI x) t) (N := 44) (I := fun x t => q_eq [413] M t ∧ ∀ k, ir_I t 413 k = if 189 + 44 * e ≤ k ∧ k < 189 + 44 * e + x then F (9 + (k - (189 + 44 * e))) else F k) (K := fun t => ir_oV (ir_sI t 413 8 (nI (e + 1)))) (by
    rintro x t hx ⟨hq, ht⟩
    have hpt := q_PI_eq hq hp
    have e8 : ir_I t 413 8 = nI e := by rw [ht, if_neg (by omega), h8]
    have ex : ir_I t 413 (9 + x) = F (9 + x) := by rw [ht, if_neg (by omega)]
    refine ⟨ir_sI t 413 (189 + 44 * e + x) (F (9 + x)), ⟨hq.tr (q_eq.sI (by decide)), fun k => ?_⟩, ?_⟩
    · rw [q_I_u, ht]
      by_cases q : k = 189 + 44 * e + x
      · rw [if_pos q, if_pos (by omega), q, show 9 + (189 + 44 * e + x - (189 + 44 * e)) = 9 + x by omega]
      · rw [if_neg q]
        by_cases q2 : 189 + 44 * e ≤ k ∧ k < 189 + 44 * e + x
        · rw [if_pos q2, if_pos (by omega)]
        · rw [if_neg q2, if_neg (by omega)]
    · rw [L_X12_keeps_57]
      simp (disch := omega) only [q_ckt, q_lt, q_cI, q_cJ, q_cV, q_cP, q_xI, q_xV, q_xP, q_xJ, g_gk, g_ga, g_gw, g_gp, g_gq, g_P, g_J, q_I_s, q_I_n, q_I_k, nI_add, pk_sub, pk_mul, nI_clamp, n_lt0, n_0lt, n_eq0, n_lt, n_le, n_eq, n_m1, n_m2, n_m9, n_12, n_19, n_10, n_01, n_1n1, n_0n1, n_1n0, n_0n0, n_dI, n_m1lt, q_inb, n_nar, n_nar0, n_nar1, n_bool, Bool.false_eq_true, Bool.true_eq_false, if_true, if_false, ↓reduceIte, Nat.reduceAdd, Nat.reduceMul, Nat.reduceSub, Nat.reduceLT, Nat.reduceLeDiff, Nat.reduceEqDiff, Nat.reduceMod, Nat.reduceDiv, q_R hpt, hx, e8, ex]) (by
    rintro t ⟨hq, ht⟩
    have hpt := q_PI_eq hq hp
    have e8 : ir_I t 413 8 = nI e := by rw [ht, if_neg (by omega), h8]
    rw [L_X12_keeps_57]
    simp (disch := omega) only [q_ckt, q_lt, q_cI, q_cJ, q_cV, q_cP, q_xI, q_xV, q_xP, q_xJ, g_gk, g_ga, g_gw, g_gp, g_gq, g_P, g_J, q_I_s, q_I_n, q_I_k, nI_add, pk_sub, pk_mul, nI_clamp, n_lt0, n_0lt, n_eq0, n_lt, n_le, n_eq, n_m1, n_m2, n_m9, n_12, n_19, n_10, n_01, n_1n1, n_0n1, n_1n0, n_0n0, n_dI, n_m1lt, q_inb, n_nar, n_nar0, n_nar1, n_bool, Bool.false_eq_true, Bool.true_eq_false, if_true, if_false, ↓reduceIte, Nat.reduceAdd, Nat.reduceMul, Nat.reduceSub, Nat.reduceLT, Nat.reduceLeDiff, Nat.reduceEqDiff, Nat.reduceMod, Nat.reduceDiv, q_R hpt, e8]) (i := 0) (t := M) (by omega) ⟨q_eq.rf _ _, fun k => by rw [if_neg (by omega)]; exact hF k⟩
  obtain ⟨t, ⟨hq, ht⟩, ee⟩ := L
  refine ⟨_, ee, hq.tr (q_eq.sI (by decide)), fun k => ?_⟩
  rw [q_I_u, ht]
theorem r_keeps (hp : q_PI M) (hK : ∀ k, ir_I M 413 k = K k) (h8 : K 8 = nI (k_nd K)) (h12 : k_nd K ≤ 12) : ∃ M', m_X12_keeps (d + 1) 412 M = ir_oV M' ∧ q_eq [413] M M' ∧ ∀ k, ir_I M' 413 k = k_kp K k := by
  rw [E_X12_keeps]
  have e8 : ir_I M 413 8 = nI (k_nd K) := (hK 8).trans h8
  by_cases h : k_nd K < 12
  · obtain ⟨M', e', q', a'⟩ := r_keeps57 (d := d) hp hK h8 (by omega)
    refine ⟨M', ?_, q', fun k => ?_⟩
    · simp (disch := omega) only [q_ckt, q_lt, q_cI, q_cJ, q_cV, q_cP, q_xI, q_xV, q_xP, q_xJ, g_gk, g_ga, g_gw, g_gp, g_gq, g_P, g_J, q_I_s, q_I_n, q_I_k, nI_add, pk_sub, pk_mul, nI_clamp, n_lt0, n_0lt, n_eq0, n_lt, n_le, n_eq, n_m1, n_m2, n_m9, n_12, n_19, n_10, n_01, n_1n1, n_0n1, n_1n0, n_0n0, n_dI, n_m1lt, q_inb, n_nar, n_nar0, n_nar1, n_bool, Bool.false_eq_true, Bool.true_eq_false, if_true, if_false, ↓reduceIte, Nat.reduceAdd, Nat.reduceMul, Nat.reduceSub, Nat.reduceLT, Nat.reduceLeDiff, Nat.reduceEqDiff, Nat.reduceMod, Nat.reduceDiv, q_R hp, e8, show ¬ k_nd K = 12 by omega]
      exact e'
    · rw [a']
      unfold k_kp
      rw [if_pos h]
  · have L := q_up (σ := ir_M) (V := fun x t => v_X12_keeps_16 d 412 (nI x) t) (N := 673) (I := fun x t => 189 ≤ x ∧ q_eq [413] M t ∧ ∀ k, ir_I t 413 k = if 189 ≤ k ∧ k < x then K (k + 44) else K k) (K := fun t => v_X12_keeps_57 d 412 (nI 0) (ir_sI t 413 8 (nI 11))) (by
      rintro x t hx ⟨h1, hq, ht⟩
      have hpt := q_PI_eq hq hp
      have ex : ir_I t 413 (x + 44) = K (x + 44) := by rw [ht, if_neg (by omega)]
      refine ⟨ir_sI t 413 x (K (x + 44)), ⟨by omega, hq.tr (q_eq.sI (by decide)), fun k => ?_⟩, ?_⟩
      · rw [q_I_u, ht]
        by_cases q : k = x
        · rw [if_pos q, if_pos (by omega), q]
        · rw [if_neg q]
          by_cases q2 : 189 ≤ k ∧ k < x
          · rw [if_pos q2, if_pos (by omega)]
          · rw [if_neg q2, if_neg (by omega)]
      · rw [L_X12_keeps_16]
        simp (disch := omega) only [q_ckt, q_lt, q_cI, q_cJ, q_cV, q_cP, q_xI, q_xV, q_xP, q_xJ, g_gk, g_ga, g_gw, g_gp, g_gq, g_P, g_J, q_I_s, q_I_n, q_I_k, nI_add, pk_sub, pk_mul, nI_clamp, n_lt0, n_0lt, n_eq0, n_lt, n_le, n_eq, n_m1, n_m2, n_m9, n_12, n_19, n_10, n_01, n_1n1, n_0n1, n_1n0, n_0n0, n_dI, n_m1lt, q_inb, n_nar, n_nar0, n_nar1, n_bool, Bool.false_eq_true, Bool.true_eq_false, if_true, if_false, ↓reduceIte, Nat.reduceAdd, Nat.reduceMul, Nat.reduceSub, Nat.reduceLT, Nat.reduceLeDiff, Nat.reduceEqDiff, Nat.reduceMod, Nat.reduceDiv, q_R hpt, hx, ex]) (by
      rintro t ⟨h1, hq, ht⟩
      have hpt := q_PI_eq hq hp
      have e8 : ir_I t 413 8 = nI 12 := by rw [ht, if_neg (by omega), h8, show k_nd K = 12 by omega]
      rw [L_X12_keeps_16]
      simp (disch := omega) only [q_ckt, q_lt, q_cI, q_cJ, q_cV, q_cP, q_xI, q_xV, q_xP, q_xJ, g_gk, g_ga, g_gw, g_gp, g_gq, g_P, g_J, q_I_s, q_I_n, q_I_k, nI_add, pk_sub, pk_mul, nI_clamp, n_lt0, n_0lt, n_eq0, n_lt, n_le, n_eq, n_m1, n_m2, n_m9, n_12, n_19, n_10, n_01, n_1n1, n_0n1, n_1n0, n_0n0, n_dI, n_m1lt, q_inb, n_nar, n_nar0, n_nar1, n_bool, Bool.false_eq_true, Bool.true_eq_false, if_true, if_false, ↓reduceIte, Nat.reduceAdd, Nat.reduceMul, Nat.reduceSub, Nat.reduceLT, Nat.reduceLeDiff, Nat.reduceEqDiff, Nat.reduceMod, Nat.reduceDiv, q_R hpt, e8]) (i := 189) (t := M) (by omega) ⟨by omega, q_eq.rf _ _, fun k => by rw [if_neg (by omega)]; exact hK k⟩
    obtain ⟨t, ⟨-, hq, ht⟩, ee⟩ := L
    have hq2 : q_eq [413] M (ir_sI t 413 8 (nI 11)) := hq.tr (q_eq.sI (by decide))
    obtain ⟨M', e', q', a'⟩ := r_keeps57 (d := d) (e := 11) (F := fun k => if k = 8 then nI 11 else if 189 ≤ k ∧ k < 673 then K (k + 44) else K k) (q_PI_eq hq2 hp) (fun k => by rw [q_I_u, ht]) (if_pos rfl) (by omega)
    refine ⟨M', ?_, hq2.tr q', fun k => ?_⟩
    · simp (disch := omega) only [q_ckt, q_lt, q_cI, q_cJ, q_cV, q_cP, q_xI, q_xV, q_xP, q_xJ, g_gk, g_ga, g_gw, g_gp, g_gq, g_P, g_J, q_I_s, q_I_n, q_I_k, nI_add, pk_sub, pk_mul, nI_clamp, n_lt0, n_0lt, n_eq0, n_lt, n_le, n_eq, n_m1, n_m2, n_m9, n_12, n_19, n_10, n_01, n_1n1, n_0n1, n_1n0, n_0n0, n_dI, n_m1lt, q_inb, n_nar, n_nar0, n_nar1, n_bool, Bool.false_eq_true, Bool.true_eq_false, if_true, if_false, ↓reduceIte, Nat.reduceAdd, Nat.reduceMul, Nat.reduceSub, Nat.reduceLT, Nat.reduceLeDiff, Nat.reduceEqDiff, Nat.reduceMod, Nat.reduceDiv, q_R hp, e8, show k_nd K = 12 by omega]
      exact ee.trans e'
    · rw [a']
      unfold k_kp
      rw [if_neg h]
      by_cases q1 : k = 8
      · rw [if_pos q1, if_neg (by omega), if_neg (by omega), q1, h8, show k_nd K = 12 by omega]
      · rw [if_neg q1]
        by_cases q2 : 189 + 44 * 11 ≤ k ∧ k < 189 + 44 * 11 + 44
        · rw [if_pos q2, if_neg (by omega), if_neg (by omega), if_neg (show ¬ (189 ≤ k ∧ k < 673) by omega), if_pos (show 673 ≤ k ∧ k < 717 by omega)]
        · rw [if_neg q2, if_neg q1]
          by_cases q3 : 189 ≤ k ∧ k < 673
          · rw [if_pos q3, if_pos q3]
          · rw [if_neg q3, if_neg q3, if_neg (show ¬ (673 ≤ k ∧ k < 717) by omega)]
theorem q_S_3 : ∀ x, x < 12 → ∀ j, j < 6 → q_pc (19 + 6 * x + j) = true ∧ 19 + 6 * x + j ≠ 1 := by decide +kernel
theorem k_n_put {F : Nat → Int32} : k_n (k_put K F) = k_n K := by unfold k_n; rw [k_put_o (by omega)]
theorem c_keepDeed0 (hp : q_PI M) (hw : k_wf K) (hs : c_sc M 3 K) : ∃ M', m_X11_keepDeed (d + 3) 1 M = ir_oV M' ∧ q_dc M M' ∧ M'.1 1 = M.1 1 ∧ ir_I M' 121 0 = 0 ∧ c_sc M' 3 (k_kp K) := by
  obtain ⟨hk, ⟨n1, n2, n3⟩, ⟨a1, a2, a3⟩, -⟩ := hw
  obtain ⟨ht, hap, hst, hu2, e, he, hu3, hu, hu7⟩ := hs
  have hb := k_bds hk
  have b12 : (12 : Nat) ∈ q_S_l := by decide
  have hx : (e + k_nd K) % 12 < 12 := Nat.mod_lt _ (by decide)
  obtain ⟨x, ex⟩ : ∃ x, x = (e + k_nd K) % 12 := ⟨_, rfl⟩
  rw [← ex] at hx
  have hxS := q_S_kp x hx
  have hring : ir_I M 12 2 = 0 ∨ ir_I M 12 2 = 1 := by
    rw [hst.2.2.1]
    exact hk.2.2.2.2.2.2.2.2.1
  obtain ⟨M1, e1, q1, f0, f1⟩ := c_take (d := d) hp hxS b12 (by omega) hring
  have hp1 := q_PI_eq q1 hp
  -- what isn't in the slot stays
  have fr : ∀ a, ¬ (19 + 6 * x ≤ a ∧ a < 19 + 6 * x + 6) → M1.1 a = M.1 a := fun a ha => q1.1 a (fun q => by simp only [List.mem_cons, List.not_mem_nil, or_false] at q; omega)
  have c1 : c_st M1 (19 + 6 * x) K := c_st_take (by omega) (by omega) (by omega) hst f0 f1
  have e32 : ir_I M1 3 2 = nI (k_nd K) := (congrFun (fr 3 (by omega)) 2).trans (hu2.trans n1)
  have e33 : ir_I M1 3 3 = nI e := (congrFun (fr 3 (by omega)) 3).trans hu3
  obtain ⟨fld, val, e', hfv⟩ : ∃ (fld : Nat) (val : Int32) (e' : Nat), (k_nd K < 12 ∧ fld = 2 ∧ val = nI (k_nd K + 1) ∧ e' = e) ∨ (k_nd K = 12 ∧ fld = 3 ∧ val = nI ((e + 1) % 12) ∧ e' = (e + 1) % 12) := by
    by_cases q : k_nd K < 12
    · exact ⟨2, _, e, Or.inl ⟨q, rfl, rfl, rfl⟩⟩
    · exact ⟨3, _, _, Or.inr ⟨by omega, rfl, rfl, rfl⟩⟩
  refine ⟨ir_sI (ir_sI M1 3 fld val) 121 0 (nI 0), ?_, ?_, ((q_eq.sI (S := [121]) (by decide)).1 1 (by decide)).trans (((q_eq.sI (S := [3]) (by decide)).1 1 (by decide)).trans (fr 1 (by omega))), ?_, ?_⟩
  · rw [E_X11_keepDeed]
    rcases hfv with ⟨h1, rfl, rfl, rfl⟩ | ⟨h1, rfl, rfl, rfl⟩
    · simp (disch := omega) only [q_ckt, q_lt, q_cI, q_cJ, q_cV, q_cP, q_xI, q_xV, q_xP, q_xJ, g_gk, g_ga, g_gw, g_gp, g_gq, g_P, g_J, q_I_s, q_I_n, q_I_k, nI_add, pk_sub, pk_mul, nI_clamp, n_lt0, n_0lt, n_eq0, n_lt, n_le, n_eq, n_m1, n_m2, n_m9, n_12, n_19, n_10, n_01, n_1n1, n_0n1, n_1n0, n_0n0, n_dI, n_m1lt, q_inb, n_nar, n_nar0, n_nar1, n_bool, Bool.false_eq_true, Bool.true_eq_false, if_true, if_false, ↓reduceIte, Nat.reduceAdd, Nat.reduceMul, Nat.reduceSub, Nat.reduceLT, Nat.reduceLeDiff, Nat.reduceEqDiff, Nat.reduceMod, Nat.reduceDiv, q_W hp, E_X5_keep, hu3, hu2.trans n1, pk_rem, ← ex, q_k18 hp hx, n_blt, Bool.true_or, Bool.and_self, q_S hp hxS, e1, q_W hp1, e32, h1, q_O hp1, show ir_isB (nI 0) = true from rfl]
    · simp (disch := omega) only [q_ckt, q_lt, q_cI, q_cJ, q_cV, q_cP, q_xI, q_xV, q_xP, q_xJ, g_gk, g_ga, g_gw, g_gp, g_gq, g_P, g_J, q_I_s, q_I_n, q_I_k, nI_add, pk_sub, pk_mul, nI_clamp, n_lt0, n_0lt, n_eq0, n_lt, n_le, n_eq, n_m1, n_m2, n_m9, n_12, n_19, n_10, n_01, n_1n1, n_0n1, n_1n0, n_0n0, n_dI, n_m1lt, q_inb, n_nar, n_nar0, n_nar1, n_bool, Bool.false_eq_true, Bool.true_eq_false, if_true, if_false, ↓reduceIte, Nat.reduceAdd, Nat.reduceMul, Nat.reduceSub, Nat.reduceLT, Nat.reduceLeDiff, Nat.reduceEqDiff, Nat.reduceMod, Nat.reduceDiv, q_W hp, E_X5_keep, hu3, hu2.trans n1, pk_rem, ← ex, q_k18 hp hx, n_blt, Bool.true_or, Bool.and_self, q_S hp hxS, e1, q_W hp1, e32, e33, show ¬ k_nd K < 12 by omega, q_O hp1, show ir_isB (nI 0) = true from rfl]
  · refine (q_dc_eq q1 (fun a ha => ?_)).tr ((q_dc_eq (q_eq.sI (S := [3]) (by decide)) (by decide)).tr (q_dc_eq (q_eq.sI (S := [121]) (by decide)) (by decide)))
    simp only [List.mem_cons, List.not_mem_nil, or_false] at ha
    have z := fun j h => q_S_3 x hx j h
    rcases ha with rfl | rfl | rfl | rfl | rfl | rfl
    · exact z 0 (by decide)
    · exact z 1 (by decide)
    · exact z 2 (by decide)
    · exact z 3 (by decide)
    · exact z 4 (by decide)
    · exact z 5 (by decide)
  · rw [q_I_s]
    rfl
  · obtain ⟨N, eN⟩ : ∃ N, N = ir_sI (ir_sI M1 3 fld val) 121 0 (nI 0) := ⟨_, rfl⟩
    rw [← eN]
    have frN : ∀ a, a ≠ 3 → a ≠ 121 → N.1 a = M1.1 a := fun a h3 h121 => by
      rw [eN]
      exact (if_neg h121).trans (if_neg h3)
    have fN : ∀ a, a ≠ 3 → a ≠ 121 → ¬ (19 + 6 * x ≤ a ∧ a < 19 + 6 * x + 6) → N.1 a = M.1 a := fun a h3 h1 h2 => (frN a h3 h1).trans (fr a h2)
    have r3 : ∀ k, ir_I N 3 k = if k = fld then val else ir_I M1 3 k := fun k => by
      rw [eN, q_I_n (by omega), q_I_u]
    have old : ∀ i, i < k_nd K → (e + i) % 12 ≠ x → c_st N (19 + 6 * ((e + i) % 12)) (k_put K (k_un K i)) := fun i hi hne => by
      have := Nat.mod_lt (e + i) (show 0 < 12 by decide)
      exact c_st_fr (fun j hj => fN _ (by omega) (by omega) (by omega)) (hu i hi)
    have new : c_st N (19 + 6 * x) K := c_st_fr (fun j hj => frN _ (by omega) (by omega)) c1
    have bn : ∀ i, i < k_nd K → k_m (k_put K (k_un K i)) ≤ 8 ∧ k_n (k_put K (k_un K i)) ≤ 8 ∧ k_w (k_put K (k_un K i)) ≤ 8 := fun i hi => by
      have h1 := (n3 i hi).2.1
      have h2 := (n3 i hi).2.2.2.2.2.2.2.2.2.1
      have h3 : k_n (k_put K (k_un K i)) = k_n K := k_n_put
      omega
    obtain ⟨d1, d2⟩ := k_kp_nd n2 n1
    refine ⟨c_tdT_cg (by omega) (by omega) (fun k hk h8 => k_kp_o (by omega)) (fun k h1 h2 => k_kp_o (by omega)) (fun k hk => k_kp_o (by omega)) (c_tdT_fr (fun j hj _ _ => fN _ (by omega) (by omega) (by omega)) ht), ?_, c_st_cg (by omega) (by omega) (by omega) (fun k hk h8 => k_kp_o (by omega)) (c_st_fr (fun j hj => fN _ (by omega) (by omega) (by omega)) hst), ?_, e', ?_, ?_, fun i hi => ?_, fun z hz => ?_⟩
    · intro p hp'
      have en : k_n (k_kp K) = k_n K := by unfold k_n; rw [k_kp_o (by omega)]
      rw [en] at hp'
      obtain ⟨y, y1, y2, y3⟩ := hap p hp'
      refine ⟨y, y1, (congrFun (fN _ (by omega) (by omega) (by omega)) p).trans y2, fun q hq => ?_⟩
      rw [y3 q hq, k_ap_cg a2 (k_kp_o (by omega)) (fun k h1 h2 => k_kp_o (by omega))]
    · rw [r3, d1]
      rcases hfv with ⟨h1, rfl, rfl, rfl⟩ | ⟨h1, rfl, rfl, rfl⟩
      · rw [if_pos rfl, if_pos h1]
      · rw [if_neg (by decide), e32, if_neg (by omega), h1]
    · rcases hfv with ⟨h1, rfl, rfl, rfl⟩ | ⟨h1, rfl, rfl, rfl⟩
      · exact he
      · exact Nat.mod_lt _ (by decide)
    · rw [r3]
      rcases hfv with ⟨h1, rfl, rfl, rfl⟩ | ⟨h1, rfl, rfl, rfl⟩
      · rw [if_neg (by decide), e33]
      · rw [if_pos rfl]
    · rw [d2] at hi
      show c_st N (19 + 6 * ((e' + i) % 12)) _
      rcases hfv with ⟨h1, rfl, rfl, rfl⟩ | ⟨h1, rfl, rfl, rfl⟩
      · rw [if_pos h1] at hi
        by_cases q : i < k_nd K
        · obtain ⟨x1, x2, x3⟩ := bn i q
          exact c_st_cg x1 x2 x3 (fun k hk h8 => ((k_kp_un n2 hk h8).1 h1).1 q) (old i q (by omega))
        · have : i = k_nd K := by omega
          subst this
          rw [← ex]
          exact c_st_cg (by omega) (by omega) (by omega) (fun k hk h8 => ((k_kp_un n2 hk h8).1 h1).2 rfl) new
      · rw [if_neg (by omega)] at hi
        by_cases q : i < 11
        · obtain ⟨x1, x2, x3⟩ := bn (i + 1) (by omega)
          have := old (i + 1) (by omega) (by omega)
          rw [show ((e + 1) % 12 + i) % 12 = (e + (i + 1)) % 12 by omega]
          exact c_st_cg x1 x2 x3 (fun k hk h8 => ((k_kp_un n2 hk h8).2 h1).1 q) this
        · have : i = 11 := by omega
          subst this
          rw [show ((e + 1) % 12 + 11) % 12 = x by omega]
          exact c_st_cg (by omega) (by omega) (by omega) (fun k hk h8 => ((k_kp_un n2 hk h8).2 h1).2 rfl) new
    · show ir_I N (19 + 6 * z) 2 = 0 ∨ ir_I N (19 + 6 * z) 2 = 1
      by_cases q : z = x
      · rw [q, show ir_I N (19 + 6 * x) 2 = ir_I M1 (19 + 6 * x) 2 from congrFun (frN _ (by omega) (by omega)) 2, f0 2 (by decide)]
        exact hring
      · rw [show ir_I N (19 + 6 * z) 2 = ir_I M (19 + 6 * z) 2 from congrFun (fN _ (by omega) (by omega) (by omega)) 2]
        exact hu7 z hz
theorem c_keepDeed (hp : q_PI M) (hw : k_wf K) (hs : c_sc M 3 K) : ∃ M', m_X11_keepDeed (d + 3) 1 M = ir_oV M' ∧ q_dc M M' ∧ ir_I M' 121 0 = 0 ∧ c_sc M' 3 (k_kp K) := by
  obtain ⟨M', h1, h2, -, h3, h4⟩ := c_keepDeed0 (d := d) hp hw hs
  exact ⟨M', h1, h2, h3, h4⟩
end KP
