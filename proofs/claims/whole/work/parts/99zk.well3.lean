/-! THE WELL: Strings; a token, both -/
section ST
variable {L : Nat} {xs : Nat → Int32} {M : ir_M} {d i : Nat}
theorem s_kd (hi : i < 55) : ir_kd (1000000 + i) = 50 ∧ ir_kd (1100000 + i) = 102 := by
  have h : ∀ i, i < 55 → ir_kd (1000000 + i) = 50 ∧ ir_kd (1100000 + i) = 102 := by decide +kernel
  exact h i hi
theorem s_len : ∀ i, i < 55 → (ir_byt i).length < 128 := by decide +kernel
theorem s_st (hx : q_X L xs M) (hi : i < 55) : ir_gk M (1000000 + i) 50 = true ∧ ir_P M (1000000 + i) 0 = 1100000 + i ∧ ir_gp M (1000000 + i) 50 0 = true ∧ ir_I M (1000000 + i) 1 = 0 ∧ ir_gl M (1100000 + i) = true ∧ ir_ln M (1100000 + i) = (ir_byt i).length ∧ (∀ k, k < (ir_byt i).length → ir_ga M (1100000 + i) 102 (nI k) = true) ∧ ∀ k, ir_I M (1100000 + i) k = (ir_byt i).getD k 0 := by
  obtain ⟨k1, k2⟩ := s_kd hi
  have hl := s_len i hi
  have b1 : Nat.ble 1000000 (1000000 + i) = true := Nat.ble_eq_true_of_le (by omega)
  have b2 : Nat.ble 1000000 (1100000 + i) = true := Nat.ble_eq_true_of_le (by omega)
  have gk : ir_gk M (1000000 + i) 50 = true := by
    unfold ir_gk
    rw [k1, b1, Bool.or_true]
    rfl
  have gk2 : ir_gk M (1100000 + i) 102 = true := by
    unfold ir_gk
    rw [k2, b2, Bool.or_true]
    rfl
  have P : ir_P M (1000000 + i) 0 = 1100000 + i := by
    show M.2.2.1 (1000000 + i) 0 = _
    rw [(hx _ (by omega)).2.2]
    show (if 1000000 ≤ 1000000 + i ∧ 1000000 + i < 1100000 then 1000000 + i + 100000 else 0) = _
    rw [if_pos (by omega)]
    omega
  have ln : ir_ln M (1100000 + i) = (ir_byt i).length := by
    rw [ir_ln_ext (by omega), (hx _ (by omega)).2.1]
    show (if 1100000 + i = 2000000 then Int64.ofNat L else if 1100000 + i = 3000000 then 6 else if 1100000 ≤ 1100000 + i then Int64.ofNat (ir_byt (1100000 + i - 1100000)).length else 0).toInt.toNat = _
    rw [if_neg (by omega), if_neg (by omega), if_pos (by omega), show 1100000 + i - 1100000 = i by omega]
    exact ir_toI64 (by omega)
  refine ⟨gk, P, ?_, ?_, ?_, ln, fun k hk => ?_, fun k => ?_⟩
  · unfold ir_gp
    rw [gk, P, show Nat.blt 0 (1100000 + i) = true from Nat.ble_eq_true_of_le (by omega)]
    rfl
  · show M.1 (1000000 + i) 1 = 0
    rw [(hx _ (by omega)).1]
    show (if 1000000 + i = 2000000 then xs 1 else if 1000000 + i = 3000000 then ir_rows.getD 1 0 else if 1100000 ≤ 1000000 + i then _ else 0) = (0 : Int32)
    rw [if_neg (by omega), if_neg (by omega), if_neg (by omega)]
  · unfold ir_gl
    rw [k2, b2, Bool.or_true]
    rfl
  · unfold ir_ga
    rw [gk2, ln, q_inb hk (by omega)]
    rfl
  · show M.1 (1100000 + i) k = _
    rw [(hx _ (by omega)).1]
    show (if 1100000 + i = 2000000 then xs k else if 1100000 + i = 3000000 then ir_rows.getD k 0 else if 1100000 ≤ 1100000 + i then (ir_byt (1100000 + i - 1100000)).getD k 0 else 0) = _
    rw [if_neg (by omega), if_neg (by omega), if_pos (by omega), show 1100000 + i - 1100000 = i by omega]
theorem n_l0 : ∀ l, l < 128 → (Int32.ofNat l) >>> ((0 : Int32) &&& 31) = nI l := by decide +kernel
theorem n_ch : ∀ c, c < 128 → ((nI c &&& (255 : Int32)).toUInt32 % 65536).toInt32 = nI c ∧ ir_nar 3 (nI c) = true := by decide +kernel
theorem n_nr : ir_nar 2 (0 : Int32) = true ∧ ir_nar 1 (1 : Int32) = true ∧ ir_nar 1 (0 : Int32) = true := by decide +kernel
theorem s_lat (hx : q_X L xs M) (hi : i < 55) : m_J0_isLatin1_aae02 (d + 1) (1000000 + i) M = ir_oI 1 M := by
  obtain ⟨g1, -, -, g4, -⟩ := s_st hx hi
  rw [e_J0_isLatin1_aae02]
  simp (disch := omega) only [q_ckt, q_lt, q_cI, q_cJ, q_cV, q_cP, q_xI, q_xV, q_xP, q_xJ, g_gk, g_ga, g_gw, g_gp, g_gq, g_P, g_J, q_I_s, q_I_n, q_I_k, nI_add, pk_sub, pk_mul, nI_clamp, n_lt0, n_0lt, n_eq0, n_lt, n_le, n_eq, n_m1, n_m2, n_m9, n_12, n_19, n_10, n_01, n_1n1, n_0n1, n_1n0, n_0n0, n_dI, n_m1lt, q_inb, n_nar, n_nar0, n_nar1, n_bool, Bool.false_eq_true, Bool.true_eq_false, if_true, if_false, ↓reduceIte, Nat.reduceAdd, Nat.reduceMul, Nat.reduceSub, Nat.reduceLT, Nat.reduceLeDiff, Nat.reduceEqDiff, Nat.reduceMod, Nat.reduceDiv, g1, g4, n_nr]
theorem s_ln (hx : q_X L xs M) (hi : i < 55) : m_J0_length_8abf5 (d + 2) (1000000 + i) M = ir_oI (nI (ir_byt i).length) M := by
  obtain ⟨g1, g2, g3, g4, g5, g6, -, -⟩ := s_st hx hi
  have co : m_J0_coder_7d493 (d + 1) (1000000 + i) M = ir_oI 0 M := by
    rw [e_J0_coder_7d493]
    simp (disch := omega) only [q_ckt, q_lt, q_cI, q_cJ, q_cV, q_cP, q_xI, q_xV, q_xP, q_xJ, g_gk, g_ga, g_gw, g_gp, g_gq, g_P, g_J, q_I_s, q_I_n, q_I_k, nI_add, pk_sub, pk_mul, nI_clamp, n_lt0, n_0lt, n_eq0, n_lt, n_le, n_eq, n_m1, n_m2, n_m9, n_12, n_19, n_10, n_01, n_1n1, n_0n1, n_1n0, n_0n0, n_dI, n_m1lt, q_inb, n_nar, n_nar0, n_nar1, n_bool, Bool.false_eq_true, Bool.true_eq_false, if_true, if_false, ↓reduceIte, Nat.reduceAdd, Nat.reduceMul, Nat.reduceSub, Nat.reduceLT, Nat.reduceLeDiff, Nat.reduceEqDiff, Nat.reduceMod, Nat.reduceDiv, g1, g4, n_nr]
  rw [e_J0_length_8abf5]
  simp (disch := omega) only [q_ckt, q_lt, q_cI, q_cJ, q_cV, q_cP, q_xI, q_xV, q_xP, q_xJ, g_gk, g_ga, g_gw, g_gp, g_gq, g_P, g_J, q_I_s, q_I_n, q_I_k, nI_add, pk_sub, pk_mul, nI_clamp, n_lt0, n_0lt, n_eq0, n_lt, n_le, n_eq, n_m1, n_m2, n_m9, n_12, n_19, n_10, n_01, n_1n1, n_0n1, n_1n0, n_0n0, n_dI, n_m1lt, q_inb, n_nar, n_nar0, n_nar1, n_bool, Bool.false_eq_true, Bool.true_eq_false, if_true, if_false, ↓reduceIte, Nat.reduceAdd, Nat.reduceMul, Nat.reduceSub, Nat.reduceLT, Nat.reduceLeDiff, Nat.reduceEqDiff, Nat.reduceMod, Nat.reduceDiv, g3, g2, g5, g1, co, g6, n_l0 _ (s_len i hi)]
theorem s_ch (hx : q_X L xs M) (hi : i < 55) {k c : Nat} (hk : k < (ir_byt i).length) (hc : (ir_byt i).getD k 0 = nI c) (h128 : c < 128) : m_J0_charAt_5068e (d + 5) (1000000 + i) (nI k) M = ir_oI (nI c) M := by
  obtain ⟨g1, g2, g3, g4, g5, g6, g7, g8⟩ := s_st hx hi
  have hl := s_len i hi
  have ck : m_J0_checkIndex_df160 (d + 3) (nI k) (Int32.ofNat (ir_byt i).length) M = ir_oV M := by
    rw [e_J0_checkIndex_df160, e_J3_checkIndex_8e157]
    have : nI k < Int32.ofNat (ir_byt i).length := (nI_ltI (by omega) (by omega)).mpr hk
    simp (disch := omega) only [q_ckt, q_lt, q_cI, q_cJ, q_cV, q_cP, q_xI, q_xV, q_xP, q_xJ, g_gk, g_ga, g_gw, g_gp, g_gq, g_P, g_J, q_I_s, q_I_n, q_I_k, nI_add, pk_sub, pk_mul, nI_clamp, n_lt0, n_0lt, n_eq0, n_lt, n_le, n_eq, n_m1, n_m2, n_m9, n_12, n_19, n_10, n_01, n_1n1, n_0n1, n_1n0, n_0n0, n_dI, n_m1lt, q_inb, n_nar, n_nar0, n_nar1, n_bool, Bool.false_eq_true, Bool.true_eq_false, if_true, if_false, ↓reduceIte, Nat.reduceAdd, Nat.reduceMul, Nat.reduceSub, Nat.reduceLT, Nat.reduceLeDiff, Nat.reduceEqDiff, Nat.reduceMod, Nat.reduceDiv, this]
  have c1 : m_J1_charAt_3b067 (d + 4) (1100000 + i) (nI k) M = ir_oI (nI c) M := by
    rw [e_J1_charAt_3b067]
    simp (disch := omega) only [q_ckt, q_lt, q_cI, q_cJ, q_cV, q_cP, q_xI, q_xV, q_xP, q_xJ, g_gk, g_ga, g_gw, g_gp, g_gq, g_P, g_J, q_I_s, q_I_n, q_I_k, nI_add, pk_sub, pk_mul, nI_clamp, n_lt0, n_0lt, n_eq0, n_lt, n_le, n_eq, n_m1, n_m2, n_m9, n_12, n_19, n_10, n_01, n_1n1, n_0n1, n_1n0, n_0n0, n_dI, n_m1lt, q_inb, n_nar, n_nar0, n_nar1, n_bool, Bool.false_eq_true, Bool.true_eq_false, if_true, if_false, ↓reduceIte, Nat.reduceAdd, Nat.reduceMul, Nat.reduceSub, Nat.reduceLT, Nat.reduceLeDiff, Nat.reduceEqDiff, Nat.reduceMod, Nat.reduceDiv, g5, g6, ck, g7 k hk, Bool.true_or, g8, hc, n_ch c h128]
  rw [e_J0_charAt_5068e]
  simp (disch := omega) only [q_ckt, q_lt, q_cI, q_cJ, q_cV, q_cP, q_xI, q_xV, q_xP, q_xJ, g_gk, g_ga, g_gw, g_gp, g_gq, g_P, g_J, q_I_s, q_I_n, q_I_k, nI_add, pk_sub, pk_mul, nI_clamp, n_lt0, n_0lt, n_eq0, n_lt, n_le, n_eq, n_m1, n_m2, n_m9, n_12, n_19, n_10, n_01, n_1n1, n_0n1, n_1n0, n_0n0, n_dI, n_m1lt, q_inb, n_nar, n_nar0, n_nar1, n_bool, Bool.false_eq_true, Bool.true_eq_false, if_true, if_false, ↓reduceIte, Nat.reduceAdd, Nat.reduceMul, Nat.reduceSub, Nat.reduceLT, Nat.reduceLeDiff, Nat.reduceEqDiff, Nat.reduceMod, Nat.reduceDiv, g1, s_lat (d := d + 3) hx hi, n_10, g3, g2, c1, n_ch c h128]
theorem s_ixl (hx : q_X L xs M) {b : Nat} : ∀ (r x : Nat), x + r = 11 → ∃ v, v_J1_indexOfChar_4cfef_7 d 1100002 (nI 11) (nI b).toInt8.toInt32 (nI x) M = ir_oI v M ∧ (v < 0 ↔ ∀ k, x ≤ k → k < 11 → ¬ (ir_byt 2).getD k 0 = (nI b).toInt8.toInt32)
  | 0, x, hxr => by
    refine ⟨-1, ?_, ⟨fun _ k h1 h2 => by omega, fun _ => by decide +kernel⟩⟩
    rw [l_J1_indexOfChar_4cfef_7]
    simp (disch := omega) only [q_ckt, q_lt, q_cI, q_cJ, q_cV, q_cP, q_xI, q_xV, q_xP, q_xJ, g_gk, g_ga, g_gw, g_gp, g_gq, g_P, g_J, q_I_s, q_I_n, q_I_k, nI_add, pk_sub, pk_mul, nI_clamp, n_lt0, n_0lt, n_eq0, n_lt, n_le, n_eq, n_m1, n_m2, n_m9, n_12, n_19, n_10, n_01, n_1n1, n_0n1, n_1n0, n_0n0, n_dI, n_m1lt, q_inb, n_nar, n_nar0, n_nar1, n_bool, Bool.false_eq_true, Bool.true_eq_false, if_true, if_false, ↓reduceIte, Nat.reduceAdd, Nat.reduceMul, Nat.reduceSub, Nat.reduceLT, Nat.reduceLeDiff, Nat.reduceEqDiff, Nat.reduceMod, Nat.reduceDiv, show ¬ x < 11 by omega]
  | r + 1, x, hxr => by
    obtain ⟨-, -, -, -, -, g6, g7, g8⟩ := s_st (M := M) hx (show 2 < 55 by decide)
    have l11 : (ir_byt 2).length = 11 := by decide +kernel
    have g7' : ir_ga M 1100002 102 (nI x) = true := g7 x (by omega)
    have g8' : ir_I M 1100002 x = (ir_byt 2).getD x 0 := g8 x
    obtain ⟨v, e1, e2⟩ := s_ixl hx (b := b) r (x + 1) (by omega)
    by_cases q : (ir_byt 2).getD x 0 = (nI b).toInt8.toInt32
    · refine ⟨nI x, ?_, ⟨fun w => absurd w (by rw [n_lt0 (by omega)]; exact id), fun w => absurd q (w x (Nat.le_refl _) (by omega))⟩⟩
      rw [l_J1_indexOfChar_4cfef_7]
      simp (disch := omega) only [q_ckt, q_lt, q_cI, q_cJ, q_cV, q_cP, q_xI, q_xV, q_xP, q_xJ, g_gk, g_ga, g_gw, g_gp, g_gq, g_P, g_J, q_I_s, q_I_n, q_I_k, nI_add, pk_sub, pk_mul, nI_clamp, n_lt0, n_0lt, n_eq0, n_lt, n_le, n_eq, n_m1, n_m2, n_m9, n_12, n_19, n_10, n_01, n_1n1, n_0n1, n_1n0, n_0n0, n_dI, n_m1lt, q_inb, n_nar, n_nar0, n_nar1, n_bool, Bool.false_eq_true, Bool.true_eq_false, if_true, if_false, ↓reduceIte, Nat.reduceAdd, Nat.reduceMul, Nat.reduceSub, Nat.reduceLT, Nat.reduceLeDiff, Nat.reduceEqDiff, Nat.reduceMod, Nat.reduceDiv, show x < 11 by omega, g7', Bool.true_or, g8']
      rw [if_pos q]
    · refine ⟨v, ?_, e2.trans ⟨fun w k h1 h2 => ?_, fun w k h1 h2 => w k (by omega) h2⟩⟩
      · rw [l_J1_indexOfChar_4cfef_7]
        simp (disch := omega) only [q_ckt, q_lt, q_cI, q_cJ, q_cV, q_cP, q_xI, q_xV, q_xP, q_xJ, g_gk, g_ga, g_gw, g_gp, g_gq, g_P, g_J, q_I_s, q_I_n, q_I_k, nI_add, pk_sub, pk_mul, nI_clamp, n_lt0, n_0lt, n_eq0, n_lt, n_le, n_eq, n_m1, n_m2, n_m9, n_12, n_19, n_10, n_01, n_1n1, n_0n1, n_1n0, n_0n0, n_dI, n_m1lt, q_inb, n_nar, n_nar0, n_nar1, n_bool, Bool.false_eq_true, Bool.true_eq_false, if_true, if_false, ↓reduceIte, Nat.reduceAdd, Nat.reduceMul, Nat.reduceSub, Nat.reduceLT, Nat.reduceLeDiff, Nat.reduceEqDiff, Nat.reduceMod, Nat.reduceDiv, show x < 11 by omega, g7', Bool.true_or, g8']
        rw [if_neg q, show nI x + (1 : Int32) = nI (x + 1) from nI_add x 1]
        exact e1
      · by_cases z : k = x
        · rw [z]; exact q
        · exact w k (by omega) h2
theorem n_sgn : ∀ b, b < 256 → (k_sg b = false ↔ ∀ k, k < 11 → ¬ (ir_byt 2).getD k 0 = (nI b).toInt8.toInt32) := by decide +kernel
theorem s_ixo (hx : q_X L xs M) {b : Nat} (hb : b < 256) : ∃ v, m_J0_indexOf_0f7a4 (d + 6) 1000002 (nI b) M = ir_oI v M ∧ (v < 0 ↔ k_sg b = false) := by
  obtain ⟨g1, g2, g3, g4, g5, g6, g7, g8⟩ := s_st (M := M) hx (show 2 < 55 by decide)
  have g1' : ir_gk M 1000002 50 = true := g1
  have g2' : ir_P M 1000002 0 = 1100002 := g2
  have g3' : ir_gp M 1000002 50 0 = true := g3
  have g5' : ir_gl M 1100002 = true := g5
  have g6' : ir_ln M 1100002 = 11 := g6.trans (by decide +kernel)
  have lat : m_J0_isLatin1_aae02 (d + 4) 1000002 M = ir_oI 1 M := s_lat (d := d + 3) hx (show 2 < 55 by decide)
  have len : m_J0_length_8abf5 (d + 4) 1000002 M = ir_oI (nI 11) M := s_ln (d := d + 2) hx (show 2 < 55 by decide)
  obtain ⟨v, e1, e2⟩ := s_ixl (M := M) (d := d + 2) hx (b := b) 11 0 (by decide)
  refine ⟨v, ?_, e2.trans ⟨fun w => (n_sgn b hb).mpr (fun k hk => w k (by omega) hk), fun w k _ hk => (n_sgn b hb).mp w k hk⟩⟩
  have ce : m_J1_canEncode_9a6ad (d + 3) (nI b) M = ir_oI 1 M := by
    rw [e_J1_canEncode_9a6ad]
    have : ¬ (255 : Int32) < nI b := fun w => by
      have := (nI_ltI (a := 255) (b := b) (by decide) (by omega)).mp w
      omega
    simp (disch := omega) only [q_ckt, q_lt, q_cI, q_cJ, q_cV, q_cP, q_xI, q_xV, q_xP, q_xJ, g_gk, g_ga, g_gw, g_gp, g_gq, g_P, g_J, q_I_s, q_I_n, q_I_k, nI_add, pk_sub, pk_mul, nI_clamp, n_lt0, n_0lt, n_eq0, n_lt, n_le, n_eq, n_m1, n_m2, n_m9, n_12, n_19, n_10, n_01, n_1n1, n_0n1, n_1n0, n_0n0, n_dI, n_m1lt, q_inb, n_nar, n_nar0, n_nar1, n_bool, Bool.false_eq_true, Bool.true_eq_false, if_true, if_false, ↓reduceIte, Nat.reduceAdd, Nat.reduceMul, Nat.reduceSub, Nat.reduceLT, Nat.reduceLeDiff, Nat.reduceEqDiff, Nat.reduceMod, Nat.reduceDiv, this, n_nr]
  have ic : m_J1_indexOfChar_4cfef (d + 3) 1100002 (nI b) (nI 0) (nI 11) M = ir_oI v M := (e_J1_indexOfChar_4cfef (d + 2) 1100002 _ _ _ M).trans e1
  have i1 : m_J1_indexOf_4cfef (d + 4) 1100002 (nI b) (nI 0) (nI 11) M = ir_oI v M := by
    have m1 : ir_mx (nI 0) (0 : Int32) = nI 0 := by decide +kernel
    have m2 : ir_mn (nI 11) (Int32.ofNat 11) = nI 11 := by decide +kernel
    rw [e_J1_indexOf_4cfef]
    simp (disch := omega) only [q_ckt, q_lt, q_cI, q_cJ, q_cV, q_cP, q_xI, q_xV, q_xP, q_xJ, g_gk, g_ga, g_gw, g_gp, g_gq, g_P, g_J, q_I_s, q_I_n, q_I_k, nI_add, pk_sub, pk_mul, nI_clamp, n_lt0, n_0lt, n_eq0, n_lt, n_le, n_eq, n_m1, n_m2, n_m9, n_12, n_19, n_10, n_01, n_1n1, n_0n1, n_1n0, n_0n0, n_dI, n_m1lt, q_inb, n_nar, n_nar0, n_nar1, n_bool, Bool.false_eq_true, Bool.true_eq_false, if_true, if_false, ↓reduceIte, Nat.reduceAdd, Nat.reduceMul, Nat.reduceSub, Nat.reduceLT, Nat.reduceLeDiff, Nat.reduceEqDiff, Nat.reduceMod, Nat.reduceDiv, ce, g5', g6', m1, m2, ic]
  rw [e_J0_indexOf_0f7a4]
  simp (disch := omega) only [q_ckt, q_lt, q_cI, q_cJ, q_cV, q_cP, q_xI, q_xV, q_xP, q_xJ, g_gk, g_ga, g_gw, g_gp, g_gq, g_P, g_J, q_I_s, q_I_n, q_I_k, nI_add, pk_sub, pk_mul, nI_clamp, n_lt0, n_0lt, n_eq0, n_lt, n_le, n_eq, n_m1, n_m2, n_m9, n_12, n_19, n_10, n_01, n_1n1, n_0n1, n_1n0, n_0n0, n_dI, n_m1lt, q_inb, n_nar, n_nar0, n_nar1, n_bool, Bool.false_eq_true, Bool.true_eq_false, if_true, if_false, ↓reduceIte, Nat.reduceAdd, Nat.reduceMul, Nat.reduceSub, Nat.reduceLT, Nat.reduceLeDiff, Nat.reduceEqDiff, Nat.reduceMod, Nat.reduceDiv, g1']
  rw [show (0 : Int32) = nI 0 from rfl, e_J0_indexOf_7cf53]
  simp (disch := omega) only [q_ckt, q_lt, q_cI, q_cJ, q_cV, q_cP, q_xI, q_xV, q_xP, q_xJ, g_gk, g_ga, g_gw, g_gp, g_gq, g_P, g_J, q_I_s, q_I_n, q_I_k, nI_add, pk_sub, pk_mul, nI_clamp, n_lt0, n_0lt, n_eq0, n_lt, n_le, n_eq, n_m1, n_m2, n_m9, n_12, n_19, n_10, n_01, n_1n1, n_0n1, n_1n0, n_0n0, n_dI, n_m1lt, q_inb, n_nar, n_nar0, n_nar1, n_bool, Bool.false_eq_true, Bool.true_eq_false, if_true, if_false, ↓reduceIte, Nat.reduceAdd, Nat.reduceMul, Nat.reduceSub, Nat.reduceLT, Nat.reduceLeDiff, Nat.reduceEqDiff, Nat.reduceMod, Nat.reduceDiv, g1', lat, n_10, g3', len, g2', i1]
end ST
section NX
variable {B : Nat → Nat} {n L : Nat} {xs : Nat → Int32} {M : ir_M} {d : Nat}
/-- a token, the class -/
theorem c_nx (h : c_tx B n L xs M) {p s : Nat} (hp : p ≤ n) (h7 : ir_I M 100 7 = nI p) (hs : s = k_ts B n p) : ∃ M', m_X4_next (d + 8) 100 M = ir_oV M' ∧ q_eq [100] M M' ∧ (∀ k, k ≠ 7 → k ≠ 8 → k ≠ 9 → k ≠ 10 → ir_I M' 100 k = ir_I M 100 k) ∧ ir_I M' 100 7 = nI (k_t3 B n s).2.1 ∧ ir_I M' 100 8 = nI (k_t3 B n s).1 ∧ ir_I M' 100 9 = nI s ∧ ((k_t3 B n s).1 = 2 → ir_I M' 100 10 = nI (k_t3 B n s).2.2) := by
  have h900 := h.2.1
  obtain ⟨M1, e1, q1, k1, r1⟩ := c_bk (d := d + 7) (n - p) p h (by omega) h7
  have es : k_sk B (n - p) p = s := hs.symm
  rw [es] at r1
  have sr := k_sk_r (B := B) (n - p) p
  rw [es] at sr
  have t1 := c_tx_eq h q1 (by decide) (k1 6 (by decide))
  obtain ⟨M2, e2⟩ : ∃ N, N = ir_sI M1 100 9 (nI s) := ⟨_, rfl⟩
  have q2 : q_eq [100] M1 M2 := by rw [e2]; exact q_eq.sI (by decide)
  have t2 := c_tx_eq t1 q2 (by decide) (by rw [e2, q_I_k (by decide)])
  have r27 : ir_I M2 100 7 = nI s := by rw [e2, q_I_k (by decide)]; exact r1
  have r29 : ir_I M2 100 9 = nI s := by rw [e2, q_I_s]
  have k2 : ∀ k, k ≠ 7 → k ≠ 9 → ir_I M2 100 k = ir_I M 100 k := fun k h1 h2 => by rw [e2, q_I_k h2]; exact k1 k h1
  have E : ∀ X, v_X4_next_52 (d + 7) 100 M1 = X → m_X4_next (d + 8) 100 M = X := fun X hX => by rw [e_X4_next, e1]; exact hX
  unfold k_t3
  by_cases q : n ≤ s
  · rw [if_pos q]
    refine ⟨ir_sI M2 100 8 (nI 0), E _ ?_, (q1.tr q2).tr (q_eq.sI (by decide)), fun k h1 h2 h3 h4 => by rw [q_I_k h2]; exact k2 k h1 h3, by rw [q_I_k (by decide)]; exact r27, q_I_s, by rw [q_I_k (by decide)]; exact r29, fun w => nomatch w⟩
    rw [L_X4_next_52, e2]
    simp (disch := omega) only [q_ckt, q_lt, q_cI, q_cJ, q_cV, q_cP, q_xI, q_xV, q_xP, q_xJ, g_gk, g_ga, g_gw, g_gp, g_gq, g_P, g_J, q_I_s, q_I_n, q_I_k, nI_add, pk_sub, pk_mul, nI_clamp, n_lt0, n_0lt, n_eq0, n_lt, n_le, n_eq, n_m1, n_m2, n_m9, n_12, n_19, n_10, n_01, n_1n1, n_0n1, n_1n0, n_0n0, n_dI, n_m1lt, q_inb, n_nar, n_nar0, n_nar1, n_bool, Bool.false_eq_true, Bool.true_eq_false, if_true, if_false, ↓reduceIte, Nat.reduceAdd, Nat.reduceMul, Nat.reduceSub, Nat.reduceLT, Nat.reduceLeDiff, Nat.reduceEqDiff, Nat.reduceMod, Nat.reduceDiv, q_D t1.1, r1, c_txg t1, show ¬ s < n by omega]
  · rw [if_neg q]
    obtain ⟨b1, b2⟩ := t2.2.2.1 s (by omega)
    have b2' : ir_I M1 2 s = (nI (B s)).toInt8.toInt32 := (t1.2.2.1 s (by omega)).2
    by_cases qd : k_dg (B s) = true
    · rw [if_pos qd]
      have hd2 := of_decide_eq_true qd
      rw [n_by1 _ (by omega)] at b2'
      obtain ⟨M3, e3⟩ : ∃ N, N = ir_sI M2 100 10 (nI 0) := ⟨_, rfl⟩
      have q3 : q_eq [100] M2 M3 := by rw [e3]; exact q_eq.sI (by decide)
      have t3 := c_tx_eq t2 q3 (by decide) (by rw [e3, q_I_k (by decide)])
      obtain ⟨M4, e4, q4, k4, r47, r410⟩ := c_dgl (d := d + 6) s (n - s) s t3 (by omega) (Nat.le_refl _) (fun i h1 h2 => by omega) (by rw [e3, q_I_k (by decide)]; exact r27) (by rw [e3, q_I_k (by decide)]; exact r29) (by rw [e3, q_I_s, Nat.sub_self]; rfl)
      have t4 := c_tx_eq t3 q4 (by decide) (k4 6 (by decide) (by decide))
      have r49 : ir_I M4 100 9 = nI s := by rw [k4 9 (by decide) (by decide), e3, q_I_k (by decide)]; exact r29
      have rr := k_run_r (P := k_dg) (B := B) (n - s) s
      obtain ⟨e, ee⟩ : ∃ e, e = k_run k_dg B (n - s) s := ⟨_, rfl⟩
      rw [← ee] at r47 r410 rr ⊢
      have nn : ∀ v : Nat, (v = if e - s ≤ 3 then 2 else 1) → m_X4_nextNumber (d + 7) 100 M2 = ir_oV (ir_sI M4 100 8 (nI v)) := fun v hv => by
        rw [E_X4_nextNumber]
        simp (disch := omega) only [q_ckt, q_lt, q_cI, q_cJ, q_cV, q_cP, q_xI, q_xV, q_xP, q_xJ, g_gk, g_ga, g_gw, g_gp, g_gq, g_P, g_J, q_I_s, q_I_n, q_I_k, nI_add, pk_sub, pk_mul, nI_clamp, n_lt0, n_0lt, n_eq0, n_lt, n_le, n_eq, n_m1, n_m2, n_m9, n_12, n_19, n_10, n_01, n_1n1, n_0n1, n_1n0, n_0n0, n_dI, n_m1lt, q_inb, n_nar, n_nar0, n_nar1, n_bool, Bool.false_eq_true, Bool.true_eq_false, if_true, if_false, ↓reduceIte, Nat.reduceAdd, Nat.reduceMul, Nat.reduceSub, Nat.reduceLT, Nat.reduceLeDiff, Nat.reduceEqDiff, Nat.reduceMod, Nat.reduceDiv, q_D t2.1]
        rw [← e3, e4, L_X4_nextNumber_94]
        by_cases c : e - s ≤ 3
        · rw [if_pos c] at hv
          simp (disch := omega) only [q_ckt, q_lt, q_cI, q_cJ, q_cV, q_cP, q_xI, q_xV, q_xP, q_xJ, g_gk, g_ga, g_gw, g_gp, g_gq, g_P, g_J, q_I_s, q_I_n, q_I_k, nI_add, pk_sub, pk_mul, nI_clamp, n_lt0, n_0lt, n_eq0, n_lt, n_le, n_eq, n_m1, n_m2, n_m9, n_12, n_19, n_10, n_01, n_1n1, n_0n1, n_1n0, n_0n0, n_dI, n_m1lt, q_inb, n_nar, n_nar0, n_nar1, n_bool, Bool.false_eq_true, Bool.true_eq_false, if_true, if_false, ↓reduceIte, Nat.reduceAdd, Nat.reduceMul, Nat.reduceSub, Nat.reduceLT, Nat.reduceLeDiff, Nat.reduceEqDiff, Nat.reduceMod, Nat.reduceDiv, q_D t4.1, r47, r49, show ¬ 3 < e - s by omega, hv]
        · rw [if_neg c] at hv
          simp (disch := omega) only [q_ckt, q_lt, q_cI, q_cJ, q_cV, q_cP, q_xI, q_xV, q_xP, q_xJ, g_gk, g_ga, g_gw, g_gp, g_gq, g_P, g_J, q_I_s, q_I_n, q_I_k, nI_add, pk_sub, pk_mul, nI_clamp, n_lt0, n_0lt, n_eq0, n_lt, n_le, n_eq, n_m1, n_m2, n_m9, n_12, n_19, n_10, n_01, n_1n1, n_0n1, n_1n0, n_0n0, n_dI, n_m1lt, q_inb, n_nar, n_nar0, n_nar1, n_bool, Bool.false_eq_true, Bool.true_eq_false, if_true, if_false, ↓reduceIte, Nat.reduceAdd, Nat.reduceMul, Nat.reduceSub, Nat.reduceLT, Nat.reduceLeDiff, Nat.reduceEqDiff, Nat.reduceMod, Nat.reduceDiv, q_D t4.1, r47, r49, show 3 < e - s by omega, hv]
      have nn' := nn _ rfl
      refine ⟨_, E _ ?_, (((q1.tr q2).tr q3).tr q4).tr (q_eq.sI (by decide)), fun k h1 h2 h3 h4 => ?_, ?_, q_I_s, ?_, fun _ => ?_⟩
      · rw [L_X4_next_52]
        simp (disch := omega) only [q_ckt, q_lt, q_cI, q_cJ, q_cV, q_cP, q_xI, q_xV, q_xP, q_xJ, g_gk, g_ga, g_gw, g_gp, g_gq, g_P, g_J, q_I_s, q_I_n, q_I_k, nI_add, pk_sub, pk_mul, nI_clamp, n_lt0, n_0lt, n_eq0, n_lt, n_le, n_eq, n_m1, n_m2, n_m9, n_12, n_19, n_10, n_01, n_1n1, n_0n1, n_1n0, n_0n0, n_dI, n_m1lt, q_inb, n_nar, n_nar0, n_nar1, n_bool, Bool.false_eq_true, Bool.true_eq_false, if_true, if_false, ↓reduceIte, Nat.reduceAdd, Nat.reduceMul, Nat.reduceSub, Nat.reduceLT, Nat.reduceLeDiff, Nat.reduceEqDiff, Nat.reduceMod, Nat.reduceDiv, q_D t1.1, r1, c_txg t1, show s < n by omega, q_W t1.1, Bool.true_or, b2', show ¬ B s < 48 by omega, show ¬ 57 < B s by omega]
        rw [← e2, nn']
        simp (disch := omega) only [q_ckt, q_lt, q_cI, q_cJ, q_cV, q_cP, q_xI, q_xV, q_xP, q_xJ, g_gk, g_ga, g_gw, g_gp, g_gq, g_P, g_J, q_I_s, q_I_n, q_I_k, nI_add, pk_sub, pk_mul, nI_clamp, n_lt0, n_0lt, n_eq0, n_lt, n_le, n_eq, n_m1, n_m2, n_m9, n_12, n_19, n_10, n_01, n_1n1, n_0n1, n_1n0, n_0n0, n_dI, n_m1lt, q_inb, n_nar, n_nar0, n_nar1, n_bool, Bool.false_eq_true, Bool.true_eq_false, if_true, if_false, ↓reduceIte, Nat.reduceAdd, Nat.reduceMul, Nat.reduceSub, Nat.reduceLT, Nat.reduceLeDiff, Nat.reduceEqDiff, Nat.reduceMod, Nat.reduceDiv]
      · rw [q_I_k h2, k4 k h1 h4, e3, q_I_k h4]; exact k2 k h1 h3
      · rw [q_I_k (by decide)]; exact r47
      · rw [q_I_k (by decide)]; exact r49
      · rw [q_I_k (by decide)]; exact r410
    · rw [if_neg qd]
      have nd : ¬ (48 ≤ B s ∧ B s ≤ 57) := fun z => qd (decide_eq_true z)
      have E2 : ∀ X, v_X4_next_114 (d + 7) 100 M2 = X → m_X4_next (d + 8) 100 M = X := fun X hX => E X (by
        rw [← hX, L_X4_next_52]
        by_cases c1 : B s < 128
        · rw [n_by1 _ c1] at b2'
          by_cases c2 : B s < 48
          · simp (disch := omega) only [q_ckt, q_lt, q_cI, q_cJ, q_cV, q_cP, q_xI, q_xV, q_xP, q_xJ, g_gk, g_ga, g_gw, g_gp, g_gq, g_P, g_J, q_I_s, q_I_n, q_I_k, nI_add, pk_sub, pk_mul, nI_clamp, n_lt0, n_0lt, n_eq0, n_lt, n_le, n_eq, n_m1, n_m2, n_m9, n_12, n_19, n_10, n_01, n_1n1, n_0n1, n_1n0, n_0n0, n_dI, n_m1lt, q_inb, n_nar, n_nar0, n_nar1, n_bool, Bool.false_eq_true, Bool.true_eq_false, if_true, if_false, ↓reduceIte, Nat.reduceAdd, Nat.reduceMul, Nat.reduceSub, Nat.reduceLT, Nat.reduceLeDiff, Nat.reduceEqDiff, Nat.reduceMod, Nat.reduceDiv, q_D t1.1, r1, c_txg t1, show s < n by omega, q_W t1.1, Bool.true_or, b2', c2]
            rw [← e2]
          · simp (disch := omega) only [q_ckt, q_lt, q_cI, q_cJ, q_cV, q_cP, q_xI, q_xV, q_xP, q_xJ, g_gk, g_ga, g_gw, g_gp, g_gq, g_P, g_J, q_I_s, q_I_n, q_I_k, nI_add, pk_sub, pk_mul, nI_clamp, n_lt0, n_0lt, n_eq0, n_lt, n_le, n_eq, n_m1, n_m2, n_m9, n_12, n_19, n_10, n_01, n_1n1, n_0n1, n_1n0, n_0n0, n_dI, n_m1lt, q_inb, n_nar, n_nar0, n_nar1, n_bool, Bool.false_eq_true, Bool.true_eq_false, if_true, if_false, ↓reduceIte, Nat.reduceAdd, Nat.reduceMul, Nat.reduceSub, Nat.reduceLT, Nat.reduceLeDiff, Nat.reduceEqDiff, Nat.reduceMod, Nat.reduceDiv, q_D t1.1, r1, c_txg t1, show s < n by omega, q_W t1.1, Bool.true_or, b2', c2, show 57 < B s by omega]
            rw [← e2]
        · obtain ⟨z1, -, -, -⟩ := n_by2 (B s) b1 (by omega)
          rw [← b2'] at z1
          simp (disch := omega) only [q_ckt, q_lt, q_cI, q_cJ, q_cV, q_cP, q_xI, q_xV, q_xP, q_xJ, g_gk, g_ga, g_gw, g_gp, g_gq, g_P, g_J, q_I_s, q_I_n, q_I_k, nI_add, pk_sub, pk_mul, nI_clamp, n_lt0, n_0lt, n_eq0, n_lt, n_le, n_eq, n_m1, n_m2, n_m9, n_12, n_19, n_10, n_01, n_1n1, n_0n1, n_1n0, n_0n0, n_dI, n_m1lt, q_inb, n_nar, n_nar0, n_nar1, n_bool, Bool.false_eq_true, Bool.true_eq_false, if_true, if_false, ↓reduceIte, Nat.reduceAdd, Nat.reduceMul, Nat.reduceSub, Nat.reduceLT, Nat.reduceLeDiff, Nat.reduceEqDiff, Nat.reduceMod, Nat.reduceDiv, q_D t1.1, r1, c_txg t1, show s < n by omega, q_W t1.1, Bool.true_or, z1]
          rw [← e2])
      by_cases ql : k_ltr (B s) = true
      · rw [if_pos ql]
        have hl2 := of_decide_eq_true ql
        rw [n_by1 _ (by omega)] at b2
        obtain ⟨M3, e3, q3, k3, r37⟩ := c_ltl (d := d + 6) (n - s) s t2 (by omega) r27
        have t3 := c_tx_eq t2 q3 (by decide) (k3 6 (by decide))
        have rr := k_run_r (P := k_ltr) (B := B) (n - s) s
        have al := k_run_all (P := k_ltr) (B := B) (n - s) s
        obtain ⟨e, ee⟩ : ∃ e, e = k_run k_ltr B (n - s) s := ⟨_, rfl⟩
        rw [← ee] at r37 rr al ⊢
        obtain ⟨M4, e4⟩ : ∃ N, N = ir_sI M3 100 8 (nI 3) := ⟨_, rfl⟩
        have q4 : q_eq [100] M3 M4 := by rw [e4]; exact q_eq.sI (by decide)
        have t4 := c_tx_eq t3 q4 (by decide) (by rw [e4, q_I_k (by decide)])
        have r49 : ir_I M4 100 9 = nI s := by rw [e4, q_I_k (by decide), k3 9 (by decide)]; exact r29
        obtain ⟨M5, e5, q5, k5, r58⟩ := c_wds (d := d + 6) (s := s) (e := e) (by omega) (by omega) al (k_wf2 k_wl) 0 256 (some 0) 3 t4 (by rw [n_ws.1]) (fun j hj => by
          rw [n_ws.1] at hj
          rw [Nat.zero_add]
          exact ⟨(t4.2.2.2.1 j hj).trans (n_ws.2 j hj), n_wc j hj⟩) (by decide) (by decide) (fun x hx => by cases hx; omega) (by rw [e4, q_I_k (by decide)]; exact r37) r49 (by rw [e4, q_I_s])
        rw [k_wmt_l k_wl 256 3 n_w32] at r58
        refine ⟨M5, E2 _ ?_, (((q1.tr q2).tr q3).tr q4).tr q5, fun k h1 h2 h3 h4 => ?_, ?_, r58, ?_, fun w => ?_⟩
        · have nw : m_X4_nextWord (d + 7) 100 M2 = ir_oV M5 := by
            rw [e_X4_nextWord, e3, L_X4_nextWord_52]
            simp (disch := omega) only [q_ckt, q_lt, q_cI, q_cJ, q_cV, q_cP, q_xI, q_xV, q_xP, q_xJ, g_gk, g_ga, g_gw, g_gp, g_gq, g_P, g_J, q_I_s, q_I_n, q_I_k, nI_add, pk_sub, pk_mul, nI_clamp, n_lt0, n_0lt, n_eq0, n_lt, n_le, n_eq, n_m1, n_m2, n_m9, n_12, n_19, n_10, n_01, n_1n1, n_0n1, n_1n0, n_0n0, n_dI, n_m1lt, q_inb, n_nar, n_nar0, n_nar1, n_bool, Bool.false_eq_true, Bool.true_eq_false, if_true, if_false, ↓reduceIte, Nat.reduceAdd, Nat.reduceMul, Nat.reduceSub, Nat.reduceLT, Nat.reduceLeDiff, Nat.reduceEqDiff, Nat.reduceMod, Nat.reduceDiv, q_D t3.1]
            rw [← e4]
            exact e5
          rw [L_X4_next_114]
          simp (disch := omega) only [q_ckt, q_lt, q_cI, q_cJ, q_cV, q_cP, q_xI, q_xV, q_xP, q_xJ, g_gk, g_ga, g_gw, g_gp, g_gq, g_P, g_J, q_I_s, q_I_n, q_I_k, nI_add, pk_sub, pk_mul, nI_clamp, n_lt0, n_0lt, n_eq0, n_lt, n_le, n_eq, n_m1, n_m2, n_m9, n_12, n_19, n_10, n_01, n_1n1, n_0n1, n_1n0, n_0n0, n_dI, n_m1lt, q_inb, n_nar, n_nar0, n_nar1, n_bool, Bool.false_eq_true, Bool.true_eq_false, if_true, if_false, ↓reduceIte, Nat.reduceAdd, Nat.reduceMul, Nat.reduceSub, Nat.reduceLT, Nat.reduceLeDiff, Nat.reduceEqDiff, Nat.reduceMod, Nat.reduceDiv, q_D t2.1, r27, c_txg t2, q_W t2.1, Bool.true_or, b2, show ¬ B s < 97 by omega, show ¬ 122 < B s by omega, nw]
        · rw [k5 k h2, e4, q_I_k h2, k3 k h1]; exact k2 k h1 h3
        · rw [k5 7 (by decide), e4, q_I_k (by decide)]; exact r37
        · rw [k5 9 (by decide)]; exact r49
        · have := k_wc_r (T := k_tx B s e)
          have w' : k_wc (k_tx B s e) = 2 := w
          omega
      · rw [if_neg ql]
        have nl : ¬ (97 ≤ B s ∧ B s ≤ 122) := fun z => ql (decide_eq_true z)
        obtain ⟨v, ev, vv⟩ := s_ixo (d := d + 1) (M := M2) t2.2.2.2.2.2.2 b1
        have g2 : ir_gk M2 1000002 50 = true := (s_st (M := M2) t2.2.2.2.2.2.2 (show 2 < 55 by decide)).1
        have b3 := n_by3 (B s) b1
        rw [← b2] at b3
        have E3 : ∀ X, v_X4_next_149 (d + 7) 100 M2 = X → m_X4_next (d + 8) 100 M = X := fun X hX => E2 X (by
          rw [← hX, L_X4_next_114]
          by_cases c1 : B s < 128
          · rw [n_by1 _ c1] at b2
            by_cases c2 : B s < 97
            · simp (disch := omega) only [q_ckt, q_lt, q_cI, q_cJ, q_cV, q_cP, q_xI, q_xV, q_xP, q_xJ, g_gk, g_ga, g_gw, g_gp, g_gq, g_P, g_J, q_I_s, q_I_n, q_I_k, nI_add, pk_sub, pk_mul, nI_clamp, n_lt0, n_0lt, n_eq0, n_lt, n_le, n_eq, n_m1, n_m2, n_m9, n_12, n_19, n_10, n_01, n_1n1, n_0n1, n_1n0, n_0n0, n_dI, n_m1lt, q_inb, n_nar, n_nar0, n_nar1, n_bool, Bool.false_eq_true, Bool.true_eq_false, if_true, if_false, ↓reduceIte, Nat.reduceAdd, Nat.reduceMul, Nat.reduceSub, Nat.reduceLT, Nat.reduceLeDiff, Nat.reduceEqDiff, Nat.reduceMod, Nat.reduceDiv, q_D t2.1, r27, c_txg t2, q_W t2.1, Bool.true_or, b2, c2]
            · simp (disch := omega) only [q_ckt, q_lt, q_cI, q_cJ, q_cV, q_cP, q_xI, q_xV, q_xP, q_xJ, g_gk, g_ga, g_gw, g_gp, g_gq, g_P, g_J, q_I_s, q_I_n, q_I_k, nI_add, pk_sub, pk_mul, nI_clamp, n_lt0, n_0lt, n_eq0, n_lt, n_le, n_eq, n_m1, n_m2, n_m9, n_12, n_19, n_10, n_01, n_1n1, n_0n1, n_1n0, n_0n0, n_dI, n_m1lt, q_inb, n_nar, n_nar0, n_nar1, n_bool, Bool.false_eq_true, Bool.true_eq_false, if_true, if_false, ↓reduceIte, Nat.reduceAdd, Nat.reduceMul, Nat.reduceSub, Nat.reduceLT, Nat.reduceLeDiff, Nat.reduceEqDiff, Nat.reduceMod, Nat.reduceDiv, q_D t2.1, r27, c_txg t2, q_W t2.1, Bool.true_or, b2, c2, show 122 < B s by omega]
          · obtain ⟨-, z1, -, -⟩ := n_by2 (B s) b1 (by omega)
            rw [← b2] at z1
            simp (disch := omega) only [q_ckt, q_lt, q_cI, q_cJ, q_cV, q_cP, q_xI, q_xV, q_xP, q_xJ, g_gk, g_ga, g_gw, g_gp, g_gq, g_P, g_J, q_I_s, q_I_n, q_I_k, nI_add, pk_sub, pk_mul, nI_clamp, n_lt0, n_0lt, n_eq0, n_lt, n_le, n_eq, n_m1, n_m2, n_m9, n_12, n_19, n_10, n_01, n_1n1, n_0n1, n_1n0, n_0n0, n_dI, n_m1lt, q_inb, n_nar, n_nar0, n_nar1, n_bool, Bool.false_eq_true, Bool.true_eq_false, if_true, if_false, ↓reduceIte, Nat.reduceAdd, Nat.reduceMul, Nat.reduceSub, Nat.reduceLT, Nat.reduceLeDiff, Nat.reduceEqDiff, Nat.reduceMod, Nat.reduceDiv, q_D t2.1, r27, c_txg t2, q_W t2.1, Bool.true_or, z1])
        have fin : ∀ w : Nat, (w = if k_sg (B s) = true then B s else 1) → v_X4_next_149 (d + 7) 100 M2 = ir_oV (ir_sI (ir_sI M2 100 8 (nI w)) 100 7 (nI (s + 1))) := fun w hw => by
          rw [L_X4_next_149]
          by_cases c : k_sg (B s) = true
          · rw [if_pos c] at hw
            have sg := of_decide_eq_true c
            have nv : ¬ v < 0 := fun z => by rw [vv.mp z] at c; exact nomatch c
            have b4 : ir_I M2 2 s = nI (B s) := by rw [b2, n_by1 _ (by omega)]
            have b5 : ((nI (B s) &&& nI 255).toUInt32 % 65536).toInt32 = nI (B s) := by
              have z := b3
              rw [b4] at z
              exact z
            simp (disch := omega) only [q_ckt, q_lt, q_cI, q_cJ, q_cV, q_cP, q_xI, q_xV, q_xP, q_xJ, g_gk, g_ga, g_gw, g_gp, g_gq, g_P, g_J, q_I_s, q_I_n, q_I_k, nI_add, pk_sub, pk_mul, nI_clamp, n_lt0, n_0lt, n_eq0, n_lt, n_le, n_eq, n_m1, n_m2, n_m9, n_12, n_19, n_10, n_01, n_1n1, n_0n1, n_1n0, n_0n0, n_dI, n_m1lt, q_inb, n_nar, n_nar0, n_nar1, n_bool, Bool.false_eq_true, Bool.true_eq_false, if_true, if_false, ↓reduceIte, Nat.reduceAdd, Nat.reduceMul, Nat.reduceSub, Nat.reduceLT, Nat.reduceLeDiff, Nat.reduceEqDiff, Nat.reduceMod, Nat.reduceDiv, q_D t2.1, r27, c_txg t2, q_W t2.1, Bool.true_or, g2, b5, ev, nv, b4, L_X4_next_185, hw]
          · rw [if_neg c] at hw
            have nv : v < 0 := vv.mpr (Bool.eq_false_iff.mpr c)
            simp (disch := omega) only [q_ckt, q_lt, q_cI, q_cJ, q_cV, q_cP, q_xI, q_xV, q_xP, q_xJ, g_gk, g_ga, g_gw, g_gp, g_gq, g_P, g_J, q_I_s, q_I_n, q_I_k, nI_add, pk_sub, pk_mul, nI_clamp, n_lt0, n_0lt, n_eq0, n_lt, n_le, n_eq, n_m1, n_m2, n_m9, n_12, n_19, n_10, n_01, n_1n1, n_0n1, n_1n0, n_0n0, n_dI, n_m1lt, q_inb, n_nar, n_nar0, n_nar1, n_bool, Bool.false_eq_true, Bool.true_eq_false, if_true, if_false, ↓reduceIte, Nat.reduceAdd, Nat.reduceMul, Nat.reduceSub, Nat.reduceLT, Nat.reduceLeDiff, Nat.reduceEqDiff, Nat.reduceMod, Nat.reduceDiv, q_D t2.1, r27, c_txg t2, q_W t2.1, Bool.true_or, g2, b3, ev, nv, L_X4_next_185, hw]
        refine ⟨_, E3 _ (fin _ rfl), ((q1.tr q2).tr (q_eq.sI (by decide))).tr (q_eq.sI (by decide)), fun k h1 h2 h3 h4 => ?_, q_I_s, ?_, ?_, fun w => ?_⟩
        · rw [q_I_k h1, q_I_k h2]; exact k2 k h1 h3
        · rw [q_I_k (by decide), q_I_s]
        · rw [q_I_k (by decide), q_I_k (by decide)]; exact r29
        · dsimp only at w
          split at w
          · next z =>
            have := of_decide_eq_true z
            omega
          · exact nomatch w
end NX
