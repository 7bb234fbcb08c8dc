/-! THE WELL: lines -/
section LB
variable {B : Nat → Nat} {n L : Nat} {xs : Nat → Int32} {M0 M : ir_M} {d dp s f p : Nat} {K : Nat → Int32}
theorem r_mw (h : r_T B n L xs M0 dp s M) {j a g : Nat} (hj : j < 22) (ha : a = 1000000 + k_rs j) (hg : g ≤ 6) (h1g : ir_I M 414 1 = nI g) (hd : 8 ≤ d) : ∃ M', m_X12_mustWord d 412 a M = ir_oV M' ∧ (k_kd B n s = 256 + j → r_T B n L xs M0 dp (k_nt B n s) M' ∧ q_eq [412] M M') ∧ (k_kd B n s ≠ 256 + j → r_F B n L xs M0 (k_fk (k_kd B n s) 2) s M') := by
  obtain ⟨e, rfl⟩ : ∃ e, d = e + 1 := ⟨d - 1, by omega⟩
  by_cases c : k_kd B n s = 256 + j
  · obtain ⟨M1, e1, t1⟩ := r_tookY (d := e) h hj ha c (by omega)
    refine ⟨M1, ?_, fun _ => t1, fun z => absurd c z⟩
    rw [E_X12_mustWord]
    simp (disch := omega) only [q_ckt, q_lt, q_cI, q_cJ, q_cV, q_cP, q_xI, q_xV, q_xP, q_xJ, g_gk, g_ga, g_gw, g_gp, g_gq, g_P, g_J, q_I_s, q_I_n, q_I_k, nI_add, pk_sub, pk_mul, nI_clamp, n_lt0, n_0lt, n_eq0, n_lt, n_le, n_eq, n_m1, n_m2, n_m9, n_12, n_19, n_10, n_01, n_1n1, n_0n1, n_1n0, n_0n0, n_dI, n_m1lt, q_inb, n_nar, n_nar0, n_nar1, n_bool, Bool.false_eq_true, Bool.true_eq_false, if_true, if_false, ↓reduceIte, Nat.reduceAdd, Nat.reduceMul, Nat.reduceSub, Nat.reduceLT, Nat.reduceLeDiff, Nat.reduceEqDiff, Nat.reduceMod, Nat.reduceDiv, q_R h.1.1, e1]
  · have e1 := r_tookN (d := e) h hj ha c (by omega)
    obtain ⟨M1, e2, t2⟩ := r_blame (d := e) h (w := 2) (by decide) hg h1g (by omega)
    refine ⟨M1, ?_, fun z => absurd z c, fun _ => t2⟩
    rw [E_X12_mustWord]
    simp (disch := omega) only [q_ckt, q_lt, q_cI, q_cJ, q_cV, q_cP, q_xI, q_xV, q_xP, q_xJ, g_gk, g_ga, g_gw, g_gp, g_gq, g_P, g_J, q_I_s, q_I_n, q_I_k, nI_add, pk_sub, pk_mul, nI_clamp, n_lt0, n_0lt, n_eq0, n_lt, n_le, n_eq, n_m1, n_m2, n_m9, n_12, n_19, n_10, n_01, n_1n1, n_0n1, n_1n0, n_0n0, n_dI, n_m1lt, q_inb, n_nar, n_nar0, n_nar1, n_bool, Bool.false_eq_true, Bool.true_eq_false, if_true, if_false, ↓reduceIte, Nat.reduceAdd, Nat.reduceMul, Nat.reduceSub, Nat.reduceLT, Nat.reduceLeDiff, Nat.reduceEqDiff, Nat.reduceMod, Nat.reduceDiv, q_R h.1.1, e1, e2]
theorem r_mwF (h : r_F B n L xs M0 f p M) {a : Nat} (hd : 3 ≤ d) : m_X12_mustWord d 412 a M = ir_oV M := by
  obtain ⟨e, rfl⟩ : ∃ e, d = e + 1 := ⟨d - 1, by omega⟩
  rw [E_X12_mustWord]
  simp (disch := omega) only [q_ckt, q_lt, q_cI, q_cJ, q_cV, q_cP, q_xI, q_xV, q_xP, q_xJ, g_gk, g_ga, g_gw, g_gp, g_gq, g_P, g_J, q_I_s, q_I_n, q_I_k, nI_add, pk_sub, pk_mul, nI_clamp, n_lt0, n_0lt, n_eq0, n_lt, n_le, n_eq, n_m1, n_m2, n_m9, n_12, n_19, n_10, n_01, n_1n1, n_0n1, n_1n0, n_0n0, n_dI, n_m1lt, q_inb, n_nar, n_nar0, n_nar1, n_bool, Bool.false_eq_true, Bool.true_eq_false, if_true, if_false, ↓reduceIte, Nat.reduceAdd, Nat.reduceMul, Nat.reduceSub, Nat.reduceLT, Nat.reduceLeDiff, Nat.reduceEqDiff, Nat.reduceMod, Nat.reduceDiv, q_R h.1.1, r_tookF h (a := a) (show 2 ≤ e by omega), r_blameF h (w := nI 2) (show 1 ≤ e by omega)]
/-- a cell of fresh, laid after a fault -/
theorem r_F_4 (h : r_F B n L xs M0 f p M) {k : Nat} {v : Int32} (hk : k ≠ 1) : r_F B n L xs M0 f p (ir_sI M 414 k v) := by
  obtain ⟨h1, h2, h3, h4, h5, g, g6, h6⟩ := h
  have q1 : q_eq [414] M (ir_sI M 414 k v) := q_eq.sI (by decide)
  have ek : ∀ k', ir_I (ir_sI M 414 k v) 412 k' = ir_I M 412 k' := fun k' => q_I_eq q1 (by decide) k'
  exact ⟨r_tx_eq h1 q1 (by decide) (ek 7), h2.tr (q1.sub (by decide)), fun j hj => (ek j).trans (h3 j hj), ⟨(ek _).trans h4.1, h4.2⟩, (ek _).trans h5, g, g6, (q_I_k (fun z => hk z.symm)).trans h6⟩
theorem r_T_4 (h : r_T B n L xs M0 dp s M) {k : Nat} {v : Int32} : r_T B n L xs M0 dp s (ir_sI M 414 k v) := by
  obtain ⟨h1, h2, h3, h4, h5, h6, h7, h8, h9, h10⟩ := h
  have q1 : q_eq [414] M (ir_sI M 414 k v) := q_eq.sI (by decide)
  have ek : ∀ k', ir_I (ir_sI M 414 k v) 412 k' = ir_I M 412 k' := fun k' => q_I_eq q1 (by decide) k'
  exact ⟨r_tx_eq h1 q1 (by decide) (ek 7), h2.tr (q1.sub (by decide)), fun j hj => (ek j).trans (h3 j hj), h4, (ek _).trans h5, (ek _).trans h6, (ek _).trans h7, (ek _).trans h8, fun w => (ek _).trans (h9 w), (ek _).trans h10⟩
def k_put1 (K : Nat → Int32) (k : Nat) (v : Int32) : Nat → Int32 := fun j => if j = k then v else K j
theorem r_P_4 (h : r_P B n L xs M0 dp s K M) {k : Nat} {v : Int32} : r_P B n L xs M0 dp s (k_put1 K k v) (ir_sI M 414 k v) := ⟨r_T_4 h.1, fun j => by
  unfold k_put1
  by_cases c : j = k
  · rw [if_pos c, c, q_I_s]
  · rw [if_neg c, q_I_k c]; exact h.2 j⟩
/-- where a number with a sign begins -/
def k_sb (B : Nat → Nat) (n s : Nat) : Nat := if k_kd B n s = 45 then k_nt B n s else s
def k_sv (B : Nat → Nat) (n s : Nat) : Int32 := if k_kd B n s = 45 then - nI (k_vl B n (k_sb B n s)) else nI (k_vl B n (k_sb B n s))
theorem k_sb_b (hs : s ≤ n) : s ≤ k_sb B n s ∧ k_sb B n s ≤ n := by
  obtain ⟨b1, b2, -⟩ := k_nt_b (B := B) hs
  unfold k_sb
  split <;> omega
theorem r_sn (h : r_T B n L xs M0 dp s M) {g w : Nat} (hw : w < 1000) (hg : g ≤ 6) (h1g : ir_I M 414 1 = nI g) (hd : 5 ≤ d) : ∃ (M' : ir_M) (v : Int32), m_X12_signed d 412 (nI w) M = ir_oI v M' ∧ (k_nf (k_kd B n (k_sb B n s)) (k_vl B n (k_sb B n s)) 0 w = 0 → v = k_sv B n s ∧ r_T B n L xs M0 dp (k_nt B n (k_sb B n s)) M' ∧ q_eq [412] M M') ∧ (k_nf (k_kd B n (k_sb B n s)) (k_vl B n (k_sb B n s)) 0 w ≠ 0 → r_F B n L xs M0 (k_nf (k_kd B n (k_sb B n s)) (k_vl B n (k_sb B n s)) 0 w) (k_sb B n s) M') := by
  obtain ⟨e, rfl⟩ : ∃ e, d = e + 1 := ⟨d - 1, by omega⟩
  have sg := r_sign (d := e) h (c := 45) (by decide) (by omega)
  have tw : (nI w).toInt = (w : Int) := nI_toInt (by omega)
  unfold k_sv
  by_cases c : k_kd B n s = 45
  · have es : k_sb B n s = k_nt B n s := if_pos c
    rw [if_pos c] at sg
    rw [es, if_pos c]
    obtain ⟨M1, e1, t1, q1⟩ := r_next (d := e) h (by omega)
    obtain ⟨M', e2, t2, t3⟩ := r_num (d := e) t1 (a := 0) (hi := nI w) (by decide) hg ((q_I_eq q1 (by decide) 1).trans h1g) (by omega)
    rw [tw] at e2 t2 t3
    refine ⟨M', -(nI (if k_nf (k_kd B n (k_nt B n s)) (k_vl B n (k_nt B n s)) 0 w = 0 then k_vl B n (k_nt B n s) else 0)), ?_, fun z => ?_, t3⟩
    · rw [E_X12_signed]
      simp (disch := omega) only [q_ckt, q_lt, q_cI, q_cJ, q_cV, q_cP, q_xI, q_xV, q_xP, q_xJ, g_gk, g_ga, g_gw, g_gp, g_gq, g_P, g_J, q_I_s, q_I_n, q_I_k, nI_add, pk_sub, pk_mul, nI_clamp, n_lt0, n_0lt, n_eq0, n_lt, n_le, n_eq, n_m1, n_m2, n_m9, n_12, n_19, n_10, n_01, n_1n1, n_0n1, n_1n0, n_0n0, n_dI, n_m1lt, q_inb, n_nar, n_nar0, n_nar1, n_bool, Bool.false_eq_true, Bool.true_eq_false, if_true, if_false, ↓reduceIte, Nat.reduceAdd, Nat.reduceMul, Nat.reduceSub, Nat.reduceLT, Nat.reduceLeDiff, Nat.reduceEqDiff, Nat.reduceMod, Nat.reduceDiv, q_R h.1.1, sg, e1]
      rw [L_X12_signed_15]
      simp (disch := omega) only [q_ckt, q_lt, q_cI, q_cJ, q_cV, q_cP, q_xI, q_xV, q_xP, q_xJ, g_gk, g_ga, g_gw, g_gp, g_gq, g_P, g_J, q_I_s, q_I_n, q_I_k, nI_add, pk_sub, pk_mul, nI_clamp, n_lt0, n_0lt, n_eq0, n_lt, n_le, n_eq, n_m1, n_m2, n_m9, n_12, n_19, n_10, n_01, n_1n1, n_0n1, n_1n0, n_0n0, n_dI, n_m1lt, q_inb, n_nar, n_nar0, n_nar1, n_bool, Bool.false_eq_true, Bool.true_eq_false, if_true, if_false, ↓reduceIte, Nat.reduceAdd, Nat.reduceMul, Nat.reduceSub, Nat.reduceLT, Nat.reduceLeDiff, Nat.reduceEqDiff, Nat.reduceMod, Nat.reduceDiv, q_R t1.1.1, e2]
    · rw [if_pos z]
      exact ⟨rfl, (t2 z).1, q1.tr (t2 z).2⟩
  · have es : k_sb B n s = s := if_neg c
    rw [if_neg c] at sg
    rw [es, if_neg c]
    obtain ⟨M', e2, t2, t3⟩ := r_num (d := e) h (a := 0) (hi := nI w) (by decide) hg h1g (by omega)
    rw [tw] at e2 t2 t3
    refine ⟨M', nI (if k_nf (k_kd B n s) (k_vl B n s) 0 w = 0 then k_vl B n s else 0), ?_, fun z => ?_, t3⟩
    · rw [E_X12_signed]
      simp (disch := omega) only [q_ckt, q_lt, q_cI, q_cJ, q_cV, q_cP, q_xI, q_xV, q_xP, q_xJ, g_gk, g_ga, g_gw, g_gp, g_gq, g_P, g_J, q_I_s, q_I_n, q_I_k, nI_add, pk_sub, pk_mul, nI_clamp, n_lt0, n_0lt, n_eq0, n_lt, n_le, n_eq, n_m1, n_m2, n_m9, n_12, n_19, n_10, n_01, n_1n1, n_0n1, n_1n0, n_0n0, n_dI, n_m1lt, q_inb, n_nar, n_nar0, n_nar1, n_bool, Bool.false_eq_true, Bool.true_eq_false, if_true, if_false, ↓reduceIte, Nat.reduceAdd, Nat.reduceMul, Nat.reduceSub, Nat.reduceLT, Nat.reduceLeDiff, Nat.reduceEqDiff, Nat.reduceMod, Nat.reduceDiv, q_R h.1.1, sg]
      rw [L_X12_signed_15]
      simp (disch := omega) only [q_ckt, q_lt, q_cI, q_cJ, q_cV, q_cP, q_xI, q_xV, q_xP, q_xJ, g_gk, g_ga, g_gw, g_gp, g_gq, g_P, g_J, q_I_s, q_I_n, q_I_k, nI_add, pk_sub, pk_mul, nI_clamp, n_lt0, n_0lt, n_eq0, n_lt, n_le, n_eq, n_m1, n_m2, n_m9, n_12, n_19, n_10, n_01, n_1n1, n_0n1, n_1n0, n_0n0, n_dI, n_m1lt, q_inb, n_nar, n_nar0, n_nar1, n_bool, Bool.false_eq_true, Bool.true_eq_false, if_true, if_false, ↓reduceIte, Nat.reduceAdd, Nat.reduceMul, Nat.reduceSub, Nat.reduceLT, Nat.reduceLeDiff, Nat.reduceEqDiff, Nat.reduceMod, Nat.reduceDiv, q_R h.1.1, e2]
    · rw [if_pos z]
      exact ⟨rfl, t2 z⟩
theorem r_snF (h : r_F B n L xs M0 f p M) {v : Int32} (hd : 3 ≤ d) : m_X12_signed d 412 v M = ir_oI (nI 0) M := by
  obtain ⟨e, rfl⟩ : ∃ e, d = e + 1 := ⟨d - 1, by omega⟩
  rw [E_X12_signed]
  simp (disch := omega) only [q_ckt, q_lt, q_cI, q_cJ, q_cV, q_cP, q_xI, q_xV, q_xP, q_xJ, g_gk, g_ga, g_gw, g_gp, g_gq, g_P, g_J, q_I_s, q_I_n, q_I_k, nI_add, pk_sub, pk_mul, nI_clamp, n_lt0, n_0lt, n_eq0, n_lt, n_le, n_eq, n_m1, n_m2, n_m9, n_12, n_19, n_10, n_01, n_1n1, n_0n1, n_1n0, n_0n0, n_dI, n_m1lt, q_inb, n_nar, n_nar0, n_nar1, n_bool, Bool.false_eq_true, Bool.true_eq_false, if_true, if_false, ↓reduceIte, Nat.reduceAdd, Nat.reduceMul, Nat.reduceSub, Nat.reduceLT, Nat.reduceLeDiff, Nat.reduceEqDiff, Nat.reduceMod, Nat.reduceDiv, q_R h.1.1, r_signF h (c := nI 45) (show 1 ≤ e by omega)]
  rw [L_X12_signed_15]
  simp (disch := omega) only [q_ckt, q_lt, q_cI, q_cJ, q_cV, q_cP, q_xI, q_xV, q_xP, q_xJ, g_gk, g_ga, g_gw, g_gp, g_gq, g_P, g_J, q_I_s, q_I_n, q_I_k, nI_add, pk_sub, pk_mul, nI_clamp, n_lt0, n_0lt, n_eq0, n_lt, n_le, n_eq, n_m1, n_m2, n_m9, n_12, n_19, n_10, n_01, n_1n1, n_0n1, n_1n0, n_0n0, n_dI, n_m1lt, q_inb, n_nar, n_nar0, n_nar1, n_bool, Bool.false_eq_true, Bool.true_eq_false, if_true, if_false, ↓reduceIte, Nat.reduceAdd, Nat.reduceMul, Nat.reduceSub, Nat.reduceLT, Nat.reduceLeDiff, Nat.reduceEqDiff, Nat.reduceMod, Nat.reduceDiv, q_R h.1.1, r_numF h (lo := nI 0) (hi := v) (show 2 ≤ e by omega)]
theorem c_sgn (h : c_T B n L xs M0 s M) (hd : 9 ≤ d) : ∃ M', m_X4_takeSign d 100 M = ir_oI (if k_kd B n s = 45 then nI 1 else nI 0) M' ∧ c_T B n L xs M0 (k_sb B n s) M' ∧ q_eq [100] M M' := by
  obtain ⟨e, rfl⟩ : ∃ e, d = e + 1 := ⟨d - 1, by omega⟩
  obtain ⟨h6, h8, h900, h300⟩ := c_hdr h
  unfold k_sb
  by_cases c : k_kd B n s = 45
  · rw [if_pos c, if_pos c]
    obtain ⟨M1, e1, t1, q1⟩ := c_next (d := e) h (by omega)
    refine ⟨M1, ?_, t1, q1⟩
    rw [E_X4_takeSign]
    simp (disch := omega) only [q_ckt, q_lt, q_cI, q_cJ, q_cV, q_cP, q_xI, q_xV, q_xP, q_xJ, g_gk, g_ga, g_gw, g_gp, g_gq, g_P, g_J, q_I_s, q_I_n, q_I_k, nI_add, pk_sub, pk_mul, nI_clamp, n_lt0, n_0lt, n_eq0, n_lt, n_le, n_eq, n_m1, n_m2, n_m9, n_12, n_19, n_10, n_01, n_1n1, n_0n1, n_1n0, n_0n0, n_dI, n_m1lt, q_inb, n_nar, n_nar0, n_nar1, n_bool, Bool.false_eq_true, Bool.true_eq_false, if_true, if_false, ↓reduceIte, Nat.reduceAdd, Nat.reduceMul, Nat.reduceSub, Nat.reduceLT, Nat.reduceLeDiff, Nat.reduceEqDiff, Nat.reduceMod, Nat.reduceDiv, q_D h.1.1, h8, c, L_X4_takeSign_14, e1, n_nr]
  · rw [if_neg c, if_neg c]
    refine ⟨M, ?_, h, q_eq.rf _ _⟩
    rw [E_X4_takeSign]
    simp (disch := omega) only [q_ckt, q_lt, q_cI, q_cJ, q_cV, q_cP, q_xI, q_xV, q_xP, q_xJ, g_gk, g_ga, g_gw, g_gp, g_gq, g_P, g_J, q_I_s, q_I_n, q_I_k, nI_add, pk_sub, pk_mul, nI_clamp, n_lt0, n_0lt, n_eq0, n_lt, n_le, n_eq, n_m1, n_m2, n_m9, n_12, n_19, n_10, n_01, n_1n1, n_0n1, n_1n0, n_0n0, n_dI, n_m1lt, q_inb, n_nar, n_nar0, n_nar1, n_bool, Bool.false_eq_true, Bool.true_eq_false, if_true, if_false, ↓reduceIte, Nat.reduceAdd, Nat.reduceMul, Nat.reduceSub, Nat.reduceLT, Nat.reduceLeDiff, Nat.reduceEqDiff, Nat.reduceMod, Nat.reduceDiv, q_D h.1.1, h8, c, L_X4_takeSign_14, n_nr]
/-- scalars of the told and the state -/
theorem c_K_x {M M' : ir_M} {K K' : Nat → Int32} (hb : k_bsz K) (hA : ∀ a, a ≠ 100 → a ≠ 101 → a ≠ 109 → M'.1 a = M.1 a) (hk : ∀ k, k ≠ 0 → k ≠ 3 → k ≠ 4 → k ≠ 5 → k ≠ 43 → K' k = K k) (s0 : ir_I M' 101 0 = K' 0) (s3 : ir_I M' 101 4 = K' 3) (s4 : ir_I M' 101 5 = K' 4) (s5 : ir_I M' 101 6 = K' 5) (s43 : ir_I M' 109 2 = K' 43) (f1 : ∀ k, k = 1 ∨ k = 2 ∨ k = 3 → ir_I M' 101 k = ir_I M 101 k) (g1 : ∀ k, k = 0 ∨ k = 1 ∨ k = 3 → ir_I M' 109 k = ir_I M 109 k) (h : c_K M K) : c_K M' K' := by
  obtain ⟨⟨z1, z2, z3, z4, z5, z6, z7, z8, z9, z10, z11, z12⟩, h2, h3, x1, x2, x3⟩ := h
  obtain ⟨b1, b2, b3, b4, b5, -⟩ := hb
  have ek : ∀ a k, a ≠ 100 → a ≠ 101 → a ≠ 109 → ir_I M' a k = ir_I M a k := fun a k h1 h2 h3 => congrFun (hA a h1 h2 h3) k
  have en : k_n K' = k_n K := by unfold k_n; rw [hk 2 (by decide) (by decide) (by decide) (by decide) (by decide)]
  have eg : k_g K' = k_g K := by unfold k_g; rw [hk 1 (by decide) (by decide) (by decide) (by decide) (by decide)]
  have em : k_m K' = k_m K := by unfold k_m; rw [hk 9 (by decide) (by decide) (by decide) (by decide) (by decide)]
  have ew : k_w K' = k_w K := by unfold k_w; rw [hk 44 (by decide) (by decide) (by decide) (by decide) (by decide)]
  have ea : k_na K' = k_na K := by unfold k_na; rw [hk 6 (by decide) (by decide) (by decide) (by decide) (by decide)]
  refine ⟨⟨s0, ?_, ?_, ?_, s3, s4, s5, fun p hp => ?_, fun p g hp hg => ?_, fun p q hp hq => ?_, ?_, fun i hi => ?_⟩, fun p hp => ?_, ⟨?_, ?_, s43, ?_, fun i hi => ?_, fun p hp => ?_, fun p hp => ?_, fun p hp => ?_, fun i hi => ?_⟩, fun p hp hn => ?_, fun k h64 => ?_, fun p hp => ?_⟩
  · rw [f1 1 (by decide), hk _ (by omega) (by omega) (by omega) (by omega) (by omega)]; exact z2
  · rw [f1 2 (by decide), hk _ (by omega) (by omega) (by omega) (by omega) (by omega)]; exact z3
  · rw [f1 3 (by decide), hk _ (by omega) (by omega) (by omega) (by omega) (by omega)]; exact z4
  · rw [en] at hp; rw [ek _ _ (by decide) (by decide) (by decide), hk _ (by omega) (by omega) (by omega) (by omega) (by omega)]; exact z8 p hp
  · rw [en] at hp; rw [eg] at hg; rw [ek _ _ (by decide) (by decide) (by decide), hk _ (by omega) (by omega) (by omega) (by omega) (by omega)]; exact z9 p g hp hg
  · rw [en] at hp hq; rw [ek _ _ (by decide) (by decide) (by decide), hk _ (by omega) (by omega) (by omega) (by omega) (by omega)]; exact z10 p q hp hq
  · rw [ek _ _ (by decide) (by decide) (by decide), hk _ (by omega) (by omega) (by omega) (by omega) (by omega)]; exact z11
  · rw [hk 7 (by decide) (by decide) (by decide) (by decide) (by decide)] at hi
    have e : k_sp K' i = k_sp K i := by unfold k_sp; rw [hk _ (by omega) (by omega) (by omega) (by omega) (by omega)]
    rw [ek _ _ (by decide) (by decide) (by decide), e]; exact z12 i hi
  · rw [en] at hp
    obtain ⟨x, y1, y2, y3⟩ := h2 p hp
    refine ⟨x, y1, by rw [ek _ _ (by decide) (by decide) (by decide)]; exact y2, fun q hq => (y3 q hq).trans ?_⟩
    unfold k_ap
    rw [ea]
    congr 1
    funext k
    rw [hk _ (by omega) (by omega) (by omega) (by omega) (by omega), hk _ (by omega) (by omega) (by omega) (by omega) (by omega)]
  · rw [g1 0 (by decide), hk _ (by omega) (by omega) (by omega) (by omega) (by omega)]; exact h3.1
  · rw [g1 1 (by decide), hk _ (by omega) (by omega) (by omega) (by omega) (by omega)]; exact h3.2.1
  · rw [g1 3 (by decide), hk _ (by omega) (by omega) (by omega) (by omega) (by omega)]; exact h3.2.2.2.1
  · rw [em] at hi; rw [ek _ _ (by decide) (by decide) (by decide), hk _ (by omega) (by omega) (by omega) (by omega) (by omega)]; exact h3.2.2.2.2.1 i hi
  · rw [en] at hp; rw [ek _ _ (by decide) (by decide) (by decide), hk _ (by omega) (by omega) (by omega) (by omega) (by omega)]; exact h3.2.2.2.2.2.1 p hp
  · rw [en] at hp; rw [ek _ _ (by decide) (by decide) (by decide), hk _ (by omega) (by omega) (by omega) (by omega) (by omega)]; exact h3.2.2.2.2.2.2.1 p hp
  · rw [en] at hp; rw [ek _ _ (by decide) (by decide) (by decide), hk _ (by omega) (by omega) (by omega) (by omega) (by omega)]; exact h3.2.2.2.2.2.2.2.1 p hp
  · rw [ew] at hi; rw [ek _ _ (by decide) (by decide) (by decide), hk _ (by omega) (by omega) (by omega) (by omega) (by omega)]; exact h3.2.2.2.2.2.2.2.2 i hi
  · rw [en] at hn; rw [ek _ _ (by decide) (by decide) (by decide)]; exact x1 p hp hn
  · rw [ek _ _ (by decide) (by decide) (by decide), hk _ (by omega) (by omega) (by omega) (by omega) (by omega)]; exact x2 k h64
  · rw [ek _ _ (by decide) (by decide) (by decide), hk _ (by omega) (by omega) (by omega) (by omega) (by omega)]; exact x3 p hp
/-- one scalar set, on both sides -/
def k_prc (k c : Nat) : Prop := (k = 0 ∧ c = 0) ∨ (k = 4 ∧ c = 3) ∨ (k = 5 ∧ c = 4) ∨ (k = 6 ∧ c = 5)
theorem c_P_1 (h : c_P B n L xs M0 s K M) (hb : k_bsz K) {k c : Nat} {v : Int32} (hc : k_prc k c) : c_P B n L xs M0 s (k_put1 K c v) (ir_sI M 101 k v) := by
  have q1 : q_eq [101] M (ir_sI M 101 k v) := q_eq.sI (by decide)
  have z := h.2.1
  have ea : ∀ a, a ≠ 101 → (ir_sI M 101 k v).1 a = M.1 a := fun a ha => q1.1 a (fun w => ha (List.mem_singleton.mp w))
  refine ⟨c_T_eq h.1 q1 (by decide) (c_cn_eq q1 (by decide) h.1.2.2.1), c_K_x hb (fun a _ h2 _ => ea a h2) (fun j h1 h2 h3 h4 h5 => if_neg (by unfold k_prc at hc; omega)) ?_ ?_ ?_ ?_ ?_ (fun j hj => q_I_k (by unfold k_prc at hc; omega)) (fun j hj => congrFun (ea 109 (by decide)) j) h.2⟩
  · unfold k_put1
    rcases hc with ⟨e1, e2⟩ | ⟨e1, e2⟩ | ⟨e1, e2⟩ | ⟨e1, e2⟩
    · rw [e1, e2, if_pos rfl, q_I_s]
    · rw [e1, e2, if_neg (by decide), q_I_k (by decide)]; exact z.1
    · rw [e1, e2, if_neg (by decide), q_I_k (by decide)]; exact z.1
    · rw [e1, e2, if_neg (by decide), q_I_k (by decide)]; exact z.1
  · unfold k_put1
    rcases hc with ⟨e1, e2⟩ | ⟨e1, e2⟩ | ⟨e1, e2⟩ | ⟨e1, e2⟩
    · rw [e1, e2, if_neg (by decide), q_I_k (by decide)]; exact z.2.2.2.2.1
    · rw [e1, e2, if_pos rfl, q_I_s]
    · rw [e1, e2, if_neg (by decide), q_I_k (by decide)]; exact z.2.2.2.2.1
    · rw [e1, e2, if_neg (by decide), q_I_k (by decide)]; exact z.2.2.2.2.1
  · unfold k_put1
    rcases hc with ⟨e1, e2⟩ | ⟨e1, e2⟩ | ⟨e1, e2⟩ | ⟨e1, e2⟩
    · rw [e1, e2, if_neg (by decide), q_I_k (by decide)]; exact z.2.2.2.2.2.1
    · rw [e1, e2, if_neg (by decide), q_I_k (by decide)]; exact z.2.2.2.2.2.1
    · rw [e1, e2, if_pos rfl, q_I_s]
    · rw [e1, e2, if_neg (by decide), q_I_k (by decide)]; exact z.2.2.2.2.2.1
  · unfold k_put1
    rcases hc with ⟨e1, e2⟩ | ⟨e1, e2⟩ | ⟨e1, e2⟩ | ⟨e1, e2⟩
    · rw [e1, e2, if_neg (by decide), q_I_k (by decide)]; exact z.2.2.2.2.2.2.1
    · rw [e1, e2, if_neg (by decide), q_I_k (by decide)]; exact z.2.2.2.2.2.2.1
    · rw [e1, e2, if_neg (by decide), q_I_k (by decide)]; exact z.2.2.2.2.2.2.1
    · rw [e1, e2, if_pos rfl, q_I_s]
  · rw [show ir_I (ir_sI M 101 k v) 109 2 = ir_I M 109 2 from congrFun (ea 109 (by decide)) 2, show k_put1 K c v 43 = K 43 from if_neg (by unfold k_prc at hc; omega)]
    exact h.2.2.2.1.2.2.1
theorem c_P_r (h : c_P B n L xs M0 s K M) (hb : k_bsz K) {v : Int32} : c_P B n L xs M0 s (k_put1 K 43 v) (ir_sI M 109 2 v) := by
  have q1 : q_eq [109] M (ir_sI M 109 2 v) := q_eq.sI (by decide)
  have z := h.2.1
  have ea : ∀ a, a ≠ 109 → (ir_sI M 109 2 v).1 a = M.1 a := fun a ha => q1.1 a (fun w => ha (List.mem_singleton.mp w))
  have e1 : ∀ k, ir_I (ir_sI M 109 2 v) 101 k = ir_I M 101 k := fun k => congrFun (ea 101 (by decide)) k
  have kk : ∀ k, k ≠ 43 → k_put1 K 43 v k = K k := fun k hk => if_neg hk
  refine ⟨c_T_eq h.1 q1 (by decide) (c_cn_eq q1 (by decide) h.1.2.2.1), c_K_x hb (fun a _ _ h2 => ea a h2) (fun j _ _ _ _ h5 => kk j h5) ?_ ?_ ?_ ?_ ?_ (fun j hj => e1 j) (fun j hj => q_I_k (by omega)) h.2⟩
  · rw [e1, kk 0 (by decide)]; exact z.1
  · rw [e1, kk 3 (by decide)]; exact z.2.2.2.2.1
  · rw [e1, kk 4 (by decide)]; exact z.2.2.2.2.2.1
  · rw [e1, kk 5 (by decide)]; exact z.2.2.2.2.2.2.1
  · rw [q_I_s]; exact (if_pos rfl).symm
end LB
