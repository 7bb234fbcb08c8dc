/-! THE WELL: numbers and steps, the reference; tokens, numbers and steps, the class -/
/-- 0: the number stands; else the fault's kind -/
def k_nf (kd vl a : Nat) (hi : Int) : Nat := if kd = 2 then (if a ≤ vl ∧ (vl : Int) ≤ hi then 0 else 3) else k_fk kd 2
theorem k_fk_b {kd w : Nat} (hw : w ≠ 0 ∧ w ≤ 4) : k_fk kd w ≠ 0 ∧ k_fk kd w ≤ 4 := by
  unfold k_fk
  split <;> omega
def k_stp1 (K : Nat → Int32) (c st : Nat) : Nat → Int32 := fun k => if k = 7 then nI (c + 1) else if k = 717 + c then nI st else K k
section RB2
variable {B : Nat → Nat} {n L : Nat} {xs : Nat → Int32} {M0 M : ir_M} {d dp s f p : Nat}
theorem r_num (h : r_T B n L xs M0 dp s M) {a g : Nat} {hi : Int32} (ha : a < 1000) (hg : g ≤ 6) (h1g : ir_I M 414 1 = nI g) (hd : 4 ≤ d) : ∃ M', m_X12_number d 412 (nI a) hi M = ir_oI (nI (if k_nf (k_kd B n s) (k_vl B n s) a hi.toInt = 0 then k_vl B n s else a)) M' ∧ (k_nf (k_kd B n s) (k_vl B n s) a hi.toInt = 0 → r_T B n L xs M0 dp (k_nt B n s) M' ∧ q_eq [412] M M') ∧ (k_nf (k_kd B n s) (k_vl B n s) a hi.toInt ≠ 0 → r_F B n L xs M0 (k_nf (k_kd B n s) (k_vl B n s) a hi.toInt) s M') := by
  obtain ⟨e, rfl⟩ : ∃ e, d = e + 1 := ⟨d - 1, by omega⟩
  obtain ⟨b1, b2, b3, b4, b5, b6, b7, b8⟩ := k_nt_b (B := B) h.2.2.2.1
  have i3 := (k_rt_i (k_kd B n s)).2.2.1
  have i5 := (k_rt_i (k_kd B n s)).2.2.2.2.1
  have h10 := h.2.2.2.2.2.2.2.1
  have h12 := h.2.2.2.2.1
  have fin : ∀ (w : Nat), w = 2 ∨ w = 3 → k_nf (k_kd B n s) (k_vl B n s) a hi.toInt = k_fk (k_kd B n s) w → (∀ X, (∀ M3, m_X12_blames e 412 (nI w) M = ir_oV M3 → v_X12_number_36 e 412 (nI a) M3 = X) → m_X12_number (e + 1) 412 (nI a) hi M = X) → ∃ M', m_X12_number (e + 1) 412 (nI a) hi M = ir_oI (nI (if k_nf (k_kd B n s) (k_vl B n s) a hi.toInt = 0 then k_vl B n s else a)) M' ∧ (k_nf (k_kd B n s) (k_vl B n s) a hi.toInt = 0 → r_T B n L xs M0 dp (k_nt B n s) M' ∧ q_eq [412] M M') ∧ (k_nf (k_kd B n s) (k_vl B n s) a hi.toInt ≠ 0 → r_F B n L xs M0 (k_nf (k_kd B n s) (k_vl B n s) a hi.toInt) s M') := fun w hw ek go => by
    obtain ⟨M', e1, t1⟩ := r_blame (d := e) h (w := w) (by omega) hg h1g (by omega)
    have kb := k_fk_b (kd := k_kd B n s) (w := w) (by omega)
    rw [ek]
    refine ⟨M', go _ (fun M3 e3 => ?_), fun z => absurd z kb.1, fun _ => t1⟩
    have : M3 = M' := by
      rw [e1] at e3
      cases e3
      rfl
    rw [this, if_neg kb.1, L_X12_number_36]
    simp (disch := omega) only [q_ckt, q_lt, q_cI, q_cJ, q_cV, q_cP, q_xI, q_xV, q_xP, q_xJ, g_gk, g_ga, g_gw, g_gp, g_gq, g_P, g_J, q_I_s, q_I_n, q_I_k, nI_add, pk_sub, pk_mul, nI_clamp, n_lt0, n_0lt, n_eq0, n_lt, n_le, n_eq, n_m1, n_m2, n_m9, n_12, n_19, n_10, n_01, n_1n1, n_0n1, n_1n0, n_0n0, n_dI, n_m1lt, q_inb, n_nar, n_nar0, n_nar1, n_bool, Bool.false_eq_true, Bool.true_eq_false, if_true, if_false, ↓reduceIte, Nat.reduceAdd, Nat.reduceMul, Nat.reduceSub, Nat.reduceLT, Nat.reduceLeDiff, Nat.reduceEqDiff, Nat.reduceMod, Nat.reduceDiv, q_R t1.1.1, r_F_z t1, L_X12_number_52]
  by_cases c : k_kd B n s = 2
  · have h11 := h.2.2.2.2.2.2.2.2.1 c
    have v1000 := b6 c
    have w := r_within (d := e - 1) (a := (nI (k_vl B n s)).toInt64) (b := (nI a).toInt64) (c := hi.toInt64) (M := M)
    rw [show e - 1 + 1 = e by omega, Int32.toInt_toInt64, Int32.toInt_toInt64, Int32.toInt_toInt64, nI_toInt (by omega), nI_toInt (by omega)] at w
    by_cases q : a ≤ k_vl B n s ∧ (k_vl B n s : Int) ≤ hi.toInt
    · have ek : k_nf (k_kd B n s) (k_vl B n s) a hi.toInt = 0 := by unfold k_nf; rw [if_pos c, if_pos q]
      rw [if_pos (by omega)] at w
      obtain ⟨M', e1, t1, q1⟩ := r_next (d := e) h (by omega)
      rw [ek, if_pos rfl]
      refine ⟨M', ?_, fun _ => ⟨t1, q1⟩, fun z => absurd rfl z⟩
      rw [E_X12_number]
      simp (disch := omega) only [q_ckt, q_lt, q_cI, q_cJ, q_cV, q_cP, q_xI, q_xV, q_xP, q_xJ, g_gk, g_ga, g_gw, g_gp, g_gq, g_P, g_J, q_I_s, q_I_n, q_I_k, nI_add, pk_sub, pk_mul, nI_clamp, n_lt0, n_0lt, n_eq0, n_lt, n_le, n_eq, n_m1, n_m2, n_m9, n_12, n_19, n_10, n_01, n_1n1, n_0n1, n_1n0, n_0n0, n_dI, n_m1lt, q_inb, n_nar, n_nar0, n_nar1, n_bool, Bool.false_eq_true, Bool.true_eq_false, if_true, if_false, ↓reduceIte, Nat.reduceAdd, Nat.reduceMul, Nat.reduceSub, Nat.reduceLT, Nat.reduceLeDiff, Nat.reduceEqDiff, Nat.reduceMod, Nat.reduceDiv, q_R h.1.1, h10, i3.mpr c, h11, w, L_X12_number_36, h12, e1, L_X12_number_52, q_R t1.1.1, t1.2.2.2.2.1]
    · have ek : k_nf (k_kd B n s) (k_vl B n s) a hi.toInt = k_fk (k_kd B n s) 3 := by unfold k_nf k_fk; rw [if_pos c, if_neg q, if_neg (by omega)]
      rw [if_neg (by omega)] at w
      refine fin 3 (Or.inr rfl) ek (fun X hX => ?_)
      obtain ⟨M3, e3, t3⟩ := r_blame (d := e) h (w := 3) (by omega) hg h1g (by omega)
      rw [E_X12_number]
      simp (disch := omega) only [q_ckt, q_lt, q_cI, q_cJ, q_cV, q_cP, q_xI, q_xV, q_xP, q_xJ, g_gk, g_ga, g_gw, g_gp, g_gq, g_P, g_J, q_I_s, q_I_n, q_I_k, nI_add, pk_sub, pk_mul, nI_clamp, n_lt0, n_0lt, n_eq0, n_lt, n_le, n_eq, n_m1, n_m2, n_m9, n_12, n_19, n_10, n_01, n_1n1, n_0n1, n_1n0, n_0n0, n_dI, n_m1lt, q_inb, n_nar, n_nar0, n_nar1, n_bool, Bool.false_eq_true, Bool.true_eq_false, if_true, if_false, ↓reduceIte, Nat.reduceAdd, Nat.reduceMul, Nat.reduceSub, Nat.reduceLT, Nat.reduceLeDiff, Nat.reduceEqDiff, Nat.reduceMod, Nat.reduceDiv, q_R h.1.1, h10, i3.mpr c, h11, w, e3]
      exact hX M3 e3
  · have ek : k_nf (k_kd B n s) (k_vl B n s) a hi.toInt = k_fk (k_kd B n s) 2 := by unfold k_nf; rw [if_neg c]
    refine fin 2 (Or.inl rfl) ek (fun X hX => ?_)
    obtain ⟨M3, e3, t3⟩ := r_blame (d := e) h (w := 2) (by omega) hg h1g (by omega)
    have z : ¬ k_rt (k_kd B n s) = 2 := fun w => c (i3.mp w)
    rw [E_X12_number]
    simp (disch := omega) only [q_ckt, q_lt, q_cI, q_cJ, q_cV, q_cP, q_xI, q_xV, q_xP, q_xJ, g_gk, g_ga, g_gw, g_gp, g_gq, g_P, g_J, q_I_s, q_I_n, q_I_k, nI_add, pk_sub, pk_mul, nI_clamp, n_lt0, n_0lt, n_eq0, n_lt, n_le, n_eq, n_m1, n_m2, n_m9, n_12, n_19, n_10, n_01, n_1n1, n_0n1, n_1n0, n_0n0, n_dI, n_m1lt, q_inb, n_nar, n_nar0, n_nar1, n_bool, Bool.false_eq_true, Bool.true_eq_false, if_true, if_false, ↓reduceIte, Nat.reduceAdd, Nat.reduceMul, Nat.reduceSub, Nat.reduceLT, Nat.reduceLeDiff, Nat.reduceEqDiff, Nat.reduceMod, Nat.reduceDiv, q_R h.1.1, h10, z, e3]
    exact hX M3 e3
theorem r_numF (h : r_F B n L xs M0 f p M) {lo hi : Int32} (hd : 2 ≤ d) : m_X12_number d 412 lo hi M = ir_oI lo M := by
  obtain ⟨e, rfl⟩ : ∃ e, d = e + 2 := ⟨d - 2, by omega⟩
  have b2 := r_blameF (d := e + 1) h (w := nI 2) (by omega)
  have b3 := r_blameF (d := e + 1) h (w := nI 3) (by omega)
  have w := r_within (d := e) (a := (ir_I M 412 11).toInt64) (b := lo.toInt64) (c := hi.toInt64) (M := M)
  have nn : v_X12_number_36 (e + 1) 412 lo M = ir_oI lo M := by
    rw [L_X12_number_36]
    simp (disch := omega) only [q_ckt, q_lt, q_cI, q_cJ, q_cV, q_cP, q_xI, q_xV, q_xP, q_xJ, g_gk, g_ga, g_gw, g_gp, g_gq, g_P, g_J, q_I_s, q_I_n, q_I_k, nI_add, pk_sub, pk_mul, nI_clamp, n_lt0, n_0lt, n_eq0, n_lt, n_le, n_eq, n_m1, n_m2, n_m9, n_12, n_19, n_10, n_01, n_1n1, n_0n1, n_1n0, n_0n0, n_dI, n_m1lt, q_inb, n_nar, n_nar0, n_nar1, n_bool, Bool.false_eq_true, Bool.true_eq_false, if_true, if_false, ↓reduceIte, Nat.reduceAdd, Nat.reduceMul, Nat.reduceSub, Nat.reduceLT, Nat.reduceLeDiff, Nat.reduceEqDiff, Nat.reduceMod, Nat.reduceDiv, q_R h.1.1, r_F_z h, L_X12_number_52]
  rw [E_X12_number]
  by_cases q : ir_I M 412 10 = nI 2
  · rw [if_pos q]
    by_cases c : lo.toInt64.toInt ≤ (ir_I M 412 11).toInt64.toInt ∧ (ir_I M 412 11).toInt64.toInt ≤ hi.toInt64.toInt
    · rw [if_pos c] at w
      simp (disch := omega) only [q_ckt, q_lt, q_cI, q_cJ, q_cV, q_cP, q_xI, q_xV, q_xP, q_xJ, g_gk, g_ga, g_gw, g_gp, g_gq, g_P, g_J, q_I_s, q_I_n, q_I_k, nI_add, pk_sub, pk_mul, nI_clamp, n_lt0, n_0lt, n_eq0, n_lt, n_le, n_eq, n_m1, n_m2, n_m9, n_12, n_19, n_10, n_01, n_1n1, n_0n1, n_1n0, n_0n0, n_dI, n_m1lt, q_inb, n_nar, n_nar0, n_nar1, n_bool, Bool.false_eq_true, Bool.true_eq_false, if_true, if_false, ↓reduceIte, Nat.reduceAdd, Nat.reduceMul, Nat.reduceSub, Nat.reduceLT, Nat.reduceLeDiff, Nat.reduceEqDiff, Nat.reduceMod, Nat.reduceDiv, q_R h.1.1, w, nn]
    · rw [if_neg c] at w
      simp (disch := omega) only [q_ckt, q_lt, q_cI, q_cJ, q_cV, q_cP, q_xI, q_xV, q_xP, q_xJ, g_gk, g_ga, g_gw, g_gp, g_gq, g_P, g_J, q_I_s, q_I_n, q_I_k, nI_add, pk_sub, pk_mul, nI_clamp, n_lt0, n_0lt, n_eq0, n_lt, n_le, n_eq, n_m1, n_m2, n_m9, n_12, n_19, n_10, n_01, n_1n1, n_0n1, n_1n0, n_0n0, n_dI, n_m1lt, q_inb, n_nar, n_nar0, n_nar1, n_bool, Bool.false_eq_true, Bool.true_eq_false, if_true, if_false, ↓reduceIte, Nat.reduceAdd, Nat.reduceMul, Nat.reduceSub, Nat.reduceLT, Nat.reduceLeDiff, Nat.reduceEqDiff, Nat.reduceMod, Nat.reduceDiv, q_R h.1.1, w, b3, nn]
  · rw [if_neg q]
    simp (disch := omega) only [q_ckt, q_lt, q_cI, q_cJ, q_cV, q_cP, q_xI, q_xV, q_xP, q_xJ, g_gk, g_ga, g_gw, g_gp, g_gq, g_P, g_J, q_I_s, q_I_n, q_I_k, nI_add, pk_sub, pk_mul, nI_clamp, n_lt0, n_0lt, n_eq0, n_lt, n_le, n_eq, n_m1, n_m2, n_m9, n_12, n_19, n_10, n_01, n_1n1, n_0n1, n_1n0, n_0n0, n_dI, n_m1lt, q_inb, n_nar, n_nar0, n_nar1, n_bool, Bool.false_eq_true, Bool.true_eq_false, if_true, if_false, ↓reduceIte, Nat.reduceAdd, Nat.reduceMul, Nat.reduceSub, Nat.reduceLT, Nat.reduceLeDiff, Nat.reduceEqDiff, Nat.reduceMod, Nat.reduceDiv, q_R h.1.1, b2, nn]
theorem r_ly (h : r_T B n L xs M0 dp s M) {c st : Nat} (hc : c < 900) (h7 : ir_I M 414 7 = nI c) (hd : 1 ≤ d) : ∃ M', m_X12_laysStep d 412 (nI st) M = ir_oV M' ∧ r_T B n L xs M0 dp s M' ∧ ∀ k, ir_I M' 414 k = k_stp1 (ir_I M 414) c st k := by
  obtain ⟨e, rfl⟩ : ∃ e, d = e + 1 := ⟨d - 1, by omega⟩
  have q1 : q_eq [414] M (ir_sI (ir_sI M 414 (717 + c) (nI st)) 414 7 (nI (c + 1))) := (q_eq.sI (by decide)).tr (q_eq.sI (by decide))
  have ek : ∀ k, ir_I (ir_sI (ir_sI M 414 (717 + c) (nI st)) 414 7 (nI (c + 1))) 412 k = ir_I M 412 k := fun k => q_I_eq q1 (by decide) k
  obtain ⟨h1, h2, h3, h4, h5, h6, h7', h8, h9, h10⟩ := h
  refine ⟨ir_sI (ir_sI M 414 (717 + c) (nI st)) 414 7 (nI (c + 1)), ?_, ⟨r_tx_eq h1 q1 (by decide) (ek 7), h2.tr (q1.sub (by decide)), fun k hk => (ek k).trans (h3 k hk), h4, (ek _).trans h5, (ek _).trans h6, (ek _).trans h7', (ek _).trans h8, fun w => (ek _).trans (h9 w), (ek _).trans h10⟩, fun k => ?_⟩
  · rw [E_X12_laysStep]
    simp (disch := omega) only [q_ckt, q_lt, q_cI, q_cJ, q_cV, q_cP, q_xI, q_xV, q_xP, q_xJ, g_gk, g_ga, g_gw, g_gp, g_gq, g_P, g_J, q_I_s, q_I_n, q_I_k, nI_add, pk_sub, pk_mul, nI_clamp, n_lt0, n_0lt, n_eq0, n_lt, n_le, n_eq, n_m1, n_m2, n_m9, n_12, n_19, n_10, n_01, n_1n1, n_0n1, n_1n0, n_0n0, n_dI, n_m1lt, q_inb, n_nar, n_nar0, n_nar1, n_bool, Bool.false_eq_true, Bool.true_eq_false, if_true, if_false, ↓reduceIte, Nat.reduceAdd, Nat.reduceMul, Nat.reduceSub, Nat.reduceLT, Nat.reduceLeDiff, Nat.reduceEqDiff, Nat.reduceMod, Nat.reduceDiv, q_R h1.1, h5, h7]
  · unfold k_stp1
    by_cases c1 : k = 7
    · rw [if_pos c1, c1, q_I_s]
    · rw [if_neg c1, q_I_k c1]
      by_cases c2 : k = 717 + c
      · rw [if_pos c2, c2, q_I_s]
      · rw [if_neg c2, q_I_k c2]
theorem r_lyF (h : r_F B n L xs M0 f p M) {v : Int32} (hd : 1 ≤ d) : m_X12_laysStep d 412 v M = ir_oV M := by
  obtain ⟨e, rfl⟩ : ∃ e, d = e + 1 := ⟨d - 1, by omega⟩
  rw [E_X12_laysStep]
  simp (disch := omega) only [q_ckt, q_lt, q_cI, q_cJ, q_cV, q_cP, q_xI, q_xV, q_xP, q_xJ, g_gk, g_ga, g_gw, g_gp, g_gq, g_P, g_J, q_I_s, q_I_n, q_I_k, nI_add, pk_sub, pk_mul, nI_clamp, n_lt0, n_0lt, n_eq0, n_lt, n_le, n_eq, n_m1, n_m2, n_m9, n_12, n_19, n_10, n_01, n_1n1, n_0n1, n_1n0, n_0n0, n_dI, n_m1lt, q_inb, n_nar, n_nar0, n_nar1, n_bool, Bool.false_eq_true, Bool.true_eq_false, if_true, if_false, ↓reduceIte, Nat.reduceAdd, Nat.reduceMul, Nat.reduceSub, Nat.reduceLT, Nat.reduceLeDiff, Nat.reduceEqDiff, Nat.reduceMod, Nat.reduceDiv, q_R h.1.1, r_F_z h]
/-- going in, at most six deep -/
theorem r_in (h : r_T B n L xs M0 dp s M) (hdp : dp ≤ 6) {g : Nat} (hg : g ≤ 6) (h1g : ir_I M 414 1 = nI g) (hd : 4 ≤ d) : ∃ M', m_X12_goesIn d 412 M = ir_oV M' ∧ (dp < 6 → r_T B n L xs M0 (dp + 1) (k_nt B n s) M' ∧ q_eq [412] M M') ∧ (dp = 6 → r_F B n L xs M0 (k_fk (k_kd B n s) 4) s M') := by
  obtain ⟨e, rfl⟩ : ∃ e, d = e + 1 := ⟨d - 1, by omega⟩
  have h16 := h.2.2.2.2.2.2.2.2.2
  by_cases c : dp = 6
  · obtain ⟨M1, e1, t1⟩ := r_blame (d := e) h (w := 4) (by decide) hg h1g (by omega)
    have t2 := r_F_s (k := 16) (v := ir_I M1 412 16 + nI 1) t1 (by decide)
    refine ⟨_, ?_, fun z => by omega, fun _ => t2⟩
    rw [E_X12_goesIn]
    simp (disch := omega) only [q_ckt, q_lt, q_cI, q_cJ, q_cV, q_cP, q_xI, q_xV, q_xP, q_xJ, g_gk, g_ga, g_gw, g_gp, g_gq, g_P, g_J, q_I_s, q_I_n, q_I_k, nI_add, pk_sub, pk_mul, nI_clamp, n_lt0, n_0lt, n_eq0, n_lt, n_le, n_eq, n_m1, n_m2, n_m9, n_12, n_19, n_10, n_01, n_1n1, n_0n1, n_1n0, n_0n0, n_dI, n_m1lt, q_inb, n_nar, n_nar0, n_nar1, n_bool, Bool.false_eq_true, Bool.true_eq_false, if_true, if_false, ↓reduceIte, Nat.reduceAdd, Nat.reduceMul, Nat.reduceSub, Nat.reduceLT, Nat.reduceLeDiff, Nat.reduceEqDiff, Nat.reduceMod, Nat.reduceDiv, q_R h.1.1, h16, c, e1, L_X12_goesIn_14, q_R t1.1.1]
    rw [if_neg (r_F_z t1)]
  · have q1 : q_eq [412] M (ir_sI M 412 16 (nI (dp + 1))) := q_eq.sI (by decide)
    have t1 : r_T B n L xs M0 (dp + 1) s (ir_sI M 412 16 (nI (dp + 1))) := by
      obtain ⟨h1, h2, h3, h4, h5, h6, h7, h8, h9, h10⟩ := h
      refine ⟨r_tx_eq h1 q1 (by decide) (q_I_k (by decide)), h2.tr (q1.sub (by decide)), fun k hk => by rw [q_I_k (by omega)]; exact h3 k hk, h4, ?_, ?_, ?_, ?_, fun w => ?_, q_I_s⟩
      · rw [q_I_k (by decide)]; exact h5
      · rw [q_I_k (by decide)]; exact h6
      · rw [q_I_k (by decide)]; exact h7
      · rw [q_I_k (by decide)]; exact h8
      · rw [q_I_k (by decide)]; exact h9 w
    obtain ⟨M', e1, t2, q2⟩ := r_next (d := e) t1 (by omega)
    refine ⟨M', ?_, fun _ => ⟨t2, q1.tr q2⟩, fun z => absurd z c⟩
    rw [E_X12_goesIn]
    simp (disch := omega) only [q_ckt, q_lt, q_cI, q_cJ, q_cV, q_cP, q_xI, q_xV, q_xP, q_xJ, g_gk, g_ga, g_gw, g_gp, g_gq, g_P, g_J, q_I_s, q_I_n, q_I_k, nI_add, pk_sub, pk_mul, nI_clamp, n_lt0, n_0lt, n_eq0, n_lt, n_le, n_eq, n_m1, n_m2, n_m9, n_12, n_19, n_10, n_01, n_1n1, n_0n1, n_1n0, n_0n0, n_dI, n_m1lt, q_inb, n_nar, n_nar0, n_nar1, n_bool, Bool.false_eq_true, Bool.true_eq_false, if_true, if_false, ↓reduceIte, Nat.reduceAdd, Nat.reduceMul, Nat.reduceSub, Nat.reduceLT, Nat.reduceLeDiff, Nat.reduceEqDiff, Nat.reduceMod, Nat.reduceDiv, q_R h.1.1, h16, c, L_X12_goesIn_14, h.2.2.2.2.1, e1]
theorem r_T_dp (h : r_T B n L xs M0 (dp + 1) s M) (hdp : dp ≤ 6) : r_T B n L xs M0 dp s (ir_sI M 412 16 (nI (dp + 1) - nI 1)) := by
  obtain ⟨h1, h2, h3, h4, h5, h6, h7, h8, h9, h10⟩ := h
  have q1 : q_eq [412] M (ir_sI M 412 16 (nI (dp + 1) - nI 1)) := q_eq.sI (by decide)
  refine ⟨r_tx_eq h1 q1 (by decide) (q_I_k (by decide)), h2.tr (q1.sub (by decide)), fun k hk => by rw [q_I_k (by omega)]; exact h3 k hk, h4, ?_, ?_, ?_, ?_, fun w => ?_, ?_⟩
  · rw [q_I_k (by decide)]; exact h5
  · rw [q_I_k (by decide)]; exact h6
  · rw [q_I_k (by decide)]; exact h7
  · rw [q_I_k (by decide)]; exact h8
  · rw [q_I_k (by decide)]; exact h9 w
  · rw [q_I_s, show nI (dp + 1) = nI dp + nI 1 from (nI_add dp 1).symm, Int32.add_sub_cancel]
end RB2
def c_fs : List Nat := [100, 101, 102, 103, 104, 105, 106, 107, 108, 109, 110, 111, 112, 113, 114]
def c_cn (M : ir_M) : Prop := ∃ c : Nat, c ≤ 900 ∧ ir_I M 104 0 = nI c
def c_T (B : Nat → Nat) (n L : Nat) (xs : Nat → Int32) (M0 : ir_M) (s : Nat) (M : ir_M) : Prop := c_tx B n L xs M ∧ q_eq c_fs M0 M ∧ c_cn M ∧ s ≤ n ∧ ir_I M 100 0 = 0 ∧ ir_I M 100 1 = -1 ∧ ir_I M 100 7 = nI (k_en B n s) ∧ ir_I M 100 8 = nI (k_kd B n s) ∧ ir_I M 100 9 = nI s ∧ (k_kd B n s = 2 → ir_I M 100 10 = nI (k_vl B n s))
def c_F (B : Nat → Nat) (n L : Nat) (xs : Nat → Int32) (M0 : ir_M) (f p : Nat) (M : ir_M) : Prop := c_tx B n L xs M ∧ q_eq c_fs M0 M ∧ c_cn M ∧ (ir_I M 100 0 = nI f ∧ f ≠ 0 ∧ f ≤ 4) ∧ ir_I M 100 1 = nI p
section CB
variable {B : Nat → Nat} {n L : Nat} {xs : Nat → Int32} {M0 M M' : ir_M} {d s f p : Nat} {S : List Nat}
theorem n_fs : ∀ a, 100 ≤ a → a ≤ 114 → a ∈ c_fs := fun a h1 h2 => by
  have : a = 100 ∨ a = 101 ∨ a = 102 ∨ a = 103 ∨ a = 104 ∨ a = 105 ∨ a = 106 ∨ a = 107 ∨ a = 108 ∨ a = 109 ∨ a = 110 ∨ a = 111 ∨ a = 112 ∨ a = 113 ∨ a = 114 := by omega
  unfold c_fs
  rcases this with e | e | e | e | e | e | e | e | e | e | e | e | e | e | e <;> (rw [e]; decide)
theorem c_T_eq (h : c_T B n L xs M0 s M) (he : q_eq S M M') (hS : ∀ a ∈ S, 101 ≤ a ∧ a ≤ 114) (hc : c_cn M') : c_T B n L xs M0 s M' := by
  obtain ⟨h1, h2, h3, h4, h5, h6, h7, h8, h9, h10⟩ := h
  have ek : ∀ k, ir_I M' 100 k = ir_I M 100 k := fun k => q_I_eq he (fun q => by have := hS 100 q; omega) k
  exact ⟨c_tx_eq h1 he (fun a ha => by have := hS a ha; omega) (ek 6), h2.tr (he.sub (fun a ha => by have := hS a ha; exact n_fs a (by omega) this.2)), hc, h4, (ek _).trans h5, (ek _).trans h6, (ek _).trans h7, (ek _).trans h8, (ek _).trans h9, fun w => (ek _).trans (h10 w)⟩
theorem c_F_eq (h : c_F B n L xs M0 f p M) (he : q_eq S M M') (hS : ∀ a ∈ S, 101 ≤ a ∧ a ≤ 114) (hc : c_cn M') : c_F B n L xs M0 f p M' := by
  obtain ⟨h1, h2, h3, h4, h5⟩ := h
  have ek : ∀ k, ir_I M' 100 k = ir_I M 100 k := fun k => q_I_eq he (fun q => by have := hS 100 q; omega) k
  exact ⟨c_tx_eq h1 he (fun a ha => by have := hS a ha; omega) (ek 6), h2.tr (he.sub (fun a ha => by have := hS a ha; exact n_fs a (by omega) this.2)), hc, ⟨(ek _).trans h4.1, h4.2⟩, (ek _).trans h5⟩
theorem c_cn_eq (he : q_eq S M M') (hS : 104 ∉ S) (h : c_cn M) : c_cn M' := by
  obtain ⟨c, h1, h2⟩ := h
  exact ⟨c, h1, (q_I_eq he hS 0).trans h2⟩
theorem c_next (h : c_T B n L xs M0 s M) (hd : 8 ≤ d) : ∃ M', m_X4_next d 100 M = ir_oV M' ∧ c_T B n L xs M0 (k_nt B n s) M' ∧ q_eq [100] M M' := by
  obtain ⟨e, rfl⟩ : ∃ e, d = e + 8 := ⟨d - 8, by omega⟩
  obtain ⟨h1, h2, h3, h4, h5, h6, h7, h8, h9, h10⟩ := h
  obtain ⟨b1, b2, b3, b4, b5, b6, b7, b8⟩ := k_nt_b (B := B) h4
  obtain ⟨M', e1, q1, k1, r1, r2, r3, r4⟩ := c_nx (d := e) h1 b7 h7 rfl
  refine ⟨M', e1, ⟨c_tx_eq h1 q1 (by decide) (k1 6 (by decide) (by decide) (by decide) (by decide)), h2.tr (q1.sub (by decide)), c_cn_eq q1 (by decide) h3, b2, ?_, ?_, r1, r2, r3, r4⟩, q1⟩
  · rw [k1 0 (by decide) (by decide) (by decide) (by decide)]; exact h5
  · rw [k1 1 (by decide) (by decide) (by decide) (by decide)]; exact h6
theorem c_ref (h : c_T B n L xs M0 s M) {w : Nat} (hw : w ≠ 0 ∧ w ≤ 4) (hd : 1 ≤ d) : ∃ M', m_X4_refuse d 100 (nI w) M = ir_oI (nI 0) M' ∧ c_F B n L xs M0 (k_fk (k_kd B n s) w) s M' := by
  obtain ⟨e, rfl⟩ : ∃ e, d = e + 1 := ⟨d - 1, by omega⟩
  obtain ⟨h1, h2, h3, h4, h5, h6, h7, h8, h9, h10⟩ := h
  obtain ⟨b1, b2, b3, b4, b5, b6, b7, b8⟩ := k_nt_b (B := B) h4
  have go : ∀ f, f ≠ 0 ∧ f ≤ 4 → c_F B n L xs M0 f s (ir_sI (ir_sI M 100 0 (nI f)) 100 1 (nI s)) := fun f hf => by
    have q1 : q_eq [100] M (ir_sI (ir_sI M 100 0 (nI f)) 100 1 (nI s)) := (q_eq.sI (by decide)).tr (q_eq.sI (by decide))
    refine ⟨c_tx_eq h1 q1 (by decide) (by rw [q_I_k (by decide), q_I_k (by decide)]), h2.tr (q1.sub (by decide)), c_cn_eq q1 (by decide) h3, ⟨by rw [q_I_k (by decide), q_I_s], hf⟩, q_I_s⟩
  unfold k_fk
  by_cases c : k_kd B n s = 1
  · rw [if_pos c]
    refine ⟨_, ?_, go 1 (by decide)⟩
    rw [E_X4_refuse]
    simp (disch := omega) only [q_ckt, q_lt, q_cI, q_cJ, q_cV, q_cP, q_xI, q_xV, q_xP, q_xJ, g_gk, g_ga, g_gw, g_gp, g_gq, g_P, g_J, q_I_s, q_I_n, q_I_k, nI_add, pk_sub, pk_mul, nI_clamp, n_lt0, n_0lt, n_eq0, n_lt, n_le, n_eq, n_m1, n_m2, n_m9, n_12, n_19, n_10, n_01, n_1n1, n_0n1, n_1n0, n_0n0, n_dI, n_m1lt, q_inb, n_nar, n_nar0, n_nar1, n_bool, Bool.false_eq_true, Bool.true_eq_false, if_true, if_false, ↓reduceIte, Nat.reduceAdd, Nat.reduceMul, Nat.reduceSub, Nat.reduceLT, Nat.reduceLeDiff, Nat.reduceEqDiff, Nat.reduceMod, Nat.reduceDiv, q_D h1.1, h8, c, h9, n_nr]
  · rw [if_neg c]
    refine ⟨_, ?_, go w hw⟩
    rw [E_X4_refuse]
    simp (disch := omega) only [q_ckt, q_lt, q_cI, q_cJ, q_cV, q_cP, q_xI, q_xV, q_xP, q_xJ, g_gk, g_ga, g_gw, g_gp, g_gq, g_P, g_J, q_I_s, q_I_n, q_I_k, nI_add, pk_sub, pk_mul, nI_clamp, n_lt0, n_0lt, n_eq0, n_lt, n_le, n_eq, n_m1, n_m2, n_m9, n_12, n_19, n_10, n_01, n_1n1, n_0n1, n_1n0, n_0n0, n_dI, n_m1lt, q_inb, n_nar, n_nar0, n_nar1, n_bool, Bool.false_eq_true, Bool.true_eq_false, if_true, if_false, ↓reduceIte, Nat.reduceAdd, Nat.reduceMul, Nat.reduceSub, Nat.reduceLT, Nat.reduceLeDiff, Nat.reduceEqDiff, Nat.reduceMod, Nat.reduceDiv, q_D h1.1, h8, c, h9, n_nr]
theorem c_tk (h : c_T B n L xs M0 s M) {w : Nat} (hw : w < 1000) (hd : 9 ≤ d) : ∃ M', m_X4_take d 100 (nI w) M = ir_oI (if k_kd B n s = w then nI 1 else nI 0) M' ∧ (k_kd B n s = w → c_T B n L xs M0 (k_nt B n s) M' ∧ q_eq [100] M M') ∧ (k_kd B n s ≠ w → c_F B n L xs M0 (k_fk (k_kd B n s) 2) s M') := by
  obtain ⟨e, rfl⟩ : ∃ e, d = e + 1 := ⟨d - 1, by omega⟩
  obtain ⟨b1, b2, b3, b4, b5, b6, b7, b8⟩ := k_nt_b (B := B) h.2.2.2.1
  have h8 := h.2.2.2.2.2.2.2.1
  by_cases c : k_kd B n s = w
  · obtain ⟨M', e1, t1, q1⟩ := c_next (d := e) h (by omega)
    rw [if_pos c]
    refine ⟨M', ?_, fun _ => ⟨t1, q1⟩, fun z => absurd c z⟩
    rw [E_X4_take]
    simp (disch := omega) only [q_ckt, q_lt, q_cI, q_cJ, q_cV, q_cP, q_xI, q_xV, q_xP, q_xJ, g_gk, g_ga, g_gw, g_gp, g_gq, g_P, g_J, q_I_s, q_I_n, q_I_k, nI_add, pk_sub, pk_mul, nI_clamp, n_lt0, n_0lt, n_eq0, n_lt, n_le, n_eq, n_m1, n_m2, n_m9, n_12, n_19, n_10, n_01, n_1n1, n_0n1, n_1n0, n_0n0, n_dI, n_m1lt, q_inb, n_nar, n_nar0, n_nar1, n_bool, Bool.false_eq_true, Bool.true_eq_false, if_true, if_false, ↓reduceIte, Nat.reduceAdd, Nat.reduceMul, Nat.reduceSub, Nat.reduceLT, Nat.reduceLeDiff, Nat.reduceEqDiff, Nat.reduceMod, Nat.reduceDiv, q_D h.1.1, h8, c, e1, n_nr]
  · obtain ⟨M', e1, t1⟩ := c_ref (d := e) h (w := 2) (by decide) (by omega)
    rw [if_neg c]
    refine ⟨M', ?_, fun z => absurd z c, fun _ => t1⟩
    rw [E_X4_take]
    simp (disch := omega) only [q_ckt, q_lt, q_cI, q_cJ, q_cV, q_cP, q_xI, q_xV, q_xP, q_xJ, g_gk, g_ga, g_gw, g_gp, g_gq, g_P, g_J, q_I_s, q_I_n, q_I_k, nI_add, pk_sub, pk_mul, nI_clamp, n_lt0, n_0lt, n_eq0, n_lt, n_le, n_eq, n_m1, n_m2, n_m9, n_12, n_19, n_10, n_01, n_1n1, n_0n1, n_1n0, n_0n0, n_dI, n_m1lt, q_inb, n_nar, n_nar0, n_nar1, n_bool, Bool.false_eq_true, Bool.true_eq_false, if_true, if_false, ↓reduceIte, Nat.reduceAdd, Nat.reduceMul, Nat.reduceSub, Nat.reduceLT, Nat.reduceLeDiff, Nat.reduceEqDiff, Nat.reduceMod, Nat.reduceDiv, q_D h.1.1, h8, c, e1, n_nr]
theorem c_num (h : c_T B n L xs M0 s M) {a : Nat} {hi : Int32} (ha : a < 1000) (hd : 2 ≤ d) : ∃ M', m_X4_takeNumber d 100 (nI a) hi M = ir_oI (if k_nf (k_kd B n s) (k_vl B n s) a hi.toInt = 0 then nI 1 else nI 0) M' ∧ (k_nf (k_kd B n s) (k_vl B n s) a hi.toInt = 0 → M' = M) ∧ (k_nf (k_kd B n s) (k_vl B n s) a hi.toInt ≠ 0 → c_F B n L xs M0 (k_nf (k_kd B n s) (k_vl B n s) a hi.toInt) s M') := by
  obtain ⟨e, rfl⟩ : ∃ e, d = e + 1 := ⟨d - 1, by omega⟩
  obtain ⟨b1, b2, b3, b4, b5, b6, b7, b8⟩ := k_nt_b (B := B) h.2.2.2.1
  have h8 := h.2.2.2.2.2.2.2.1
  by_cases c : k_kd B n s = 2
  · have h10 := h.2.2.2.2.2.2.2.2.2 c
    have v1000 := b6 c
    have lt : hi < nI (k_vl B n s) ↔ hi.toInt < (k_vl B n s : Int) := by rw [Int32.lt_iff_toInt_lt, nI_toInt (by omega)]
    by_cases q : a ≤ k_vl B n s ∧ (k_vl B n s : Int) ≤ hi.toInt
    · have ek : k_nf (k_kd B n s) (k_vl B n s) a hi.toInt = 0 := by unfold k_nf; rw [if_pos c, if_pos q]
      rw [ek, if_pos rfl]
      refine ⟨M, ?_, fun _ => rfl, fun z => absurd rfl z⟩
      rw [E_X4_takeNumber]
      simp (disch := omega) only [q_ckt, q_lt, q_cI, q_cJ, q_cV, q_cP, q_xI, q_xV, q_xP, q_xJ, g_gk, g_ga, g_gw, g_gp, g_gq, g_P, g_J, q_I_s, q_I_n, q_I_k, nI_add, pk_sub, pk_mul, nI_clamp, n_lt0, n_0lt, n_eq0, n_lt, n_le, n_eq, n_m1, n_m2, n_m9, n_12, n_19, n_10, n_01, n_1n1, n_0n1, n_1n0, n_0n0, n_dI, n_m1lt, q_inb, n_nar, n_nar0, n_nar1, n_bool, Bool.false_eq_true, Bool.true_eq_false, if_true, if_false, ↓reduceIte, Nat.reduceAdd, Nat.reduceMul, Nat.reduceSub, Nat.reduceLT, Nat.reduceLeDiff, Nat.reduceEqDiff, Nat.reduceMod, Nat.reduceDiv, q_D h.1.1, h8, c, h10, show ¬ k_vl B n s < a by omega]
      rw [if_neg (fun z => by have := lt.mp z; omega)]
    · have ek : k_nf (k_kd B n s) (k_vl B n s) a hi.toInt = k_fk (k_kd B n s) 3 := by unfold k_nf k_fk; rw [if_pos c, if_neg q, if_neg (by omega)]
      obtain ⟨M', e1, t1⟩ := c_ref (d := e) h (w := 3) (by decide) (by omega)
      have kb := k_fk_b (kd := k_kd B n s) (w := 3) (by omega)
      rw [ek, if_neg kb.1]
      refine ⟨M', ?_, fun z => absurd z kb.1, fun _ => t1⟩
      rw [E_X4_takeNumber]
      by_cases q2 : k_vl B n s < a
      · simp (disch := omega) only [q_ckt, q_lt, q_cI, q_cJ, q_cV, q_cP, q_xI, q_xV, q_xP, q_xJ, g_gk, g_ga, g_gw, g_gp, g_gq, g_P, g_J, q_I_s, q_I_n, q_I_k, nI_add, pk_sub, pk_mul, nI_clamp, n_lt0, n_0lt, n_eq0, n_lt, n_le, n_eq, n_m1, n_m2, n_m9, n_12, n_19, n_10, n_01, n_1n1, n_0n1, n_1n0, n_0n0, n_dI, n_m1lt, q_inb, n_nar, n_nar0, n_nar1, n_bool, Bool.false_eq_true, Bool.true_eq_false, if_true, if_false, ↓reduceIte, Nat.reduceAdd, Nat.reduceMul, Nat.reduceSub, Nat.reduceLT, Nat.reduceLeDiff, Nat.reduceEqDiff, Nat.reduceMod, Nat.reduceDiv, q_D h.1.1, h8, c, h10, q2, e1, n_nr]
      · simp (disch := omega) only [q_ckt, q_lt, q_cI, q_cJ, q_cV, q_cP, q_xI, q_xV, q_xP, q_xJ, g_gk, g_ga, g_gw, g_gp, g_gq, g_P, g_J, q_I_s, q_I_n, q_I_k, nI_add, pk_sub, pk_mul, nI_clamp, n_lt0, n_0lt, n_eq0, n_lt, n_le, n_eq, n_m1, n_m2, n_m9, n_12, n_19, n_10, n_01, n_1n1, n_0n1, n_1n0, n_0n0, n_dI, n_m1lt, q_inb, n_nar, n_nar0, n_nar1, n_bool, Bool.false_eq_true, Bool.true_eq_false, if_true, if_false, ↓reduceIte, Nat.reduceAdd, Nat.reduceMul, Nat.reduceSub, Nat.reduceLT, Nat.reduceLeDiff, Nat.reduceEqDiff, Nat.reduceMod, Nat.reduceDiv, q_D h.1.1, h8, c, h10, q2]
        rw [if_pos (lt.mpr (by omega)), e1]
        simp (disch := omega) only [q_ckt, q_lt, q_cI, q_cJ, q_cV, q_cP, q_xI, q_xV, q_xP, q_xJ, g_gk, g_ga, g_gw, g_gp, g_gq, g_P, g_J, q_I_s, q_I_n, q_I_k, nI_add, pk_sub, pk_mul, nI_clamp, n_lt0, n_0lt, n_eq0, n_lt, n_le, n_eq, n_m1, n_m2, n_m9, n_12, n_19, n_10, n_01, n_1n1, n_0n1, n_1n0, n_0n0, n_dI, n_m1lt, q_inb, n_nar, n_nar0, n_nar1, n_bool, Bool.false_eq_true, Bool.true_eq_false, if_true, if_false, ↓reduceIte, Nat.reduceAdd, Nat.reduceMul, Nat.reduceSub, Nat.reduceLT, Nat.reduceLeDiff, Nat.reduceEqDiff, Nat.reduceMod, Nat.reduceDiv, n_nr]
  · have ek : k_nf (k_kd B n s) (k_vl B n s) a hi.toInt = k_fk (k_kd B n s) 2 := by unfold k_nf; rw [if_neg c]
    obtain ⟨M', e1, t1⟩ := c_ref (d := e) h (w := 2) (by decide) (by omega)
    have kb := k_fk_b (kd := k_kd B n s) (w := 2) (by omega)
    rw [ek, if_neg kb.1]
    refine ⟨M', ?_, fun z => absurd z kb.1, fun _ => t1⟩
    rw [E_X4_takeNumber]
    simp (disch := omega) only [q_ckt, q_lt, q_cI, q_cJ, q_cV, q_cP, q_xI, q_xV, q_xP, q_xJ, g_gk, g_ga, g_gw, g_gp, g_gq, g_P, g_J, q_I_s, q_I_n, q_I_k, nI_add, pk_sub, pk_mul, nI_clamp, n_lt0, n_0lt, n_eq0, n_lt, n_le, n_eq, n_m1, n_m2, n_m9, n_12, n_19, n_10, n_01, n_1n1, n_0n1, n_1n0, n_0n0, n_dI, n_m1lt, q_inb, n_nar, n_nar0, n_nar1, n_bool, Bool.false_eq_true, Bool.true_eq_false, if_true, if_false, ↓reduceIte, Nat.reduceAdd, Nat.reduceMul, Nat.reduceSub, Nat.reduceLT, Nat.reduceLeDiff, Nat.reduceEqDiff, Nat.reduceMod, Nat.reduceDiv, q_D h.1.1, h8, c, e1, n_nr]
theorem q_N (h : q_PI M) : ir_gk M 101 9 = true ∧ ir_gq M 101 9 = true ∧ (∀ i, ir_ga M 102 100 i = ir_inb i 8) ∧ (∀ i, ir_gw M 102 100 i = ir_inb i 8) ∧ (∀ i, ir_ga M 103 100 i = ir_inb i 8) ∧ (∀ i, ir_gw M 103 100 i = ir_inb i 8) ∧ ir_gk M 104 1 = true ∧ ir_gq M 104 1 = true ∧ (∀ i, ir_ga M 105 100 i = ir_inb i 900) ∧ (∀ i, ir_gw M 105 100 i = ir_inb i 900) ∧ (∀ i, ir_ga M 107 100 i = ir_inb i 48) ∧ (∀ i, ir_gw M 107 100 i = ir_inb i 48) ∧ (∀ i, ir_ga M 108 100 i = ir_inb i 64) ∧ (∀ i, ir_gw M 108 100 i = ir_inb i 64) ∧ ir_gk M 109 8 = true ∧ ir_gq M 109 8 = true ∧ (∀ i, ir_ga M 110 100 i = ir_inb i 8) ∧ (∀ i, ir_gw M 110 100 i = ir_inb i 8) ∧ (∀ i, ir_ga M 111 100 i = ir_inb i 8) ∧ (∀ i, ir_gw M 111 100 i = ir_inb i 8) ∧ (∀ i, ir_ga M 112 100 i = ir_inb i 8) ∧ (∀ i, ir_gw M 112 100 i = ir_inb i 8) ∧ ir_P M 101 7 = 102 ∧ ir_gp M 101 9 7 = true ∧ ir_P M 101 8 = 103 ∧ ir_gp M 101 9 8 = true ∧ ir_P M 101 9 = 104 ∧ ir_gp M 101 9 9 = true ∧ ir_P M 101 10 = 107 ∧ ir_gp M 101 9 10 = true ∧ ir_P M 101 11 = 108 ∧ ir_gp M 101 9 11 = true ∧ ir_P M 104 1 = 105 ∧ ir_gp M 104 1 1 = true ∧ ir_P M 109 4 = 110 ∧ ir_gp M 109 8 4 = true ∧ ir_P M 109 5 = 111 ∧ ir_gp M 109 8 5 = true ∧ ir_P M 109 6 = 112 ∧ ir_gp M 109 8 6 = true := ⟨q_k101 h, q_q101 h, q_a102 h, q_w102 h, q_a103 h, q_w103 h, q_k104 h, q_q104 h, q_a105 h, q_w105 h, q_a107 h, q_w107 h, q_a108 h, q_w108 h, q_k109 h, q_q109 h, q_a110 h, q_w110 h, q_a111 h, q_w111 h, q_a112 h, q_w112 h, q_p101_7 h, q_g101_7 h, q_p101_8 h, q_g101_8 h, q_p101_9 h, q_g101_9 h, q_p101_10 h, q_g101_10 h, q_p101_11 h, q_g101_11 h, q_p104_1 h, q_g104_1 h, q_p109_4 h, q_g109_4 h, q_p109_5 h, q_g109_5 h, q_p109_6 h, q_g109_6 h⟩
theorem c_add {c : Nat} {v : Int32} (h : q_PI M) (hc : c ≤ 900) (h4 : ir_I M 104 0 = nI c) (hd : 1 ≤ d) : ∃ M', m_X1_add d 104 v M = ir_oV M' ∧ q_eq [104, 105] M M' ∧ c_cn M' ∧ (c < 900 → ir_I M' 104 0 = nI (c + 1) ∧ ir_I M' 105 c = v ∧ ∀ k, k ≠ c → ir_I M' 105 k = ir_I M 105 k) := by
  obtain ⟨e, rfl⟩ : ∃ e, d = e + 1 := ⟨d - 1, by omega⟩
  by_cases q : c < 900
  · have q0 : q_eq [105] M (ir_sI M 105 c v) := q_eq.sI (by decide)
    have q1 : q_eq [104] (ir_sI M 105 c v) (ir_sI (ir_sI M 105 c v) 104 0 (nI (c + 1))) := q_eq.sI (by decide)
    refine ⟨ir_sI (ir_sI M 105 c v) 104 0 (nI (c + 1)), ?_, (q0.sub (by decide)).tr (q1.sub (by decide)), ⟨c + 1, by omega, q_I_s⟩, fun _ => ⟨q_I_s, ?_, fun k hk => ?_⟩⟩
    · rw [E_X1_add]
      simp (disch := omega) only [q_ckt, q_lt, q_cI, q_cJ, q_cV, q_cP, q_xI, q_xV, q_xP, q_xJ, g_gk, g_ga, g_gw, g_gp, g_gq, g_P, g_J, q_I_s, q_I_n, q_I_k, nI_add, pk_sub, pk_mul, nI_clamp, n_lt0, n_0lt, n_eq0, n_lt, n_le, n_eq, n_m1, n_m2, n_m9, n_12, n_19, n_10, n_01, n_1n1, n_0n1, n_1n0, n_0n0, n_dI, n_m1lt, q_inb, n_nar, n_nar0, n_nar1, n_bool, Bool.false_eq_true, Bool.true_eq_false, if_true, if_false, ↓reduceIte, Nat.reduceAdd, Nat.reduceMul, Nat.reduceSub, Nat.reduceLT, Nat.reduceLeDiff, Nat.reduceEqDiff, Nat.reduceMod, Nat.reduceDiv, q_N h, h4, q]
    · rw [q_I_eq q1 (by decide), q_I_s]
    · rw [q_I_eq q1 (by decide), q_I_k hk]
  · refine ⟨M, ?_, q_eq.rf _ _, ⟨c, hc, h4⟩, fun z => absurd z q⟩
    rw [E_X1_add]
    simp (disch := omega) only [q_ckt, q_lt, q_cI, q_cJ, q_cV, q_cP, q_xI, q_xV, q_xP, q_xJ, g_gk, g_ga, g_gw, g_gp, g_gq, g_P, g_J, q_I_s, q_I_n, q_I_k, nI_add, pk_sub, pk_mul, nI_clamp, n_lt0, n_0lt, n_eq0, n_lt, n_le, n_eq, n_m1, n_m2, n_m9, n_12, n_19, n_10, n_01, n_1n1, n_0n1, n_1n0, n_0n0, n_dI, n_m1lt, q_inb, n_nar, n_nar0, n_nar1, n_bool, Bool.false_eq_true, Bool.true_eq_false, if_true, if_false, ↓reduceIte, Nat.reduceAdd, Nat.reduceMul, Nat.reduceSub, Nat.reduceLT, Nat.reduceLeDiff, Nat.reduceEqDiff, Nat.reduceMod, Nat.reduceDiv, q_N h, h4, q]
end CB
