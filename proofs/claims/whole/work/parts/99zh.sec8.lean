/-! secrets, sure in step -/
def k_mk2 (P : Nat → Bool) : Nat → Nat
  | 0 => 0
  | n + 1 => k_mk2 P n ||| (if P n = true then 2 ^ n else 0)
theorem k_mk2_bit {P : Nat → Bool} {i : Nat} : ∀ n, (k_mk2 P n).testBit i = (decide (i < n) && P i)
  | 0 => by
    show (0 : Nat).testBit i = _
    rw [Nat.zero_testBit, decide_eq_false (by omega)]
    rfl
  | n + 1 => by
    unfold k_mk2
    rw [Nat.testBit_or, k_mk2_bit n]
    by_cases q : n = i
    · subst q
      rw [decide_eq_false (by omega), Bool.false_and, Bool.false_or, decide_eq_true (by omega), Bool.true_and]
      by_cases q2 : P n = true
      · rw [if_pos q2, n_p2b, decide_eq_true rfl, q2]
      · rw [if_neg q2, Nat.zero_testBit, Bool.eq_false_iff.mpr q2]
    · have z : (if P n = true then 2 ^ n else 0).testBit i = false := by
        split
        · rw [n_p2b, decide_eq_false q]
        · exact Nat.zero_testBit _
      rw [z, Bool.or_false]
      by_cases q3 : i < n
      · rw [decide_eq_true q3, decide_eq_true (by omega)]
      · rw [decide_eq_false q3, decide_eq_false (by omega)]
theorem k_oa_cg {P Q : Nat → Bool} : ∀ n, (∀ i, i < n → P i = Q i) → k_oa P n = k_oa Q n
  | 0, _ => rfl
  | n + 1, h => by
    unfold k_oa
    rw [k_oa_cg n (fun i hi => h i (by omega)), h n (by omega)]
section SX1
variable {K N : Nat → Int32}
theorem k_op_b (hk : k_ok K) {i c : Nat} (h : (k_op K i).testBit c = true) : 1 ≤ c ∧ c < k_g K + 2 := by
  unfold k_op at h
  by_cases q : k_co K i (k_g K) = 0
  · rw [if_pos q] at h
    have e : (2 : Nat) = 2 ^ 1 := rfl
    rw [e, n_p2b] at h
    have := of_decide_eq_true h
    omega
  · rw [if_neg q, k_co_bit, Bool.and_eq_true] at h
    have := of_decide_eq_true h.1
    omega
theorem k_W2_p {p x : Nat} (hp : p < k_m K) : 0 < k_W2 K N (k_op K) p x ↔ ∃ a, a ∈ k_prd (k_os2 (k_op K) 0 (k_m K)) ∧ k_ok2 K N a = true ∧ a.getD p 0 = x := by
  unfold k_W2
  rw [k_cnt_pos]
  have mem : ∀ a, a ∈ k_prd (k_os2 (k_o2 (k_op K) p x) 0 (k_m K)) ↔ a ∈ k_prd (k_os2 (k_op K) 0 (k_m K)) ∧ a.getD p 0 = x := fun a => by
    rw [k_prd_mem, k_prd_mem, k_os2_len, k_os2_len]
    constructor
    · rintro ⟨h1, h2⟩
      have hpx : a.getD p 0 = x ∧ (k_op K p).testBit (a.getD p 0) = true := by
        have := (h2 p hp).2
        rw [k_os2_g _ _ _ hp, Nat.zero_add] at this
        unfold k_o2 at this
        rw [if_pos rfl, Nat.testBit_and, n_p2b, Bool.and_eq_true] at this
        exact ⟨(of_decide_eq_true this.2).symm, this.1⟩
      refine ⟨⟨h1, fun i hi => ⟨(h2 i hi).1, ?_⟩⟩, hpx.1⟩
      rw [k_os2_g _ _ _ hi, Nat.zero_add]
      by_cases q : i = p
      · rw [q]; exact hpx.2
      · have := (h2 i hi).2
        rw [k_os2_g _ _ _ hi, Nat.zero_add] at this
        unfold k_o2 at this
        rw [if_neg q] at this
        exact this
    · rintro ⟨⟨h1, h2⟩, h3⟩
      refine ⟨h1, fun i hi => ⟨(h2 i hi).1, ?_⟩⟩
      have := (h2 i hi).2
      rw [k_os2_g _ _ _ hi, Nat.zero_add] at this ⊢
      unfold k_o2
      by_cases q : i = p
      · rw [q] at this
        rw [if_pos q, Nat.testBit_and, n_p2b, q, this, h3, decide_eq_true rfl]
        rfl
      · rw [if_neg q]; exact this
  constructor
  · rintro ⟨a, h1, h2⟩
    obtain ⟨h3, h4⟩ := (mem a).mp h1
    exact ⟨a, h3, h2, h4⟩
  · rintro ⟨a, h1, h2, h3⟩
    exact ⟨a, (mem a).mpr ⟨h1, h3⟩, h2⟩
/-- both say the same -/
theorem k_sure_e (hk : k_ok K) {p S : Nat} (hp : p < k_m K) (hS : S < 128) (hb : ∀ c, c < 7 → (S.testBit c = true ↔ ∃ b, b ∈ k_prd (k_os2 (k_op K) 0 (k_m K)) ∧ k_ok2 K N b = true ∧ k_b2 (b.getD p 0) = c)) : (if (k_oa (fun x => decide (0 < k_W2 K N (k_op K) p x)) 8).2 = 1 then (k_oa (fun x => decide (0 < k_W2 K N (k_op K) p x)) 8).1 else -1) = k_sf S (k_g K) := by
  have hbd := k_bds hk
  obtain ⟨P, eP⟩ : ∃ P : Nat → Bool, P = fun x => decide (0 < k_W2 K N (k_op K) p x) := ⟨_, rfl⟩
  have Pi : ∀ x, P x = true ↔ ∃ a, a ∈ k_prd (k_os2 (k_op K) 0 (k_m K)) ∧ k_ok2 K N a = true ∧ a.getD p 0 = x := fun x => by
    rw [eP]
    show decide (0 < k_W2 K N (k_op K) p x) = true ↔ _
    rw [decide_eq_true_iff, k_W2_p hp]
  have Pb : ∀ x, P x = true → 1 ≤ x ∧ x < k_g K + 2 := fun x hx => by
    obtain ⟨a, h1, -, h3⟩ := (Pi x).mp hx
    have := ((k_prd_mem.mp h1).2 p (by rw [k_os2_len]; exact hp)).2
    rw [k_os2_g _ _ _ hp, Nat.zero_add, h3] at this
    exact k_op_b hk this
  rw [← eP]
  obtain ⟨b, eb⟩ : ∃ b, b = k_mk2 P 8 := ⟨_, rfl⟩
  have bb : ∀ x, b.testBit x = (decide (x < 8) && P x) := fun x => by rw [eb]; exact k_mk2_bit 8
  have b256 : b < 256 := k_lt256 fun i hi => by rw [bb, decide_eq_false (by omega)]; rfl
  have oa : k_oa P 8 = k_oa (fun v => b.testBit v) 8 := k_oa_cg 8 fun i hi => by
    show P i = b.testBit i
    rw [bb, decide_eq_true hi, Bool.true_and]
  have fx : ∀ x, (¬ (1 ≤ x ∧ x < k_g K + 2)) → P x = false := fun x hx => by
    cases e : P x
    · rfl
    · exact absurd (Pb x e) hx
  have z := n_sure b b256 (by rw [bb, fx 0 (by omega), Bool.and_false]) (k_g K) (by omega) (fun v hv hg => by rw [bb, fx v (by omega), Bool.and_false])
  have eS : b / 4 ||| (if b.testBit 1 = true then 64 else 0) = S := ?_
  · rw [oa, ← eS]
    exact z
  refine k_bit_eq fun c => ?_
  rw [Nat.testBit_or, show (4 : Nat) = 2 ^ 2 from rfl, Nat.testBit_div_two_pow]
  have b64 : (if b.testBit 1 = true then 64 else 0).testBit c = (b.testBit 1 && decide (6 = c)) := by
    by_cases q : b.testBit 1 = true
    · rw [if_pos q, q, show (64 : Nat) = 2 ^ 6 from rfl, n_p2b, Bool.true_and]
    · rw [if_neg q, Nat.zero_testBit, Bool.eq_false_iff.mpr q, Bool.false_and]
  rw [b64]
  by_cases c7 : c < 7
  · have codes : ∀ a, a ∈ k_prd (k_os2 (k_op K) 0 (k_m K)) → 1 ≤ a.getD p 0 ∧ a.getD p 0 < 8 := fun a ha => by
      have := (k_prd_mem.mp ha).2 p (by rw [k_os2_len]; exact hp)
      rw [k_os2_g _ _ _ hp, Nat.zero_add] at this
      exact ⟨(k_op_b hk this.2).1, this.1⟩
    have i1 : S.testBit c = true ↔ (b.testBit (c + 2) || (b.testBit 1 && decide (6 = c))) = true := by
      rw [hb c c7, Bool.or_eq_true, Bool.and_eq_true, bb, bb, Bool.and_eq_true, Bool.and_eq_true, decide_eq_true_iff, decide_eq_true_iff, decide_eq_true_iff, Pi, Pi]
      constructor
      · rintro ⟨a, h1, h2, h3⟩
        obtain ⟨g1, g2⟩ := codes a h1
        unfold k_b2 at h3
        by_cases q : a.getD p 0 = 1
        · rw [if_pos q] at h3
          exact Or.inr ⟨⟨by decide, a, h1, h2, q⟩, h3⟩
        · rw [if_neg q] at h3
          exact Or.inl ⟨by omega, a, h1, h2, by omega⟩
      · rintro (⟨h0, a, h1, h2, h3⟩ | ⟨⟨-, a, h1, h2, h3⟩, h4⟩)
        · refine ⟨a, h1, h2, ?_⟩
          unfold k_b2
          rw [if_neg (by omega)]
          omega
        · refine ⟨a, h1, h2, ?_⟩
          unfold k_b2
          rw [if_pos h3]
          exact h4
    exact Bool.eq_iff_iff.mpr i1.symm
  · have s0 : S.testBit c = false := Nat.testBit_lt_two_pow (Nat.lt_of_lt_of_le (show S < 2 ^ 7 from hS) (Nat.pow_le_pow_right (n := 2) (by decide) (show 7 ≤ c by omega)))
    rw [s0, decide_eq_false (show ¬ 6 = c by omega), Bool.and_false, Bool.or_false]
    first
      | (rw [bb, decide_eq_false (by omega)]; rfl)
      | (rw [bb, decide_eq_false (show ¬ 2 + c < 8 by omega)]; rfl)
theorem r_s46 {M : ir_M} {d p S : Nat} (h : r_rl M K) (hp : p < 8) (hs : ir_I M 432 p = nI S) (hS : S < 128) : ∀ (r x : Nat), x + r = k_g K → v_X12_sure_46 (d + 1) 412 (nI p) (nI x) M = ir_oI (k_on (k_f1 (fun x => decide (S = 2 ^ x)) r x)) M
  | 0, x, hx => by
    have hb := k_bds h.2.1
    rw [L_X12_sure_46]
    simp (disch := omega) only [q_ckt, q_lt, q_cI, q_cJ, q_cV, q_cP, q_xI, q_xV, q_xP, q_xJ, g_gk, g_ga, g_gw, g_gp, g_gq, g_P, g_J, q_I_s, q_I_n, q_I_k, nI_add, pk_sub, pk_mul, nI_clamp, n_lt0, n_0lt, n_eq0, n_lt, n_le, n_eq, n_m1, n_m2, n_m9, n_12, n_19, n_10, n_01, n_1n1, n_0n1, n_1n0, n_0n0, n_dI, n_m1lt, q_inb, n_nar, n_nar0, n_nar1, n_bool, Bool.false_eq_true, Bool.true_eq_false, if_true, if_false, ↓reduceIte, Nat.reduceAdd, Nat.reduceMul, Nat.reduceSub, Nat.reduceLT, Nat.reduceLeDiff, Nat.reduceEqDiff, Nat.reduceMod, Nat.reduceDiv, q_R h.1, r_go h, show ¬ x < k_g K by omega, k_f1, k_on]
  | r + 1, x, hx => by
    have hb := k_bds h.2.1
    have ih := r_s46 (d := d) h hp hs hS r (x + 1) (by omega)
    have p2 : 2 ^ x < 2 ^ 31 := Nat.pow_lt_pow_right (by decide) (by omega)
    rw [L_X12_sure_46]
    unfold k_f1
    by_cases q : S = 2 ^ x
    · rw [decide_eq_true q]
      have e : (nI S = nI (2 ^ x)) = True := by rw [q]; exact eq_true rfl
      simp (disch := omega) only [q_ckt, q_lt, q_cI, q_cJ, q_cV, q_cP, q_xI, q_xV, q_xP, q_xJ, g_gk, g_ga, g_gw, g_gp, g_gq, g_P, g_J, q_I_s, q_I_n, q_I_k, nI_add, pk_sub, pk_mul, nI_clamp, n_lt0, n_0lt, n_eq0, n_lt, n_le, n_eq, n_m1, n_m2, n_m9, n_12, n_19, n_10, n_01, n_1n1, n_0n1, n_1n0, n_0n0, n_dI, n_m1lt, q_inb, n_nar, n_nar0, n_nar1, n_bool, Bool.false_eq_true, Bool.true_eq_false, if_true, if_false, ↓reduceIte, Nat.reduceAdd, Nat.reduceMul, Nat.reduceSub, Nat.reduceLT, Nat.reduceLeDiff, Nat.reduceEqDiff, Nat.reduceMod, Nat.reduceDiv, q_R h.1, r_go h, show x < k_g K by omega, hs, n_bit]
      rw [if_pos q]
      rfl
    · rw [decide_eq_false q]
      simp (disch := omega) only [q_ckt, q_lt, q_cI, q_cJ, q_cV, q_cP, q_xI, q_xV, q_xP, q_xJ, g_gk, g_ga, g_gw, g_gp, g_gq, g_P, g_J, q_I_s, q_I_n, q_I_k, nI_add, pk_sub, pk_mul, nI_clamp, n_lt0, n_0lt, n_eq0, n_lt, n_le, n_eq, n_m1, n_m2, n_m9, n_12, n_19, n_10, n_01, n_1n1, n_0n1, n_1n0, n_0n0, n_dI, n_m1lt, q_inb, n_nar, n_nar0, n_nar1, n_bool, Bool.false_eq_true, Bool.true_eq_false, if_true, if_false, ↓reduceIte, Nat.reduceAdd, Nat.reduceMul, Nat.reduceSub, Nat.reduceLT, Nat.reduceLeDiff, Nat.reduceEqDiff, Nat.reduceMod, Nat.reduceDiv, q_R h.1, r_go h, show x < k_g K by omega, hs, n_bit]
      rw [if_neg q]
      exact ih
end SX1
theorem r_scf0 {M : ir_M} {d : Nat} (hp : q_PI M) {x : Int32} (hx : ¬ k_rng x 4 = true) : m_X12_secretFault (d + 4) 412 x M = ir_oI (nI 1) M := by
  rw [E_X12_secretFault]
  simp (disch := omega) only [q_ckt, q_lt, q_cI, q_cJ, q_cV, q_cP, q_xI, q_xV, q_xP, q_xJ, g_gk, g_ga, g_gw, g_gp, g_gq, g_P, g_J, q_I_s, q_I_n, q_I_k, nI_add, pk_sub, pk_mul, nI_clamp, n_lt0, n_0lt, n_eq0, n_lt, n_le, n_eq, n_m1, n_m2, n_m9, n_12, n_19, n_10, n_01, n_1n1, n_0n1, n_1n0, n_0n0, n_dI, n_m1lt, q_inb, n_nar, n_nar0, n_nar1, n_bool, Bool.false_eq_true, Bool.true_eq_false, if_true, if_false, ↓reduceIte, Nat.reduceAdd, Nat.reduceMul, Nat.reduceSub, Nat.reduceLT, Nat.reduceLeDiff, Nat.reduceEqDiff, Nat.reduceMod, Nat.reduceDiv, q_R hp, r_tf0 hp hx]
theorem r_scf1 {M : ir_M} {d i : Nat} (hp : q_PI M) (hi : i < 4) (h : ir_I M 433 i = -1) : m_X12_secretFault (d + 4) 412 (nI i) M = ir_oI (nI 2) M := by
  rw [E_X12_secretFault]
  simp (disch := omega) only [q_ckt, q_lt, q_cI, q_cJ, q_cV, q_cP, q_xI, q_xV, q_xP, q_xJ, g_gk, g_ga, g_gw, g_gp, g_gq, g_P, g_J, q_I_s, q_I_n, q_I_k, nI_add, pk_sub, pk_mul, nI_clamp, n_lt0, n_0lt, n_eq0, n_lt, n_le, n_eq, n_m1, n_m2, n_m9, n_12, n_19, n_10, n_01, n_1n1, n_0n1, n_1n0, n_0n0, n_dI, n_m1lt, q_inb, n_nar, n_nar0, n_nar1, n_bool, Bool.false_eq_true, Bool.true_eq_false, if_true, if_false, ↓reduceIte, Nat.reduceAdd, Nat.reduceMul, Nat.reduceSub, Nat.reduceLT, Nat.reduceLeDiff, Nat.reduceEqDiff, Nat.reduceMod, Nat.reduceDiv, q_R hp, r_tf1 hp hi h]
theorem k_ft2_u {K : Nat → Int32} {T : Nat → Int64} {mn : Nat} (hk : k_ok K) (h : k_ft2 K T mn = true) : mn = k_m K ∧ ∀ i, i < k_m K → T i = ((T i).toInt32).toInt64 := by
  unfold k_ft2 at h
  rw [Bool.and_eq_true] at h
  have e := of_decide_eq_true h.1
  refine ⟨e, fun i hi => k_tb_T hk ?_⟩
  have := (k_f1_n mn 0).mp h.2 i (by omega) (by omega)
  simpa using this
section SX2
variable {L : Nat} {xs : Nat → Int32}
theorem S_secrets (a : Int32) : q_Sj L xs (q_Iv L xs) (m_L_secrets 200 1 a 436) (m_X12_secrets 200 412 a) := by
  intro j M hI
  have hp := hI.1
  have hst := q_st_th hp
  have hpt : q_PI (ir_th M) := hst.1.1
  have hty := hI.2.2.2.2.2.1.2.1
  have hc := c_I_c hp hI.2.2.2.2.1
  have hr := c_I_r hp hI.2.2.2.2.1
  generalize hK : M.1 413 = K at hc hr
  have hk := hc.2.2.1
  have hb := k_bds hk
  by_cases ha : k_rng a 4
  rotate_left
  · refine q_Sj_t (k := 1) (M2 := ir_sI (ir_th M) 412 4 (nI 1)) (b := 0) hI ?_ (by omega) ?_ (q_st_4 hpt rfl) q_I_s
    · rw [E_L_secrets 199, E_X11_secrets 198]
      simp (disch := omega) only [q_ckt, q_lt, q_cI, q_cJ, q_cV, q_cP, q_xI, q_xV, q_xP, q_xJ, g_gk, g_ga, g_gw, g_gp, g_gq, g_P, g_J, q_I_s, q_I_n, q_I_k, nI_add, pk_sub, pk_mul, nI_clamp, n_lt0, n_0lt, n_eq0, n_lt, n_le, n_eq, n_m1, n_m2, n_m9, n_12, n_19, n_10, n_01, n_1n1, n_0n1, n_1n0, n_0n0, n_dI, n_m1lt, q_inb, n_nar, n_nar0, n_nar1, n_bool, Bool.false_eq_true, Bool.true_eq_false, if_true, if_false, ↓reduceIte, Nat.reduceAdd, Nat.reduceMul, Nat.reduceSub, Nat.reduceLT, Nat.reduceLeDiff, Nat.reduceEqDiff, Nat.reduceMod, Nat.reduceDiv, q_W hp, c_nt0 hp ha, q_bJ2]
    · rw [E_X12_secrets 199]
      simp (disch := omega) only [q_ckt, q_lt, q_cI, q_cJ, q_cV, q_cP, q_xI, q_xV, q_xP, q_xJ, g_gk, g_ga, g_gw, g_gp, g_gq, g_P, g_J, q_I_s, q_I_n, q_I_k, nI_add, pk_sub, pk_mul, nI_clamp, n_lt0, n_0lt, n_eq0, n_lt, n_le, n_eq, n_m1, n_m2, n_m9, n_12, n_19, n_10, n_01, n_1n1, n_0n1, n_1n0, n_0n0, n_dI, n_m1lt, q_inb, n_nar, n_nar0, n_nar1, n_bool, Bool.false_eq_true, Bool.true_eq_false, if_true, if_false, ↓reduceIte, Nat.reduceAdd, Nat.reduceMul, Nat.reduceSub, Nat.reduceLT, Nat.reduceLeDiff, Nat.reduceEqDiff, Nat.reduceMod, Nat.reduceDiv, q_R hpt, r_scf0 hpt ha]
  obtain ⟨i, hi, rfl⟩ := k_rng_of ha (by decide)
  rcases c_ty_use hi (hty i hi) with ⟨m1, m2⟩ | ⟨so, mn, T, hso, s1, s2, ct, rt⟩
  · refine q_Sj_t (k := 2) (M2 := ir_sI (ir_th M) 412 4 (nI 2)) (b := 0) hI ?_ (by omega) ?_ (q_st_4 hpt rfl) q_I_s
    · rw [E_L_secrets 199, E_X11_secrets 198]
      simp (disch := omega) only [q_ckt, q_lt, q_cI, q_cJ, q_cV, q_cP, q_xI, q_xV, q_xP, q_xJ, g_gk, g_ga, g_gw, g_gp, g_gq, g_P, g_J, q_I_s, q_I_n, q_I_k, nI_add, pk_sub, pk_mul, nI_clamp, n_lt0, n_0lt, n_eq0, n_lt, n_le, n_eq, n_m1, n_m2, n_m9, n_12, n_19, n_10, n_01, n_1n1, n_0n1, n_1n0, n_0n0, n_dI, n_m1lt, q_inb, n_nar, n_nar0, n_nar1, n_bool, Bool.false_eq_true, Bool.true_eq_false, if_true, if_false, ↓reduceIte, Nat.reduceAdd, Nat.reduceMul, Nat.reduceSub, Nat.reduceLT, Nat.reduceLeDiff, Nat.reduceEqDiff, Nat.reduceMod, Nat.reduceDiv, q_W hp, c_nt1 hp hi m1, q_bJ2]
    · rw [E_X12_secrets 199]
      simp (disch := omega) only [q_ckt, q_lt, q_cI, q_cJ, q_cV, q_cP, q_xI, q_xV, q_xP, q_xJ, g_gk, g_ga, g_gw, g_gp, g_gq, g_P, g_J, q_I_s, q_I_n, q_I_k, nI_add, pk_sub, pk_mul, nI_clamp, n_lt0, n_0lt, n_eq0, n_lt, n_le, n_eq, n_m1, n_m2, n_m9, n_12, n_19, n_10, n_01, n_1n1, n_0n1, n_1n0, n_0n0, n_dI, n_m1lt, q_inb, n_nar, n_nar0, n_nar1, n_bool, Bool.false_eq_true, Bool.true_eq_false, if_true, if_false, ↓reduceIte, Nat.reduceAdd, Nat.reduceMul, Nat.reduceSub, Nat.reduceLT, Nat.reduceLeDiff, Nat.reduceEqDiff, Nat.reduceMod, Nat.reduceDiv, q_R hpt, r_scf1 hpt hi ((hst.2.2.1.1 433 i rfl).trans m2)]
  have nt := c_nt2 (d := 196) hp hi ct.2.2.1
  have ntd := c_ntd (d := 196) hc ct
  by_cases hf : k_ft2 K T mn = true
  · rw [if_pos hf] at ntd
    obtain ⟨emn, hT⟩ := k_ft2_u hk hf
    obtain ⟨M1, e1, st1, sc1, l1, o1⟩ := c_sbg (d := 193) hc ct emn
    obtain ⟨M2, e2, cs2, -, -⟩ := c_wy (d := 191) sc1 l1 o1
    obtain ⟨v, ev⟩ : ∃ v, v = Int64.ofNat (k_cnt (k_ok2 K (fun i => (T i).toInt32)) (k_prd (k_os2 (k_op K) 0 (k_m K)))) := ⟨_, rfl⟩
    rw [← ev] at e2
    have st2 := st1.tr cs2.st
    have stJ := st2.tr (q_st_J st2.1.1 (k := 0) (v := v))
    have gX := q_Iv_X hI stJ.1
    have r3 : r_rl (ir_sJ M2 436 0 v) K := q_st_r stJ hr
    have t3 := r_tt_st rt stJ
    have f3 := r_scf (d := 195) r3 t3 hso ((stJ.2.2.1.1 433 i rfl).trans s2)
    rw [if_pos hf] at f3
    have r4 := r_4 (v := nI 0) r3
    have t4 : r_tt (ir_sI (ir_sJ M2 436 0 v) 412 4 (nI 0)) i mn T := r_tt_eq t3 (S := [412]) (q_eq.sI (by decide)) (by decide)
    obtain ⟨N1, S, f4, rs4, j4, -, -⟩ := r_lsc (d := 185) emn hT r4 t4
    have p5 := q_PI_tt rs4.2.2 r4.1
    refine ⟨nI 0, ir_sJ M2 436 0 v, v, N1, ?_, gX.1, gX.2, ?_, ?_, fun _ => ?_, q_Iv_st hI ((stJ.tr (q_st_4 r3.1 rfl)).tr (rs4.st r4.1)) (by omega)⟩
    · rw [E_L_secrets 199, E_X11_secrets 198]
      simp (disch := omega) only [q_ckt, q_lt, q_cI, q_cJ, q_cV, q_cP, q_xI, q_xV, q_xP, q_xJ, g_gk, g_ga, g_gw, g_gp, g_gq, g_P, g_J, q_I_s, q_I_n, q_I_k, nI_add, pk_sub, pk_mul, nI_clamp, n_lt0, n_0lt, n_eq0, n_lt, n_le, n_eq, n_m1, n_m2, n_m9, n_12, n_19, n_10, n_01, n_1n1, n_0n1, n_1n0, n_0n0, n_dI, n_m1lt, q_inb, n_nar, n_nar0, n_nar1, n_bool, Bool.false_eq_true, Bool.true_eq_false, if_true, if_false, ↓reduceIte, Nat.reduceAdd, Nat.reduceMul, Nat.reduceSub, Nat.reduceLT, Nat.reduceLeDiff, Nat.reduceEqDiff, Nat.reduceMod, Nat.reduceDiv, q_W hp, nt, ntd, q_E hp, e1, q_W st1.1.1, q_E st1.1.1, e2, q_bJ1, q_R st2.1.1]
    · rw [E_X12_secrets 199]
      simp (disch := omega) only [q_ckt, q_lt, q_cI, q_cJ, q_cV, q_cP, q_xI, q_xV, q_xP, q_xJ, g_gk, g_ga, g_gw, g_gp, g_gq, g_P, g_J, q_I_s, q_I_n, q_I_k, nI_add, pk_sub, pk_mul, nI_clamp, n_lt0, n_0lt, n_eq0, n_lt, n_le, n_eq, n_m1, n_m2, n_m9, n_12, n_19, n_10, n_01, n_1n1, n_0n1, n_1n0, n_0n0, n_dI, n_m1lt, q_inb, n_nar, n_nar0, n_nar1, n_bool, Bool.false_eq_true, Bool.true_eq_false, if_true, if_false, ↓reduceIte, Nat.reduceAdd, Nat.reduceMul, Nat.reduceSub, Nat.reduceLT, Nat.reduceLeDiff, Nat.reduceEqDiff, Nat.reduceMod, Nat.reduceDiv, q_R r3.1, f3, Nat.lt_irrefl, f4, q_R p5, j4]
      rw [ev]
    · exact (congrFun (rs4.1 412 (by decide) (by decide) (by decide) (by decide)) 4).trans q_I_s
    · rw [rs4.2.1 436 (by decide)]
      show (if 436 = 436 then vp_updL (M2.2.1 436) 0 v else M2.2.1 436) 0 = v
      rw [if_pos rfl]
      exact pk_uLs
  · rw [if_neg hf] at ntd
    have rt' := r_tt_st rt hst
    have f3 := r_scf (d := 195) (q_st_r hst hr) rt' hso ((hst.2.2.1.1 433 i rfl).trans s2)
    rw [if_neg hf] at f3
    refine q_Sj_t (k := 3) (M2 := ir_sI (ir_th M) 412 4 (nI 3)) (b := 0) hI ?_ (by omega) ?_ (q_st_4 hpt rfl) q_I_s
    · rw [E_L_secrets 199, E_X11_secrets 198]
      simp (disch := omega) only [q_ckt, q_lt, q_cI, q_cJ, q_cV, q_cP, q_xI, q_xV, q_xP, q_xJ, g_gk, g_ga, g_gw, g_gp, g_gq, g_P, g_J, q_I_s, q_I_n, q_I_k, nI_add, pk_sub, pk_mul, nI_clamp, n_lt0, n_0lt, n_eq0, n_lt, n_le, n_eq, n_m1, n_m2, n_m9, n_12, n_19, n_10, n_01, n_1n1, n_0n1, n_1n0, n_0n0, n_dI, n_m1lt, q_inb, n_nar, n_nar0, n_nar1, n_bool, Bool.false_eq_true, Bool.true_eq_false, if_true, if_false, ↓reduceIte, Nat.reduceAdd, Nat.reduceMul, Nat.reduceSub, Nat.reduceLT, Nat.reduceLeDiff, Nat.reduceEqDiff, Nat.reduceMod, Nat.reduceDiv, q_W hp, nt, ntd, q_bJ2]
    · rw [E_X12_secrets 199]
      simp (disch := omega) only [q_ckt, q_lt, q_cI, q_cJ, q_cV, q_cP, q_xI, q_xV, q_xP, q_xJ, g_gk, g_ga, g_gw, g_gp, g_gq, g_P, g_J, q_I_s, q_I_n, q_I_k, nI_add, pk_sub, pk_mul, nI_clamp, n_lt0, n_0lt, n_eq0, n_lt, n_le, n_eq, n_m1, n_m2, n_m9, n_12, n_19, n_10, n_01, n_1n1, n_0n1, n_1n0, n_0n0, n_dI, n_m1lt, q_inb, n_nar, n_nar0, n_nar1, n_bool, Bool.false_eq_true, Bool.true_eq_false, if_true, if_false, ↓reduceIte, Nat.reduceAdd, Nat.reduceMul, Nat.reduceSub, Nat.reduceLT, Nat.reduceLeDiff, Nat.reduceEqDiff, Nat.reduceMod, Nat.reduceDiv, q_R hpt, f3]
theorem S_sure (a b : Int32) : q_St L xs (q_Iv L xs) (m_L_sure 200 1 a b 436) (m_X12_sure 200 412 a b) := by
  refine q_St_mk (x := m_X11_sure 199 1 a b) (fun M => E_L_sure 199 1 a b 436 M) fun M hp hI => ?_
  have hty := hI.2.1.2.1
  have hc := c_I_c hp hI.1
  have hr := c_I_r hp hI.1
  generalize hK : M.1 413 = K at hc hr
  have hk := hc.2.2.1
  have hb := k_bds hk
  by_cases ha : k_rng a 4
  rotate_left
  · refine Or.inr ⟨1, 1, by omega, by omega, ?_, fun _ => rfl, fun M' s => ⟨nI 0, _, ?_, q_st_4 s.1.1 (k := 4) (v := nI 1) rfl, rfl, q_I_s⟩⟩
    · rw [E_X11_sure 198]
      simp (disch := omega) only [q_ckt, q_lt, q_cI, q_cJ, q_cV, q_cP, q_xI, q_xV, q_xP, q_xJ, g_gk, g_ga, g_gw, g_gp, g_gq, g_P, g_J, q_I_s, q_I_n, q_I_k, nI_add, pk_sub, pk_mul, nI_clamp, n_lt0, n_0lt, n_eq0, n_lt, n_le, n_eq, n_m1, n_m2, n_m9, n_12, n_19, n_10, n_01, n_1n1, n_0n1, n_1n0, n_0n0, n_dI, n_m1lt, q_inb, n_nar, n_nar0, n_nar1, n_bool, Bool.false_eq_true, Bool.true_eq_false, if_true, if_false, ↓reduceIte, Nat.reduceAdd, Nat.reduceMul, Nat.reduceSub, Nat.reduceLT, Nat.reduceLeDiff, Nat.reduceEqDiff, Nat.reduceMod, Nat.reduceDiv, q_W hp, c_nt0 hp ha]
    · rw [E_X12_sure 199]
      simp (disch := omega) only [q_ckt, q_lt, q_cI, q_cJ, q_cV, q_cP, q_xI, q_xV, q_xP, q_xJ, g_gk, g_ga, g_gw, g_gp, g_gq, g_P, g_J, q_I_s, q_I_n, q_I_k, nI_add, pk_sub, pk_mul, nI_clamp, n_lt0, n_0lt, n_eq0, n_lt, n_le, n_eq, n_m1, n_m2, n_m9, n_12, n_19, n_10, n_01, n_1n1, n_0n1, n_1n0, n_0n0, n_dI, n_m1lt, q_inb, n_nar, n_nar0, n_nar1, n_bool, Bool.false_eq_true, Bool.true_eq_false, if_true, if_false, ↓reduceIte, Nat.reduceAdd, Nat.reduceMul, Nat.reduceSub, Nat.reduceLT, Nat.reduceLeDiff, Nat.reduceEqDiff, Nat.reduceMod, Nat.reduceDiv, q_R s.1.1, r_scf0 s.1.1 ha, L_X12_sure_30]
  obtain ⟨i, hi, rfl⟩ := k_rng_of ha (by decide)
  rcases c_ty_use hi (hty i hi) with ⟨m1, m2⟩ | ⟨so, mn, T, hso, s1, s2, ct, rt⟩
  · refine Or.inr ⟨2, 2, by omega, by omega, ?_, fun _ => rfl, fun M' s => ⟨nI 0, _, ?_, q_st_4 s.1.1 (k := 4) (v := nI 2) rfl, rfl, q_I_s⟩⟩
    · rw [E_X11_sure 198]
      simp (disch := omega) only [q_ckt, q_lt, q_cI, q_cJ, q_cV, q_cP, q_xI, q_xV, q_xP, q_xJ, g_gk, g_ga, g_gw, g_gp, g_gq, g_P, g_J, q_I_s, q_I_n, q_I_k, nI_add, pk_sub, pk_mul, nI_clamp, n_lt0, n_0lt, n_eq0, n_lt, n_le, n_eq, n_m1, n_m2, n_m9, n_12, n_19, n_10, n_01, n_1n1, n_0n1, n_1n0, n_0n0, n_dI, n_m1lt, q_inb, n_nar, n_nar0, n_nar1, n_bool, Bool.false_eq_true, Bool.true_eq_false, if_true, if_false, ↓reduceIte, Nat.reduceAdd, Nat.reduceMul, Nat.reduceSub, Nat.reduceLT, Nat.reduceLeDiff, Nat.reduceEqDiff, Nat.reduceMod, Nat.reduceDiv, q_W hp, c_nt1 hp hi m1]
    · rw [E_X12_sure 199]
      simp (disch := omega) only [q_ckt, q_lt, q_cI, q_cJ, q_cV, q_cP, q_xI, q_xV, q_xP, q_xJ, g_gk, g_ga, g_gw, g_gp, g_gq, g_P, g_J, q_I_s, q_I_n, q_I_k, nI_add, pk_sub, pk_mul, nI_clamp, n_lt0, n_0lt, n_eq0, n_lt, n_le, n_eq, n_m1, n_m2, n_m9, n_12, n_19, n_10, n_01, n_1n1, n_0n1, n_1n0, n_0n0, n_dI, n_m1lt, q_inb, n_nar, n_nar0, n_nar1, n_bool, Bool.false_eq_true, Bool.true_eq_false, if_true, if_false, ↓reduceIte, Nat.reduceAdd, Nat.reduceMul, Nat.reduceSub, Nat.reduceLT, Nat.reduceLeDiff, Nat.reduceEqDiff, Nat.reduceMod, Nat.reduceDiv, q_R s.1.1, r_scf1 s.1.1 hi ((s.2.2.1.1 433 i rfl).trans m2), L_X12_sure_30]
  have nt := c_nt2 (d := 196) hp hi ct.2.2.1
  have ntd := c_ntd (d := 196) hc ct
  by_cases hf : k_ft2 K T mn = true
  rotate_left
  · rw [if_neg hf] at ntd
    refine Or.inr ⟨3, 3, by omega, by omega, ?_, fun _ => rfl, fun M' s => ⟨nI 0, _, ?_, q_st_4 s.1.1 (k := 4) (v := nI 3) rfl, rfl, q_I_s⟩⟩
    · rw [E_X11_sure 198]
      simp (disch := omega) only [q_ckt, q_lt, q_cI, q_cJ, q_cV, q_cP, q_xI, q_xV, q_xP, q_xJ, g_gk, g_ga, g_gw, g_gp, g_gq, g_P, g_J, q_I_s, q_I_n, q_I_k, nI_add, pk_sub, pk_mul, nI_clamp, n_lt0, n_0lt, n_eq0, n_lt, n_le, n_eq, n_m1, n_m2, n_m9, n_12, n_19, n_10, n_01, n_1n1, n_0n1, n_1n0, n_0n0, n_dI, n_m1lt, q_inb, n_nar, n_nar0, n_nar1, n_bool, Bool.false_eq_true, Bool.true_eq_false, if_true, if_false, ↓reduceIte, Nat.reduceAdd, Nat.reduceMul, Nat.reduceSub, Nat.reduceLT, Nat.reduceLeDiff, Nat.reduceEqDiff, Nat.reduceMod, Nat.reduceDiv, q_W hp, nt, ntd]
    · have f3 := r_scf (d := 195) (q_st_r s hr) (r_tt_st rt s) hso ((s.2.2.1.1 433 i rfl).trans s2)
      rw [if_neg hf] at f3
      rw [E_X12_sure 199]
      simp (disch := omega) only [q_ckt, q_lt, q_cI, q_cJ, q_cV, q_cP, q_xI, q_xV, q_xP, q_xJ, g_gk, g_ga, g_gw, g_gp, g_gq, g_P, g_J, q_I_s, q_I_n, q_I_k, nI_add, pk_sub, pk_mul, nI_clamp, n_lt0, n_0lt, n_eq0, n_lt, n_le, n_eq, n_m1, n_m2, n_m9, n_12, n_19, n_10, n_01, n_1n1, n_0n1, n_1n0, n_0n0, n_dI, n_m1lt, q_inb, n_nar, n_nar0, n_nar1, n_bool, Bool.false_eq_true, Bool.true_eq_false, if_true, if_false, ↓reduceIte, Nat.reduceAdd, Nat.reduceMul, Nat.reduceSub, Nat.reduceLT, Nat.reduceLeDiff, Nat.reduceEqDiff, Nat.reduceMod, Nat.reduceDiv, q_R s.1.1, f3, L_X12_sure_30]
  rw [if_pos hf] at ntd
  obtain ⟨emn, hT⟩ := k_ft2_u hk hf
  by_cases hbk : k_rng b (k_m K)
  · obtain ⟨p, hpm, rfl⟩ := k_rng_of hbk (by omega)
    obtain ⟨M1, e1, st1, sc1, l1, o1⟩ := c_sbg (d := 193) hc ct emn
    obtain ⟨M2, e2, cs2⟩ := c_oa (d := 190) sc1 l1 o1 hpm
    obtain ⟨v, ev⟩ : ∃ v, v = (if (k_oa (fun x => decide (0 < k_W2 K (fun i => (T i).toInt32) (k_op K) p x)) 8).2 = 1 then (k_oa (fun x => decide (0 < k_W2 K (fun i => (T i).toInt32) (k_op K) p x)) 8).1 else -1) := ⟨_, rfl⟩
    rw [← ev] at e2
    refine Or.inl ⟨v, ⟨M2, ?_, st1.tr cs2.st⟩, fun M' s => ?_⟩
    · rw [E_X11_sure 198]
      simp (disch := omega) only [q_ckt, q_lt, q_cI, q_cJ, q_cV, q_cP, q_xI, q_xV, q_xP, q_xJ, g_gk, g_ga, g_gw, g_gp, g_gq, g_P, g_J, q_I_s, q_I_n, q_I_k, nI_add, pk_sub, pk_mul, nI_clamp, n_lt0, n_0lt, n_eq0, n_lt, n_le, n_eq, n_m1, n_m2, n_m9, n_12, n_19, n_10, n_01, n_1n1, n_0n1, n_1n0, n_0n0, n_dI, n_m1lt, q_inb, n_nar, n_nar0, n_nar1, n_bool, Bool.false_eq_true, Bool.true_eq_false, if_true, if_false, ↓reduceIte, Nat.reduceAdd, Nat.reduceMul, Nat.reduceSub, Nat.reduceLT, Nat.reduceLeDiff, Nat.reduceEqDiff, Nat.reduceMod, Nat.reduceDiv, q_W hp, nt, ntd, c_npl hc, hbk, q_E hp, e1, q_W st1.1.1, q_E st1.1.1, e2]
    · have r3 := q_st_r s hr
      have t3 := r_tt_st rt s
      have f3 := r_scf (d := 195) r3 t3 hso ((s.2.2.1.1 433 i rfl).trans s2)
      rw [if_pos hf] at f3
      have r4 := r_4 (v := nI 0) r3
      have t4 : r_tt (ir_sI M' 412 4 (nI 0)) i mn T := r_tt_eq t3 (S := [412]) (q_eq.sI (by decide)) (by decide)
      obtain ⟨N1, S, f4, rs4, j4, sb, bits⟩ := r_lsc (d := 185) emn hT r4 t4
      have r5 := r_rl_rs r4 rs4
      have f5 := r_s46 (d := 198) r5 (show p < 8 by omega) (sb p hpm).1 (sb p hpm).2 (k_g K) 0 (by omega)
      have se := k_sure_e (N := fun i => (T i).toInt32) hk hpm (sb p hpm).2 (bits p hpm)
      refine ⟨N1, ?_, (q_st_4 r3.1 rfl).tr (rs4.st r4.1), by rw [rs4.2.1 436 (by decide)]; rfl, (congrFun (rs4.1 412 (by decide) (by decide) (by decide) (by decide)) 4).trans q_I_s⟩
      rw [ev, se, E_X12_sure 199]
      simp (disch := omega) only [q_ckt, q_lt, q_cI, q_cJ, q_cV, q_cP, q_xI, q_xV, q_xP, q_xJ, g_gk, g_ga, g_gw, g_gp, g_gq, g_P, g_J, q_I_s, q_I_n, q_I_k, nI_add, pk_sub, pk_mul, nI_clamp, n_lt0, n_0lt, n_eq0, n_lt, n_le, n_eq, n_m1, n_m2, n_m9, n_12, n_19, n_10, n_01, n_1n1, n_0n1, n_1n0, n_0n0, n_dI, n_m1lt, q_inb, n_nar, n_nar0, n_nar1, n_bool, Bool.false_eq_true, Bool.true_eq_false, if_true, if_false, ↓reduceIte, Nat.reduceAdd, Nat.reduceMul, Nat.reduceSub, Nat.reduceLT, Nat.reduceLeDiff, Nat.reduceEqDiff, Nat.reduceMod, Nat.reduceDiv, q_R r3.1, f3, r_is r4, hbk, L_X12_sure_30, Nat.lt_irrefl, f4]
      exact f5
  · refine Or.inr ⟨3, 3, by omega, by omega, ?_, fun _ => rfl, fun M' s => ⟨nI 0, ir_sI (ir_sI M' 412 4 (nI 0)) 412 4 (nI 3), ?_, (q_st_4 s.1.1 (k := 4) rfl).tr (q_st_4 (M := ir_sI M' 412 4 (nI 0)) s.1.1 (k := 4) (v := nI 3) rfl), rfl, q_I_s⟩⟩
    · rw [E_X11_sure 198]
      simp (disch := omega) only [q_ckt, q_lt, q_cI, q_cJ, q_cV, q_cP, q_xI, q_xV, q_xP, q_xJ, g_gk, g_ga, g_gw, g_gp, g_gq, g_P, g_J, q_I_s, q_I_n, q_I_k, nI_add, pk_sub, pk_mul, nI_clamp, n_lt0, n_0lt, n_eq0, n_lt, n_le, n_eq, n_m1, n_m2, n_m9, n_12, n_19, n_10, n_01, n_1n1, n_0n1, n_1n0, n_0n0, n_dI, n_m1lt, q_inb, n_nar, n_nar0, n_nar1, n_bool, Bool.false_eq_true, Bool.true_eq_false, if_true, if_false, ↓reduceIte, Nat.reduceAdd, Nat.reduceMul, Nat.reduceSub, Nat.reduceLT, Nat.reduceLeDiff, Nat.reduceEqDiff, Nat.reduceMod, Nat.reduceDiv, q_W hp, nt, ntd, c_npl hc, hbk]
    · have r3 := q_st_r s hr
      have f3 := r_scf (d := 195) r3 (r_tt_st rt s) hso ((s.2.2.1.1 433 i rfl).trans s2)
      rw [if_pos hf] at f3
      have r4 := r_4 (v := nI 0) r3
      rw [E_X12_sure 199]
      simp (disch := omega) only [q_ckt, q_lt, q_cI, q_cJ, q_cV, q_cP, q_xI, q_xV, q_xP, q_xJ, g_gk, g_ga, g_gw, g_gp, g_gq, g_P, g_J, q_I_s, q_I_n, q_I_k, nI_add, pk_sub, pk_mul, nI_clamp, n_lt0, n_0lt, n_eq0, n_lt, n_le, n_eq, n_m1, n_m2, n_m9, n_12, n_19, n_10, n_01, n_1n1, n_0n1, n_1n0, n_0n0, n_dI, n_m1lt, q_inb, n_nar, n_nar0, n_nar1, n_bool, Bool.false_eq_true, Bool.true_eq_false, if_true, if_false, ↓reduceIte, Nat.reduceAdd, Nat.reduceMul, Nat.reduceSub, Nat.reduceLT, Nat.reduceLeDiff, Nat.reduceEqDiff, Nat.reduceMod, Nat.reduceDiv, q_R r3.1, f3, r_is r4, hbk, L_X12_sure_30]
end SX2
