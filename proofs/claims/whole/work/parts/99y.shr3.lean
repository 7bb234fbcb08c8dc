/-! share in step -/
def k_fc (n : Nat) : Nat := [1, 1, 2, 6, 24, 120].getD n 0
def k_shr (K : Nat → Int32) (W : Nat → Int32) (p : Nat) : Nat → Int32
  | 0 => nI 0
  | x + 1 => if k_dif x (k_dif (k_mb K) (2 ^ p)) = 0 then k_shr K W p x + (nI (k_fc (k_card x)) * nI (k_fc (k_m K - 1 - k_card x))) * (W (x ||| 2 ^ p) - W x) else k_shr K W p x
section SHX
variable {K W W' : Nat → Int32} {p d : Nat}
theorem k_oth {x : Nat} : k_dif x (k_dif (k_mb K) (2 ^ p)) = 0 ↔ k_dif x (k_mb K) = 0 ∧ x.testBit p = false := by
  rw [k_dif_0, k_dif_0]
  constructor
  · intro h
    refine ⟨fun i hi => ?_, ?_⟩
    · have := h i hi
      rw [k_dif_bit, Bool.and_eq_true] at this
      exact this.1
    · cases e : x.testBit p
      · rfl
      · have := h p e
        rw [k_dif_bit, n_p2b, decide_eq_true rfl, Bool.not_true, Bool.and_false] at this
        exact nomatch this
  · rintro ⟨h1, h2⟩ i hi
    rw [k_dif_bit, n_p2b, h1 i hi, Bool.true_and, Bool.not_eq_true']
    exact decide_eq_false (fun w => by rw [← w, h2] at hi; exact nomatch hi)
theorem k_dif_le {a b : Nat} (h : k_dif a b = 0) : a ≤ b := by
  have e : a &&& b = a := k_bit_eq fun i => by
    rw [Nat.testBit_and]
    cases q : a.testBit i
    · rfl
    · rw [k_dif_0.mp h i q]; rfl
  rw [← e]
  exact Nat.and_le_right
theorem k_oth_u {x : Nat} (hp : (k_mb K).testBit p = true) (h : k_dif x (k_dif (k_mb K) (2 ^ p)) = 0) : k_dif (x ||| 2 ^ p) (k_mb K) = 0 := k_dif_0.mpr fun i hi => by
  rw [Nat.testBit_or, n_p2b, Bool.or_eq_true] at hi
  rcases hi with e | e
  · exact k_dif_0.mp (k_oth.mp h).1 i e
  · rw [← of_decide_eq_true e]; exact hp
theorem k_oth_c (hk : k_ok K) {x : Nat} (hx : x < 256) (hp8 : p < 8) (hp : (k_mb K).testBit p = true) (h : k_dif x (k_dif (k_mb K) (2 ^ p)) = 0) : k_card x + 1 ≤ k_m K := by
  have a := k_cd_le (k_oth_u hp h)
  rw [k_cd_o x hx p hp8 (k_oth.mp h).2, k_mb_cd hk] at a
  exact a
theorem k_shr_cg (hp : (k_mb K).testBit p = true) (h : ∀ S, k_dif S (k_mb K) = 0 → W S = W' S) : ∀ n, k_shr K W p n = k_shr K W' p n
  | 0 => rfl
  | n + 1 => by
    unfold k_shr
    rw [k_shr_cg hp h n]
    by_cases q : k_dif n (k_dif (k_mb K) (2 ^ p)) = 0
    · rw [if_pos q, if_pos q, h _ (k_oth_u hp q), h _ (k_oth.mp q).1]
    · rw [if_neg q, if_neg q]
theorem k_shr_st : ∀ r, k_shr K W p (k_mb K + 1 + r) = k_shr K W p (k_mb K + 1)
  | 0 => rfl
  | r + 1 => by
    rw [show k_mb K + 1 + (r + 1) = k_mb K + 1 + r + 1 by omega]
    show (if _ then _ else k_shr K W p (k_mb K + 1 + r)) = _
    rw [if_neg (fun w => by have := k_dif_le (k_oth.mp w).1; omega), k_shr_st r]
theorem n_fc : ∀ n, n < 6 → ir_rows.getD n 0 = nI (k_fc n) := by decide +kernel
theorem c_rows {L : Nat} {xs : Nat → Int32} {M : ir_M} (hx : q_X L xs M) {c : Nat} (hc : c < 6) : ir_ln M 3000000 = 6 ∧ ir_gl M 3000000 = true ∧ ir_ga M 3000000 100 (nI c) = true ∧ ir_I M 3000000 c = nI (k_fc c) := by
  have l : ir_ln M 3000000 = 6 := by
    rw [ir_ln_ext (by decide), (hx 3000000 (by decide)).2.1]
    show (if 3000000 = 2000000 then Int64.ofNat L else if 3000000 = 3000000 then (6 : Int64) else _).toInt.toNat = 6
    rw [if_neg (by decide), if_pos rfl]
    decide +kernel
  refine ⟨l, ?_, ?_, ?_⟩
  · unfold ir_gl
    rw [show Nat.ble 100 (ir_kd 3000000) = true by decide +kernel, show Nat.ble 1000000 3000000 = true by decide]
    cases Nat.blt 3000000 (ir_nx M) <;> rfl
  · unfold ir_ga ir_gk
    rw [show Nat.beq (ir_kd 3000000) 100 = true by decide +kernel, show Nat.ble 1000000 3000000 = true by decide, l, q_inb hc (by decide)]
    cases Nat.blt 3000000 (ir_nx M) <;> rfl
  · show M.1 3000000 c = _
    rw [(hx 3000000 (by decide)).1]
    exact n_fc c hc
theorem c_sho {L : Nat} {xs : Nat → Int32} {M : ir_M} (hpi : q_PI M) (hx : q_X L xs M) (hk : k_ok K) (h6 : k_m K ≤ 6) (hp8 : p < 8) (hp : (k_mb K).testBit p = true) : m_X7_shareOf (d + 2) 129 (nI p) (nI (k_mb K)) M = ir_oI (k_shr K (fun S => ir_I M 130 S) p 256) M := by
  have hb := k_bds hk
  have hmb := k_mb_lt hk
  have ol : k_dif (k_mb K) (2 ^ p) < 256 := k_dif_lt hmb
  have oc := k_cd_d _ hmb p hp8 hp
  rw [k_mb_cd hk] at oc
  have L := q_up (σ := ir_M) (V := fun x t => v_X7_shareOf_24 (d + 1) 129 (nI (2 ^ p)) (nI (k_dif (k_mb K) (2 ^ p))) (nI (k_card (k_dif (k_mb K) (2 ^ p)))) (k_shr K (fun S => ir_I M 130 S) p x) (nI x) t) (N := 256) (I := fun _ t => t = M) (K := fun t => ir_oI (k_shr K (fun S => ir_I M 130 S) p 256) t) (by
    rintro x t hx2 rfl
    refine ⟨t, rfl, ?_⟩
    show _ = v_X7_shareOf_24 (d + 1) 129 (nI (2 ^ p)) _ _ (if k_dif x (k_dif (k_mb K) (2 ^ p)) = 0 then _ else _) (nI (x + 1)) t
    have dl : k_dif x (k_dif (k_mb K) (2 ^ p)) < 256 := k_dif_lt hx2
    have cx := (k_card_le x hx2).1
    by_cases q : k_dif x (k_dif (k_mb K) (2 ^ p)) = 0
    · have cc := k_oth_c hk hx2 hp8 hp q
      obtain ⟨w1, w2, w3, w4⟩ := c_rows hx (c := k_card x) (by omega)
      obtain ⟨-, -, u3, u4⟩ := c_rows hx (c := k_m K - 1 - k_card x) (by omega)
      have ec : k_card (k_dif (k_mb K) (2 ^ p)) - k_card x = k_m K - 1 - k_card x := by omega
      have ul : x ||| 2 ^ p < 256 := Nat.or_lt_two_pow (n := 8) hx2 (n_p2 hp8)
      rw [if_pos q, L_X7_shareOf_24]
      simp (disch := omega) only [q_ckt, q_lt, q_cI, q_cJ, q_cV, q_cP, q_xI, q_xV, q_xP, q_xJ, g_gk, g_ga, g_gw, g_gp, g_gq, g_P, g_J, q_I_s, q_I_n, q_I_k, nI_add, pk_sub, pk_mul, nI_clamp, n_lt0, n_0lt, n_eq0, n_lt, n_le, n_eq, n_m1, n_m2, n_m9, n_12, n_19, n_10, n_01, n_1n1, n_0n1, n_1n0, n_0n0, n_dI, n_m1lt, q_inb, n_nar, n_nar0, n_nar1, n_bool, Bool.false_eq_true, Bool.true_eq_false, if_true, if_false, ↓reduceIte, Nat.reduceAdd, Nat.reduceMul, Nat.reduceSub, Nat.reduceLT, Nat.reduceLeDiff, Nat.reduceEqDiff, Nat.reduceMod, Nat.reduceDiv, hx2, c_bc, n_bc x hx2, n_dif, q, w1, w2, show (Int32.ofNat 6) = nI 6 from rfl, show k_card x < 6 by omega, ec, show k_m K - 1 - k_card x < 6 by omega, w3, w4, u3, u4, q_H hpi, n_or]
    · rw [if_neg q, L_X7_shareOf_24]
      simp (disch := omega) only [q_ckt, q_lt, q_cI, q_cJ, q_cV, q_cP, q_xI, q_xV, q_xP, q_xJ, g_gk, g_ga, g_gw, g_gp, g_gq, g_P, g_J, q_I_s, q_I_n, q_I_k, nI_add, pk_sub, pk_mul, nI_clamp, n_lt0, n_0lt, n_eq0, n_lt, n_le, n_eq, n_m1, n_m2, n_m9, n_12, n_19, n_10, n_01, n_1n1, n_0n1, n_1n0, n_0n0, n_dI, n_m1lt, q_inb, n_nar, n_nar0, n_nar1, n_bool, Bool.false_eq_true, Bool.true_eq_false, if_true, if_false, ↓reduceIte, Nat.reduceAdd, Nat.reduceMul, Nat.reduceSub, Nat.reduceLT, Nat.reduceLeDiff, Nat.reduceEqDiff, Nat.reduceMod, Nat.reduceDiv, hx2, c_bc, n_bc x hx2, n_dif, q]) (by
    rintro t rfl
    rw [L_X7_shareOf_24]
    simp (disch := omega) only [q_ckt, q_lt, q_cI, q_cJ, q_cV, q_cP, q_xI, q_xV, q_xP, q_xJ, g_gk, g_ga, g_gw, g_gp, g_gq, g_P, g_J, q_I_s, q_I_n, q_I_k, nI_add, pk_sub, pk_mul, nI_clamp, n_lt0, n_0lt, n_eq0, n_lt, n_le, n_eq, n_m1, n_m2, n_m9, n_12, n_19, n_10, n_01, n_1n1, n_0n1, n_1n0, n_0n0, n_dI, n_m1lt, q_inb, n_nar, n_nar0, n_nar1, n_bool, Bool.false_eq_true, Bool.true_eq_false, if_true, if_false, ↓reduceIte, Nat.reduceAdd, Nat.reduceMul, Nat.reduceSub, Nat.reduceLT, Nat.reduceLeDiff, Nat.reduceEqDiff, Nat.reduceMod, Nat.reduceDiv]) (i := 0) (t := M) (by omega) rfl
  obtain ⟨t, rfl, ee⟩ := L
  rw [E_X7_shareOf]
  simp (disch := omega) only [q_ckt, q_lt, q_cI, q_cJ, q_cV, q_cP, q_xI, q_xV, q_xP, q_xJ, g_gk, g_ga, g_gw, g_gp, g_gq, g_P, g_J, q_I_s, q_I_n, q_I_k, nI_add, pk_sub, pk_mul, nI_clamp, n_lt0, n_0lt, n_eq0, n_lt, n_le, n_eq, n_m1, n_m2, n_m9, n_12, n_19, n_10, n_01, n_1n1, n_0n1, n_1n0, n_0n0, n_dI, n_m1lt, q_inb, n_nar, n_nar0, n_nar1, n_bool, Bool.false_eq_true, Bool.true_eq_false, if_true, if_false, ↓reduceIte, Nat.reduceAdd, Nat.reduceMul, Nat.reduceSub, Nat.reduceLT, Nat.reduceLeDiff, Nat.reduceEqDiff, Nat.reduceMod, Nat.reduceDiv, n_bit, n_dif, c_bc, n_bc _ ol]
  exact ee
theorem r_rows {M : ir_M} : ∀ n, n < 6 → m_X12_rows (d + 6) (nI n) M = ir_oI (nI (k_fc n)) M := by
  have r0 : ∀ e n, n < 2 → m_X12_rows (e + 1) (nI n) M = ir_oI (nI 1) M := fun e n hn => by
    rw [E_X12_rows]
    simp (disch := omega) only [q_ckt, q_lt, q_cI, q_cJ, q_cV, q_cP, q_xI, q_xV, q_xP, q_xJ, g_gk, g_ga, g_gw, g_gp, g_gq, g_P, g_J, q_I_s, q_I_n, q_I_k, nI_add, pk_sub, pk_mul, nI_clamp, n_lt0, n_0lt, n_eq0, n_lt, n_le, n_eq, n_m1, n_m2, n_m9, n_12, n_19, n_10, n_01, n_1n1, n_0n1, n_1n0, n_0n0, n_dI, n_m1lt, q_inb, n_nar, n_nar0, n_nar1, n_bool, Bool.false_eq_true, Bool.true_eq_false, if_true, if_false, ↓reduceIte, Nat.reduceAdd, Nat.reduceMul, Nat.reduceSub, Nat.reduceLT, Nat.reduceLeDiff, Nat.reduceEqDiff, Nat.reduceMod, Nat.reduceDiv, hn]
  have rs : ∀ e n v, n < 6 → m_X12_rows e (nI n) M = ir_oI (nI v) M → 1 ≤ n → m_X12_rows (e + 1) (nI (n + 1)) M = ir_oI (nI ((n + 1) * v)) M := fun e n v hn he h1 => by
    rw [E_X12_rows]
    simp (disch := omega) only [q_ckt, q_lt, q_cI, q_cJ, q_cV, q_cP, q_xI, q_xV, q_xP, q_xJ, g_gk, g_ga, g_gw, g_gp, g_gq, g_P, g_J, q_I_s, q_I_n, q_I_k, nI_add, pk_sub, pk_mul, nI_clamp, n_lt0, n_0lt, n_eq0, n_lt, n_le, n_eq, n_m1, n_m2, n_m9, n_12, n_19, n_10, n_01, n_1n1, n_0n1, n_1n0, n_0n0, n_dI, n_m1lt, q_inb, n_nar, n_nar0, n_nar1, n_bool, Bool.false_eq_true, Bool.true_eq_false, if_true, if_false, ↓reduceIte, Nat.reduceAdd, Nat.reduceMul, Nat.reduceSub, Nat.reduceLT, Nat.reduceLeDiff, Nat.reduceEqDiff, Nat.reduceMod, Nat.reduceDiv, show ¬ n + 1 < 2 by omega, show n + 1 - 1 = n by omega, he]
  have a1 := r0 (d + 1) 1 (by decide)
  have a2 := rs _ 1 1 (by decide) a1 (by decide)
  have a3 := rs _ 2 _ (by decide) a2 (by decide)
  have a4 := rs _ 3 _ (by decide) a3 (by decide)
  have b1 := r0 (d + 5) 1 (by decide)
  have b2 := rs _ 1 1 (by decide) (r0 (d + 4) 1 (by decide)) (by decide)
  have b3 := rs _ 2 _ (by decide) (rs _ 1 1 (by decide) (r0 (d + 3) 1 (by decide)) (by decide)) (by decide)
  have b4 := rs _ 3 _ (by decide) (rs _ 2 _ (by decide) (rs _ 1 1 (by decide) (r0 (d + 2) 1 (by decide)) (by decide)) (by decide)) (by decide)
  have b5 := rs _ 4 _ (by decide) (rs _ 3 _ (by decide) (rs _ 2 _ (by decide) (rs _ 1 1 (by decide) (r0 (d + 1) 1 (by decide)) (by decide)) (by decide)) (by decide)) (by decide)
  intro n hn
  have : n = 0 ∨ n = 1 ∨ n = 2 ∨ n = 3 ∨ n = 4 ∨ n = 5 := by omega
  rcases this with rfl | rfl | rfl | rfl | rfl | rfl
  · exact r0 (d + 5) 0 (by decide)
  · exact b1
  · exact b2
  · exact b3
  · exact b4
  · exact b5
/-- the reference's sum -/
theorem r_sh90 {M : ir_M} (h : r_rl M K) (h6 : k_m K ≤ 6) (hp8 : p < 8) (hp : (k_mb K).testBit p = true) (hW : ∀ S, k_dif S (k_mb K) = 0 → ir_I M 430 S = W S) : v_X12_share_90 (d + 7) 412 (nI p) (nI (k_mb K)) (nI 0) (nI 0) M = ir_oI (k_shr K W p (k_mb K + 1)) M := by
  have hk := h.2.1
  have hb := k_bds hk
  have hmb := k_mb_lt hk
  have L := q_up (σ := ir_M) (V := fun x t => v_X12_share_90 (d + 7) 412 (nI p) (nI (k_mb K)) (k_shr K W p x) (nI x) t) (N := k_mb K + 1) (I := fun _ t => t = M) (K := fun t => ir_oI (k_shr K W p (k_mb K + 1)) t) (by
    rintro x t hx2 rfl
    refine ⟨t, rfl, ?_⟩
    show _ = v_X12_share_90 (d + 7) 412 (nI p) _ (if k_dif x (k_dif (k_mb K) (2 ^ p)) = 0 then _ else _) (nI (x + 1)) t
    have x256 : x < 256 := by omega
    have cx := (k_card_le x x256).1
    have dl : k_dif x (k_mb K) < 256 := k_dif_lt x256
    have hh := r_has (M := t) (d := d + 6) x256 hp8
    by_cases q1 : k_dif x (k_mb K) = 0
    · by_cases q2 : x.testBit p = true
      · rw [if_pos q2] at hh
        rw [if_neg (fun w => by rw [(k_oth.mp w).2] at q2; exact nomatch q2), L_X12_share_90]
        simp (disch := omega) only [q_ckt, q_lt, q_cI, q_cJ, q_cV, q_cP, q_xI, q_xV, q_xP, q_xJ, g_gk, g_ga, g_gw, g_gp, g_gq, g_P, g_J, q_I_s, q_I_n, q_I_k, nI_add, pk_sub, pk_mul, nI_clamp, n_lt0, n_0lt, n_eq0, n_lt, n_le, n_eq, n_m1, n_m2, n_m9, n_12, n_19, n_10, n_01, n_1n1, n_0n1, n_1n0, n_0n0, n_dI, n_m1lt, q_inb, n_nar, n_nar0, n_nar1, n_bool, Bool.false_eq_true, Bool.true_eq_false, if_true, if_false, ↓reduceIte, Nat.reduceAdd, Nat.reduceMul, Nat.reduceSub, Nat.reduceLT, Nat.reduceLeDiff, Nat.reduceEqDiff, Nat.reduceMod, Nat.reduceDiv, show ¬ k_mb K < x by omega, n_dif, q1, hh]
      · have q := k_oth.mpr ⟨q1, Bool.eq_false_iff.mpr q2⟩
        rw [if_neg q2] at hh
        have cc := k_oth_c hk x256 hp8 hp q
        have ul : x ||| 2 ^ p < 256 := Nat.or_lt_two_pow (n := 8) x256 (n_p2 hp8)
        have w1 := hW _ (k_oth_u hp q)
        have w2 := hW _ q1
        have s1 := r_size (M := t) (d := d + 6) x256
        have ro1 := r_rows (M := t) (d := d + 1) (k_card x) (by omega)
        have ro2 := r_rows (M := t) (d := d + 1) (k_m K - 1 - k_card x) (by omega)
        have qd := r_qd (d := d + 6) h
        rw [if_pos q, L_X12_share_90]
        simp (disch := omega) only [q_ckt, q_lt, q_cI, q_cJ, q_cV, q_cP, q_xI, q_xV, q_xP, q_xJ, g_gk, g_ga, g_gw, g_gp, g_gq, g_P, g_J, q_I_s, q_I_n, q_I_k, nI_add, pk_sub, pk_mul, nI_clamp, n_lt0, n_0lt, n_eq0, n_lt, n_le, n_eq, n_m1, n_m2, n_m9, n_12, n_19, n_10, n_01, n_1n1, n_0n1, n_1n0, n_0n0, n_dI, n_m1lt, q_inb, n_nar, n_nar0, n_nar1, n_bool, Bool.false_eq_true, Bool.true_eq_false, if_true, if_false, ↓reduceIte, Nat.reduceAdd, Nat.reduceMul, Nat.reduceSub, Nat.reduceLT, Nat.reduceLeDiff, Nat.reduceEqDiff, Nat.reduceMod, Nat.reduceDiv, show ¬ k_mb K < x by omega, n_dif, q1, hh, s1, ro1, q_R h.1, qd, ro2, n_bit, n_or, w1, w2]
    · rw [if_neg (fun w => q1 (k_oth.mp w).1), L_X12_share_90]
      simp (disch := omega) only [q_ckt, q_lt, q_cI, q_cJ, q_cV, q_cP, q_xI, q_xV, q_xP, q_xJ, g_gk, g_ga, g_gw, g_gp, g_gq, g_P, g_J, q_I_s, q_I_n, q_I_k, nI_add, pk_sub, pk_mul, nI_clamp, n_lt0, n_0lt, n_eq0, n_lt, n_le, n_eq, n_m1, n_m2, n_m9, n_12, n_19, n_10, n_01, n_1n1, n_0n1, n_1n0, n_0n0, n_dI, n_m1lt, q_inb, n_nar, n_nar0, n_nar1, n_bool, Bool.false_eq_true, Bool.true_eq_false, if_true, if_false, ↓reduceIte, Nat.reduceAdd, Nat.reduceMul, Nat.reduceSub, Nat.reduceLT, Nat.reduceLeDiff, Nat.reduceEqDiff, Nat.reduceMod, Nat.reduceDiv, show ¬ k_mb K < x by omega, n_dif, q1]) (by
    rintro t rfl
    rw [L_X12_share_90]
    simp (disch := omega) only [q_ckt, q_lt, q_cI, q_cJ, q_cV, q_cP, q_xI, q_xV, q_xP, q_xJ, g_gk, g_ga, g_gw, g_gp, g_gq, g_P, g_J, q_I_s, q_I_n, q_I_k, nI_add, pk_sub, pk_mul, nI_clamp, n_lt0, n_0lt, n_eq0, n_lt, n_le, n_eq, n_m1, n_m2, n_m9, n_12, n_19, n_10, n_01, n_1n1, n_0n1, n_1n0, n_0n0, n_dI, n_m1lt, q_inb, n_nar, n_nar0, n_nar1, n_bool, Bool.false_eq_true, Bool.true_eq_false, if_true, if_false, ↓reduceIte, Nat.reduceAdd, Nat.reduceMul, Nat.reduceSub, Nat.reduceLT, Nat.reduceLeDiff, Nat.reduceEqDiff, Nat.reduceMod, Nat.reduceDiv, show k_mb K < k_mb K + 1 by omega]) (i := 0) (t := M) (by omega) rfl
  obtain ⟨t, rfl, ee⟩ := L
  exact ee
theorem r_sh53 {M : ir_M} {q0 : Int32} (h : r_rl M K) (hn : ∀ p, k_mem K p = true → ir_I M 428 p = k_nk K p) (hW : ∀ S, S < 256 → k_dif S (k_mb K) = 0 → k_mxs K S (W S)) : ∃ N, v_X12_share_53 (d + 13) 412 q0 (nI (k_mb K)) (nI 0) (nI 0) M = v_X12_share_90 (d + 13) 412 q0 (nI (k_mb K)) (nI 0) (nI 0) N ∧ q_eq [412, 419, 420, 429, 430] M N ∧ (∀ k, k < 42 → ir_I N 412 k = ir_I M 412 k) ∧ r_rl N K ∧ ∀ S, k_dif S (k_mb K) = 0 → ir_I N 430 S = W S := by
  have hk := h.2.1
  have hb := k_bds hk
  have hmb := k_mb_lt hk
  have L := q_up (σ := ir_M) (V := fun x t => v_X12_share_53 (d + 13) 412 q0 (nI (k_mb K)) (nI 0) (nI x) t) (N := k_mb K + 1) (I := fun x t => q_eq [412, 419, 420, 429, 430] M t ∧ (∀ k, k < 42 → ir_I t 412 k = ir_I M 412 k) ∧ ∀ S, S < x → k_dif S (k_mb K) = 0 → ir_I t 430 S = W S) (K := fun t => v_X12_share_90 (d + 13) 412 q0 (nI (k_mb K)) (nI 0) (nI 0) t) (by
    rintro x t hx ⟨hq, h4, ht⟩
    have rt := r_rl_eq h hq (by decide)
    have x256 : x < 256 := by omega
    have dl : k_dif x (k_mb K) < 256 := k_dif_lt x256
    by_cases q1 : k_dif x (k_mb K) = 0
    · have xn : r_xn K x [] t := ⟨rt, fun p hp => by rw [q_I_eq hq (by decide)]; exact hn p (by rw [← k_mb_bit hk]; exact k_dif_0.mp q1 p hp), fun i hi => absurd hi (by show ¬ i < 0; omega)⟩
      have hSn : ∀ p, x.testBit p = true → p < k_n K := fun p hp' => by
        obtain ⟨j, hj⟩ := k_set_m hk q1 hp'
        obtain ⟨h1, h2⟩ := k_pl_some hj
        have := k_qn hk h1
        omega
      obtain ⟨t1, v, e1, mv, f1⟩ := r_alone (d := d) x256 hSn xn
      rw [k_mxs_u mv (hW x x256 q1)] at e1
      have p1 := q_PI_eq f1.1 rt.1
      refine ⟨ir_sI t1 430 x (W x), ⟨(hq.tr (f1.1.sub (by decide))).tr (q_eq.sI (by decide)), fun k hk' => ?_, fun S hS hd => ?_⟩, ?_⟩
      · rw [q_I_n (by decide), f1.2 k hk']; exact h4 k hk'
      · rw [q_I_u]
        by_cases q : S = x
        · rw [if_pos q, q]
        · rw [if_neg q, q_I_eq f1.1 (by decide)]; exact ht S (by omega) hd
      · rw [L_X12_share_53]
        simp (disch := omega) only [q_ckt, q_lt, q_cI, q_cJ, q_cV, q_cP, q_xI, q_xV, q_xP, q_xJ, g_gk, g_ga, g_gw, g_gp, g_gq, g_P, g_J, q_I_s, q_I_n, q_I_k, nI_add, pk_sub, pk_mul, nI_clamp, n_lt0, n_0lt, n_eq0, n_lt, n_le, n_eq, n_m1, n_m2, n_m9, n_12, n_19, n_10, n_01, n_1n1, n_0n1, n_1n0, n_0n0, n_dI, n_m1lt, q_inb, n_nar, n_nar0, n_nar1, n_bool, Bool.false_eq_true, Bool.true_eq_false, if_true, if_false, ↓reduceIte, Nat.reduceAdd, Nat.reduceMul, Nat.reduceSub, Nat.reduceLT, Nat.reduceLeDiff, Nat.reduceEqDiff, Nat.reduceMod, Nat.reduceDiv, show ¬ k_mb K < x by omega, n_dif, q1, q_R rt.1, e1, q_R p1]
    · refine ⟨t, ⟨hq, h4, fun S hS hd => ?_⟩, ?_⟩
      · by_cases q : S = x
        · rw [q] at hd; exact absurd hd q1
        · exact ht S (by omega) hd
      · rw [L_X12_share_53]
        simp (disch := omega) only [q_ckt, q_lt, q_cI, q_cJ, q_cV, q_cP, q_xI, q_xV, q_xP, q_xJ, g_gk, g_ga, g_gw, g_gp, g_gq, g_P, g_J, q_I_s, q_I_n, q_I_k, nI_add, pk_sub, pk_mul, nI_clamp, n_lt0, n_0lt, n_eq0, n_lt, n_le, n_eq, n_m1, n_m2, n_m9, n_12, n_19, n_10, n_01, n_1n1, n_0n1, n_1n0, n_0n0, n_dI, n_m1lt, q_inb, n_nar, n_nar0, n_nar1, n_bool, Bool.false_eq_true, Bool.true_eq_false, if_true, if_false, ↓reduceIte, Nat.reduceAdd, Nat.reduceMul, Nat.reduceSub, Nat.reduceLT, Nat.reduceLeDiff, Nat.reduceEqDiff, Nat.reduceMod, Nat.reduceDiv, show ¬ k_mb K < x by omega, n_dif, q1]) (by
    rintro t ⟨hq, h4, ht⟩
    rw [L_X12_share_53]
    simp (disch := omega) only [q_ckt, q_lt, q_cI, q_cJ, q_cV, q_cP, q_xI, q_xV, q_xP, q_xJ, g_gk, g_ga, g_gw, g_gp, g_gq, g_P, g_J, q_I_s, q_I_n, q_I_k, nI_add, pk_sub, pk_mul, nI_clamp, n_lt0, n_0lt, n_eq0, n_lt, n_le, n_eq, n_m1, n_m2, n_m9, n_12, n_19, n_10, n_01, n_1n1, n_0n1, n_1n0, n_0n0, n_dI, n_m1lt, q_inb, n_nar, n_nar0, n_nar1, n_bool, Bool.false_eq_true, Bool.true_eq_false, if_true, if_false, ↓reduceIte, Nat.reduceAdd, Nat.reduceMul, Nat.reduceSub, Nat.reduceLT, Nat.reduceLeDiff, Nat.reduceEqDiff, Nat.reduceMod, Nat.reduceDiv, show k_mb K < k_mb K + 1 by omega]) (i := 0) (t := M) (by omega) ⟨q_eq.rf _ _, fun _ _ => rfl, fun S hS => absurd hS (by omega)⟩
  obtain ⟨N, ⟨a, b, c⟩, ee⟩ := L
  exact ⟨N, ee, a, b, r_rl_eq h a (by decide), fun S hd => c S (by have := k_dif_le hd; omega) hd⟩
end SHX
section SHT
variable {L : Nat} {xs : Nat → Int32}
theorem S_share (a : Int32) : q_St L xs (q_Iv L xs) (m_L_share 200 1 a 436) (m_X12_share 200 412 a) := by
  intro j M hIv
  refine q_St_1 (x := m_X11_share 199 1 a) (hd := fun e4 M5 => if e4 = 1 then ir_oI (nI 1) M5 else if e4 = 2 then ir_oI (nI 2) M5 else none) (fun M => E_L_share 199 1 a 436 M) ?_ hIv
  have hp := hIv.1
  have hX := hIv.2.1
  have hI := hIv.2.2.2.2
  have hc := c_I_c hp hI.1
  have hr := c_I_r hp hI.1
  generalize M.1 413 = K at hc hr
  have hk := hc.2.2.1
  have hb := k_bds hk
  have hmb := k_mb_lt hk
  by_cases ha : k_rng a (k_n K)
  rotate_left
  · refine Or.inr ⟨1, 1, by omega, by omega, ?_, fun _ => rfl, fun M' s => ⟨nI 0, _, ?_, q_st_4 s.1.1 (k := 4) (v := nI 1) rfl, rfl, q_I_s⟩⟩
    · rw [E_X11_share 198]
      simp (disch := omega) only [q_ckt, q_lt, q_cI, q_cJ, q_cV, q_cP, q_xI, q_xV, q_xP, q_xJ, g_gk, g_ga, g_gw, g_gp, g_gq, g_P, g_J, q_I_s, q_I_n, q_I_k, nI_add, pk_sub, pk_mul, nI_clamp, n_lt0, n_0lt, n_eq0, n_lt, n_le, n_eq, n_m1, n_m2, n_m9, n_12, n_19, n_10, n_01, n_1n1, n_0n1, n_1n0, n_0n0, n_dI, n_m1lt, q_inb, n_nar, n_nar0, n_nar1, n_bool, Bool.false_eq_true, Bool.true_eq_false, if_true, if_false, ↓reduceIte, Nat.reduceAdd, Nat.reduceMul, Nat.reduceSub, Nat.reduceLT, Nat.reduceLeDiff, Nat.reduceEqDiff, Nat.reduceMod, Nat.reduceDiv, q_W hp, c_np hc, ha]
    · have hr' := q_st_r s hr
      rw [E_X12_share 199]
      simp (disch := omega) only [q_ckt, q_lt, q_cI, q_cJ, q_cV, q_cP, q_xI, q_xV, q_xP, q_xJ, g_gk, g_ga, g_gw, g_gp, g_gq, g_P, g_J, q_I_s, q_I_n, q_I_k, nI_add, pk_sub, pk_mul, nI_clamp, n_lt0, n_0lt, n_eq0, n_lt, n_le, n_eq, n_m1, n_m2, n_m9, n_12, n_19, n_10, n_01, n_1n1, n_0n1, n_1n0, n_0n0, n_dI, n_m1lt, q_inb, n_nar, n_nar0, n_nar1, n_bool, Bool.false_eq_true, Bool.true_eq_false, if_true, if_false, ↓reduceIte, Nat.reduceAdd, Nat.reduceMul, Nat.reduceSub, Nat.reduceLT, Nat.reduceLeDiff, Nat.reduceEqDiff, Nat.reduceMod, Nat.reduceDiv, q_R hr'.1, r_bf0 hr' ha, L_X12_share_30]
  obtain ⟨p, hpn, rfl⟩ := k_rng_of ha (by omega)
  cases e : k_pl K p with
  | none =>
    refine Or.inr ⟨2, 2, by omega, by omega, ?_, fun _ => rfl, fun M' s => ⟨nI 0, _, ?_, q_st_4 s.1.1 (k := 4) (v := nI 2) rfl, rfl, q_I_s⟩⟩
    · rw [E_X11_share 198]
      simp (disch := omega) only [q_ckt, q_lt, q_cI, q_cJ, q_cV, q_cP, q_xI, q_xV, q_xP, q_xJ, g_gk, g_ga, g_gw, g_gp, g_gq, g_P, g_J, q_I_s, q_I_n, q_I_k, nI_add, pk_sub, pk_mul, nI_clamp, n_lt0, n_0lt, n_eq0, n_lt, n_le, n_eq, n_m1, n_m2, n_m9, n_12, n_19, n_10, n_01, n_1n1, n_0n1, n_1n0, n_0n0, n_dI, n_m1lt, q_inb, n_nar, n_nar0, n_nar1, n_bool, Bool.false_eq_true, Bool.true_eq_false, if_true, if_false, ↓reduceIte, Nat.reduceAdd, Nat.reduceMul, Nat.reduceSub, Nat.reduceLT, Nat.reduceLeDiff, Nat.reduceEqDiff, Nat.reduceMod, Nat.reduceDiv, q_W hp, c_np hc, ha, c_ns hc hpn, e]
    · have hr' := q_st_r s hr
      rw [E_X12_share 199]
      simp (disch := omega) only [q_ckt, q_lt, q_cI, q_cJ, q_cV, q_cP, q_xI, q_xV, q_xP, q_xJ, g_gk, g_ga, g_gw, g_gp, g_gq, g_P, g_J, q_I_s, q_I_n, q_I_k, nI_add, pk_sub, pk_mul, nI_clamp, n_lt0, n_0lt, n_eq0, n_lt, n_le, n_eq, n_m1, n_m2, n_m9, n_12, n_19, n_10, n_01, n_1n1, n_0n1, n_1n0, n_0n0, n_dI, n_m1lt, q_inb, n_nar, n_nar0, n_nar1, n_bool, Bool.false_eq_true, Bool.true_eq_false, if_true, if_false, ↓reduceIte, Nat.reduceAdd, Nat.reduceMul, Nat.reduceSub, Nat.reduceLT, Nat.reduceLeDiff, Nat.reduceEqDiff, Nat.reduceMod, Nat.reduceDiv, q_R hr'.1, r_bf1 hr' hpn, e, L_X12_share_30]
  | some jp =>
    have pb : (k_mb K).testBit p = true := by rw [k_mb_bit hk]; unfold k_mem; rw [e]; rfl
    by_cases h6 : k_m K ≤ 6
    · obtain ⟨M1, e1, s1, w1⟩ := c_wei (d := 187) hc hmb (k_dif_0.mpr fun i hi => hi) h6
      have hX1 : q_X L xs M1 := (q_Iv_X hIv s1.1).2
      have so := c_sho (d := 196) s1.1.1 hX1 hk h6 (show p < 8 by omega) pb
      refine Or.inl ⟨k_shr K (fun S => ir_I M1 130 S) p 256, ⟨M1, ?_, s1⟩, fun M' s => ?_⟩
      · rw [E_X11_share 198]
        simp (disch := omega) only [q_ckt, q_lt, q_cI, q_cJ, q_cV, q_cP, q_xI, q_xV, q_xP, q_xJ, g_gk, g_ga, g_gw, g_gp, g_gq, g_P, g_J, q_I_s, q_I_n, q_I_k, nI_add, pk_sub, pk_mul, nI_clamp, n_lt0, n_0lt, n_eq0, n_lt, n_le, n_eq, n_m1, n_m2, n_m9, n_12, n_19, n_10, n_01, n_1n1, n_0n1, n_1n0, n_0n0, n_dI, n_m1lt, q_inb, n_nar, n_nar0, n_nar1, n_bool, Bool.false_eq_true, Bool.true_eq_false, if_true, if_false, ↓reduceIte, Nat.reduceAdd, Nat.reduceMul, Nat.reduceSub, Nat.reduceLT, Nat.reduceLeDiff, Nat.reduceEqDiff, Nat.reduceMod, Nat.reduceDiv, q_W hp, c_np hc, ha, c_ns hc hpn, e, q_S hp (a := 12) (by decide), c_use hc, show ¬ 6 < k_m K by omega, c_mb hc, q_H hp, e1, q_W s1.1.1, q_H s1.1.1, so]
      · have hr' := q_st_r s hr
        have h4 := r_4 (v := nI 0) hr'
        obtain ⟨N1, f1, t1, a1⟩ := r_lnow (d := 193) h4
        have r1 := r_rl_eq h4 t1 (by decide)
        obtain ⟨N2, f2, t2, t3, r2, w2⟩ := r_sh53 (d := 186) (q0 := nI p) r1 a1 w1
        have f3 := r_sh90 (d := 192) r2 h6 (show p < 8 by omega) pb w2
        have z4 : ir_I N2 412 4 = nI 0 := by rw [t3 4 (by decide), q_I_eq t1 (by decide)]; exact q_I_s
        have e256 := k_shr_st (K := K) (W := fun S => ir_I M1 130 S) (p := p) (255 - k_mb K)
        rw [show k_mb K + 1 + (255 - k_mb K) = 256 by omega] at e256
        refine ⟨N2, ?_, ((q_st_4 hr'.1 rfl).tr (q_st_eq h4.1 t1 (by decide))).tr (q_st_412 r1.1 t2 (by decide) (fun k hk => t3 k (by have := q_l2_412 hk; omega))), by rw [t2.2, t1.2]; rfl, z4⟩
        rw [E_X12_share 199]
        simp (disch := omega) only [q_ckt, q_lt, q_cI, q_cJ, q_cV, q_cP, q_xI, q_xV, q_xP, q_xJ, g_gk, g_ga, g_gw, g_gp, g_gq, g_P, g_J, q_I_s, q_I_n, q_I_k, nI_add, pk_sub, pk_mul, nI_clamp, n_lt0, n_0lt, n_eq0, n_lt, n_le, n_eq, n_m1, n_m2, n_m9, n_12, n_19, n_10, n_01, n_1n1, n_0n1, n_1n0, n_0n0, n_dI, n_m1lt, q_inb, n_nar, n_nar0, n_nar1, n_bool, Bool.false_eq_true, Bool.true_eq_false, if_true, if_false, ↓reduceIte, Nat.reduceAdd, Nat.reduceMul, Nat.reduceSub, Nat.reduceLT, Nat.reduceLeDiff, Nat.reduceEqDiff, Nat.reduceMod, Nat.reduceDiv, q_R hr'.1, r_bf1 hr' hpn, e, r_qd h4, show ¬ 6 < k_m K by omega, L_X12_share_30, f1, q_R r1.1, r_mb r1]
        rw [f2, e256]
        exact f3
    · refine Or.inr ⟨2, 2, by omega, by omega, ?_, fun _ => rfl, fun M' s => ⟨nI 0, ir_sI (ir_sI M' 412 4 (nI 0)) 412 4 (nI 2), ?_, (q_st_4 s.1.1 (k := 4) rfl).tr (q_st_4 (M := ir_sI M' 412 4 (nI 0)) s.1.1 (k := 4) (v := nI 2) rfl), rfl, q_I_s⟩⟩
      · rw [E_X11_share 198]
        simp (disch := omega) only [q_ckt, q_lt, q_cI, q_cJ, q_cV, q_cP, q_xI, q_xV, q_xP, q_xJ, g_gk, g_ga, g_gw, g_gp, g_gq, g_P, g_J, q_I_s, q_I_n, q_I_k, nI_add, pk_sub, pk_mul, nI_clamp, n_lt0, n_0lt, n_eq0, n_lt, n_le, n_eq, n_m1, n_m2, n_m9, n_12, n_19, n_10, n_01, n_1n1, n_0n1, n_1n0, n_0n0, n_dI, n_m1lt, q_inb, n_nar, n_nar0, n_nar1, n_bool, Bool.false_eq_true, Bool.true_eq_false, if_true, if_false, ↓reduceIte, Nat.reduceAdd, Nat.reduceMul, Nat.reduceSub, Nat.reduceLT, Nat.reduceLeDiff, Nat.reduceEqDiff, Nat.reduceMod, Nat.reduceDiv, q_W hp, c_np hc, ha, c_ns hc hpn, e, q_S hp (a := 12) (by decide), c_use hc, show 6 < k_m K by omega]
      · have hr' := q_st_r s hr
        have h4 := r_4 (v := nI 0) hr'
        rw [E_X12_share 199]
        simp (disch := omega) only [q_ckt, q_lt, q_cI, q_cJ, q_cV, q_cP, q_xI, q_xV, q_xP, q_xJ, g_gk, g_ga, g_gw, g_gp, g_gq, g_P, g_J, q_I_s, q_I_n, q_I_k, nI_add, pk_sub, pk_mul, nI_clamp, n_lt0, n_0lt, n_eq0, n_lt, n_le, n_eq, n_m1, n_m2, n_m9, n_12, n_19, n_10, n_01, n_1n1, n_0n1, n_1n0, n_0n0, n_dI, n_m1lt, q_inb, n_nar, n_nar0, n_nar1, n_bool, Bool.false_eq_true, Bool.true_eq_false, if_true, if_false, ↓reduceIte, Nat.reduceAdd, Nat.reduceMul, Nat.reduceSub, Nat.reduceLT, Nat.reduceLeDiff, Nat.reduceEqDiff, Nat.reduceMod, Nat.reduceDiv, q_R hr'.1, r_bf1 hr' hpn, e, r_qd h4, show 6 < k_m K by omega, L_X12_share_30]
end SHT
