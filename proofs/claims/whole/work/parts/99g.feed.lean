/-! feed -/
theorem n_by (x : Int32) : ∃ b : Nat, b < 256 ∧ x &&& nI 255 = nI b ∧ x.toInt8.toInt32 = (nI b).toInt8.toInt32 := by
  refine ⟨x.toBitVec.toNat % 256, Nat.mod_lt _ (by decide), ?_, ?_⟩
  · apply n_bvI
    show x.toBitVec &&& BitVec.ofNat 32 255 = BitVec.ofNat 32 (x.toBitVec.toNat % 256)
    apply BitVec.eq_of_toNat_eq
    rw [BitVec.toNat_and, BitVec.toNat_ofNat, BitVec.toNat_ofNat]
    rw [show 255 % 2 ^ 32 = 2 ^ 8 - 1 by decide, Nat.and_two_pow_sub_one_eq_mod]
    have := Nat.mod_lt x.toBitVec.toNat (show 0 < 256 by decide)
    rw [Nat.mod_eq_of_lt (a := x.toBitVec.toNat % 256) (by omega)]
  · have : x.toInt8 = (nI (x.toBitVec.toNat % 256)).toInt8 := by
      apply Int8.toBitVec_inj.mp
      show x.toBitVec.signExtend 8 = (BitVec.ofNat 32 (x.toBitVec.toNat % 256)).signExtend 8
      apply BitVec.eq_of_getLsbD_eq
      intro i hi
      rw [BitVec.getLsbD_signExtend, BitVec.getLsbD_signExtend, if_pos (by omega), if_pos (by omega), BitVec.getLsbD_ofNat, show 256 = 2 ^ 8 from rfl, Nat.testBit_mod_two_pow, decide_eq_true hi, decide_eq_true (show i < 32 by omega), Bool.true_and, Bool.true_and, Bool.true_and, BitVec.testBit_toNat]
      rfl
    rw [this]
theorem q_b2 (x : Int32) : ir_bst (ir_kd 2) x = x.toInt8.toInt32 := rfl
theorem n_i8 (x : Int32) : x.toInt8.toInt32.toInt8 = x.toInt8 := by
  rw [Int8.toInt8_toInt32]
def k_ub (w : Int32) (r : Nat) : Int32 := (w.toUInt32 >>> ((nI (24 - 8 * r)).toUInt32 &&& Int32.toUInt32 31)).toInt32
def k_w5 (a b c d e : Int32) (j : Nat) : Int32 := if j < 4 then a else if j < 8 then b else if j < 12 then c else if j < 16 then d else e
def k_ux (a b c d e : Int32) (j : Nat) : Int32 := k_ub (k_w5 a b c d e j) (j % 4)
theorem n_k3 : ∀ k, k < 20 → nI 24 - nI 8 * (nI k &&& nI 3) = nI (24 - 8 * (k % 4)) := by decide +kernel
theorem n_8a : nI 24 + (-8 : Int32) = nI 16 := by decide +kernel
theorem n_8b : nI 16 + (-8 : Int32) = nI 8 := by decide +kernel
theorem n_8c : nI 8 + (-8 : Int32) = nI 0 := by decide +kernel
theorem n_8d : (nI 0 + (-8 : Int32) < 0) = True := eq_true (by decide +kernel)
/-- the class's tape, n bytes of X laid from tp on -/
def c_tp (M0 : ir_M) (X : Nat → Int32) (tp n : Nat) (M : ir_M) : Prop := M.2 = M0.2 ∧ (∀ a, a ≠ 1 → a ≠ 2 → M.1 a = M0.1 a) ∧ (∀ k, k ≠ 1 → ir_I M 1 k = ir_I M0 1 k) ∧ ir_I M 1 1 = nI (tp + n) ∧ ∀ k, ir_I M 2 k = if tp ≤ k ∧ k < tp + n then (X (k - tp)).toInt8.toInt32 else ir_I M0 2 k
section FD
variable {M0 M : ir_M} {X : Nat → Int32} {tp n d : Nat}
theorem c_p1 (hp : q_PI M0) (h : c_tp M0 X tp n M) (hn : tp + n < 900) {w : Int32} {sh : Nat} (hsh : sh < 32) (hx : X n = (w.toUInt32 >>> ((nI sh).toUInt32 &&& Int32.toUInt32 31)).toInt32) : ∃ M', v_X11_putOnTape_3 d 1 w (nI sh) M = v_X11_putOnTape_3 d 1 w (nI sh + (-8)) M' ∧ c_tp M0 X tp (n + 1) M' := by
  obtain ⟨h1, h2, h3, h4, h5⟩ := h
  have hpM := q_PI_o h1 hp
  refine ⟨ir_sI (ir_sI M 2 (tp + n) (X n).toInt8.toInt32) 1 1 (nI (tp + n + 1)), ?_, h1, fun a ha hb => ?_, fun k hk => ?_, q_I_s, fun k => ?_⟩
  · rw [L_X11_putOnTape_3]
    simp (disch := omega) only [q_ckt, q_lt, q_cI, q_cJ, q_cV, q_cP, q_xI, q_xV, q_xP, q_xJ, g_gk, g_ga, g_gw, g_gp, g_gq, g_P, g_J, q_I_s, q_I_n, q_I_k, nI_add, pk_sub, pk_mul, nI_clamp, n_lt0, n_0lt, n_eq0, n_lt, n_le, n_eq, n_m1, n_m2, n_m9, n_12, n_19, n_10, n_01, n_1n1, n_0n1, n_1n0, n_0n0, n_dI, n_m1lt, q_inb, n_nar, n_nar0, n_nar1, n_bool, Bool.false_eq_true, Bool.true_eq_false, if_true, if_false, ↓reduceIte, Nat.reduceAdd, Nat.reduceMul, Nat.reduceSub, Nat.reduceLT, Nat.reduceLeDiff, Nat.reduceEqDiff, Nat.reduceMod, Nat.reduceDiv, q_W hpM, h4, hn, Bool.true_or, q_b2, ← hx, n_i8]
  · exact (if_neg ha).trans ((if_neg hb).trans (h2 a ha hb))
  · rw [q_I_k hk, q_I_n (by decide)]
    exact h3 k hk
  · rw [q_I_n (by decide), q_I_u, h5]
    by_cases q : k = tp + n
    · rw [if_pos q, if_pos (by omega), show k - tp = n by omega]
    · rw [if_neg q]
      by_cases q2 : tp ≤ k ∧ k < tp + n
      · rw [if_pos q2, if_pos (by omega)]
      · rw [if_neg q2, if_neg (by omega)]
theorem c_pot (hp : q_PI M0) (h : c_tp M0 X tp n M) (hn : tp + n + 4 ≤ 900) {w : Int32} (hx : ∀ r, r < 4 → X (n + r) = k_ub w r) : ∃ M', m_X11_putOnTape (d + 1) 1 w M = ir_oV M' ∧ c_tp M0 X tp (n + 4) M' := by
  obtain ⟨M1, e1, h1⟩ := c_p1 (d := d) (w := w) (sh := 24) hp h (by omega) (by decide) (hx 0 (by decide))
  obtain ⟨M2, e2, h2⟩ := c_p1 (d := d) (w := w) (sh := 16) hp h1 (by omega) (by decide) (hx 1 (by decide))
  obtain ⟨M3, e3, h3⟩ := c_p1 (d := d) (w := w) (sh := 8) hp h2 (by omega) (by decide) (hx 2 (by decide))
  obtain ⟨M4, e4, h4⟩ := c_p1 (d := d) (w := w) (sh := 0) hp h3 (by omega) (by decide) (hx 3 (by decide))
  refine ⟨M4, ?_, h4⟩
  rw [E_X11_putOnTape, e1, n_8a, e2, n_8b, e3, n_8c, e4, L_X11_putOnTape_3]
  simp (disch := omega) only [q_ckt, q_lt, q_cI, q_cJ, q_cV, q_cP, q_xI, q_xV, q_xP, q_xJ, g_gk, g_ga, g_gw, g_gp, g_gq, g_P, g_J, q_I_s, q_I_n, q_I_k, nI_add, pk_sub, pk_mul, nI_clamp, n_lt0, n_0lt, n_eq0, n_lt, n_le, n_eq, n_m1, n_m2, n_m9, n_12, n_19, n_10, n_01, n_1n1, n_0n1, n_1n0, n_0n0, n_dI, n_m1lt, q_inb, n_nar, n_nar0, n_nar1, n_bool, Bool.false_eq_true, Bool.true_eq_false, if_true, if_false, ↓reduceIte, Nat.reduceAdd, Nat.reduceMul, Nat.reduceSub, Nat.reduceLT, Nat.reduceLeDiff, Nat.reduceEqDiff, Nat.reduceMod, Nat.reduceDiv, n_8d]
end FD
/-- the tape changes -/
def q_fp (M M' : ir_M) : Prop := q_go 0 M M' ∧ q_v1 M M' ∧ (∀ a k, q_l2 a k = true → a ≠ 2 → a ≠ 417 → ¬ (a = 1 ∧ k = 1) → ¬ (a = 412 ∧ k = 6) → M'.1 a k = M.1 a k) ∧ (∀ a, q_l2j a = true → M'.2.1 a = M.2.1 a) ∧ q_v3 M M'
theorem q_Iv_fp {L : Nat} {xs : Nat → Int32} {j : Nat} {M M' : ir_M} (hI : q_Iv L xs j M) (f : q_fp M M') (ht : ∃ tp : Nat, tp ≤ 900 ∧ ir_I M' 1 1 = nI tp ∧ ir_I M' 412 6 = nI tp ∧ ∀ k, k < tp → ∃ b : Nat, b < 256 ∧ ir_I M' 417 k = nI b ∧ ir_I M' 2 k = (nI b).toInt8.toInt32) : q_Iv L xs (j + 1) M' := by
  obtain ⟨g, v1, f2, f3, v3⟩ := f
  have hx := q_Iv_X hI g
  obtain ⟨-, -, h3, h4, h5, ⟨i1, i2, -, i4, i5⟩, h7⟩ := hI
  have F : ∀ a k, q_l2 a k = true → a ≠ 2 → a ≠ 417 → ¬ (a = 1 ∧ k = 1) → ¬ (a = 412 ∧ k = 6) → ir_I M' a k = ir_I M a k := f2
  refine ⟨hx.1, hx.2, by have := g.2.2.1; omega, by have := g.2.2.2; omega, c_I1_fr v1 h5, ⟨fun x hx => ?_, fun x hx => ?_, ht, ?_, ?_⟩, c_I3_fr v3 (v1 413 rfl) h7⟩
  · have e : k_im M' x = k_im M x := funext fun k => by
      unfold k_im
      rw [show M'.1 415 (1640 * x + k) = M.1 415 (1640 * x + k) from F 415 _ rfl (by omega) (by omega) (by omega) (by omega)]
    rw [e, F 98 x rfl (by omega) (by omega) (by omega) (by omega), F 416 x rfl (by omega) (by omega) (by omega) (by omega)]
    rcases i1 x hx with q | ⟨q1, q2, q3, q4⟩
    · exact Or.inl q
    · exact Or.inr ⟨q1, q2, q3, c_sc_fr (fun j hj h6 => funext fun k => F _ k (q_l2_of (by omega)) (by omega) (by omega) (by omega) (by omega)) q4⟩
  · have fa : ∀ k, ir_I M' (404 + 2 * x) k = ir_I M (404 + 2 * x) k := fun k => F _ k (q_l2_of (by omega)) (by omega) (by omega) (by omega) (by omega)
    have fb : ∀ k, ir_I M' 433 k = ir_I M 433 k := fun k => F _ k rfl (by omega) (by omega) (by omega) (by omega)
    have fc : ∀ k, ir_I M' 434 k = ir_I M 434 k := fun k => F _ k rfl (by omega) (by omega) (by omega) (by omega)
    have fd : ∀ k, ir_J M' (405 + 2 * x) k = ir_J M (405 + 2 * x) k := fun k => congrFun (f3 _ (q_4 hx).2.2) k
    have fe : ∀ k, ir_J M' 435 k = ir_J M 435 k := fun k => congrFun (f3 435 rfl) k
    have := i2 x hx
    unfold c_ty at this ⊢
    simp only [fa, fb, fc, fd, fe]
    exact this
  · rw [F 1 2 rfl (by omega) (by omega) (by omega) (by omega), F 412 14 rfl (by omega) (by omega) (by omega) (by omega)]
    exact i4
  · refine ⟨?_, fun k hk => (F 115 k rfl (by omega) (by omega) (by omega) (by omega)).trans (i5.2 k hk)⟩
    rw [F 1 3 rfl (by omega) (by omega) (by omega) (by omega), F 412 15 rfl (by omega) (by omega) (by omega) (by omega)]
    exact i5.1
section FE
variable {L : Nat} {xs : Nat → Int32}
theorem S_feed (a b c d e : Int32) : q_Sp L xs (q_Iv L xs) (m_X11_feed 200 1 a b c d e) (m_X12_feed 200 412 a b c d e) := by
  intro j M hI
  have hp := hI.1
  obtain ⟨tp, t9, tc, tr, tb⟩ := hI.2.2.2.2.2.1.2.2.1
  by_cases h20 : tp + 20 ≤ 900
  · have c0 : c_tp M (k_ux a b c d e) tp 0 M := ⟨rfl, fun _ _ _ => rfl, fun _ _ => rfl, tc, fun k => by rw [if_neg (by omega)]⟩
    obtain ⟨M1, e1, h1⟩ := c_pot (d := 198) (w := a) hp c0 (by omega) (fun r hr => by
      unfold k_ux k_w5
      rw [if_pos (by omega), show (0 + r) % 4 = r by omega])
    obtain ⟨M2, e2, h2⟩ := c_pot (d := 198) (w := b) hp h1 (by omega) (fun r hr => by
      unfold k_ux k_w5
      rw [if_neg (by omega), if_pos (by omega), show (0 + 4 + r) % 4 = r by omega])
    obtain ⟨M3, e3, h3⟩ := c_pot (d := 198) (w := c) hp h2 (by omega) (fun r hr => by
      unfold k_ux k_w5
      rw [if_neg (by omega), if_neg (by omega), if_pos (by omega), show (0 + 4 + 4 + r) % 4 = r by omega])
    obtain ⟨M4, e4, h4⟩ := c_pot (d := 198) (w := d) hp h3 (by omega) (fun r hr => by
      unfold k_ux k_w5
      rw [if_neg (by omega), if_neg (by omega), if_neg (by omega), if_pos (by omega), show (0 + 4 + 4 + 4 + r) % 4 = r by omega])
    obtain ⟨M5, e5, h5⟩ := c_pot (d := 198) (w := e) hp h4 (by omega) (fun r hr => by
      unfold k_ux k_w5
      rw [if_neg (by omega), if_neg (by omega), if_neg (by omega), if_neg (by omega), show (0 + 4 + 4 + 4 + 4 + r) % 4 = r by omega])
    have p1 := q_PI_o h1.1 hp
    have p2 := q_PI_o h2.1 hp
    have p3 := q_PI_o h3.1 hp
    have p4 := q_PI_o h4.1 hp
    have p5 := q_PI_o h5.1 hp
    obtain ⟨g1, g2, g3, g4, g5⟩ := h5
    have ec : m_X11_feed 200 1 a b c d e M = ir_oI (nI (tp + 20)) M5 := by
      rw [E_X11_feed 199]
      simp (disch := omega) only [q_ckt, q_lt, q_cI, q_cJ, q_cV, q_cP, q_xI, q_xV, q_xP, q_xJ, g_gk, g_ga, g_gw, g_gp, g_gq, g_P, g_J, q_I_s, q_I_n, q_I_k, nI_add, pk_sub, pk_mul, nI_clamp, n_lt0, n_0lt, n_eq0, n_lt, n_le, n_eq, n_m1, n_m2, n_m9, n_12, n_19, n_10, n_01, n_1n1, n_0n1, n_1n0, n_0n0, n_dI, n_m1lt, q_inb, n_nar, n_nar0, n_nar1, n_bool, Bool.false_eq_true, Bool.true_eq_false, if_true, if_false, ↓reduceIte, Nat.reduceAdd, Nat.reduceMul, Nat.reduceSub, Nat.reduceLT, Nat.reduceLeDiff, Nat.reduceEqDiff, Nat.reduceMod, Nat.reduceDiv, q_W hp, tc, show ¬ 900 < tp + 20 by omega, e1, q_W p1, e2, q_W p2, e3, q_W p3, e4, q_W p4, e5, q_W p5, g4]
    obtain ⟨N, eN⟩ : ∃ N, N = ir_sI M5 412 4 (nI 0) := ⟨_, rfl⟩
    have hpN : q_PI N := by rw [eN]; exact p5
    have tr5 : ir_I M5 412 6 = nI tp := (congrFun (g2 412 (by decide) (by decide)) 6).trans tr
    have Lp := q_up (σ := ir_M) (V := fun x t => v_X12_feed_23 199 412 a b c d e (nI x) t) (N := 20) (I := fun x t => t.2 = N.2 ∧ (∀ y, y ≠ 412 → y ≠ 417 → t.1 y = N.1 y) ∧ (∀ k, k ≠ 6 → ir_I t 412 k = ir_I N 412 k) ∧ ir_I t 412 6 = nI (tp + x) ∧ ∀ k, ir_I t 417 k = if tp ≤ k ∧ k < tp + x then k_ux a b c d e (k - tp) &&& nI 255 else ir_I N 417 k) (K := fun t => ir_oI (nI (tp + 20)) t) (by
      rintro x t hx ⟨h1, h2, h3, h4, h5⟩
      have hpt := q_PI_o h1 hpN
      have nk := n_k3 x hx
      have st : v_X12_feed_23 199 412 a b c d e (nI x) t = v_X12_feed_76 199 412 a b c d e (nI x) (k_w5 a b c d e x) t := by
        rw [L_X12_feed_23]
        unfold k_w5
        by_cases q1 : x < 4
        · simp (disch := omega) only [q_ckt, q_lt, q_cI, q_cJ, q_cV, q_cP, q_xI, q_xV, q_xP, q_xJ, g_gk, g_ga, g_gw, g_gp, g_gq, g_P, g_J, q_I_s, q_I_n, q_I_k, nI_add, pk_sub, pk_mul, nI_clamp, n_lt0, n_0lt, n_eq0, n_lt, n_le, n_eq, n_m1, n_m2, n_m9, n_12, n_19, n_10, n_01, n_1n1, n_0n1, n_1n0, n_0n0, n_dI, n_m1lt, q_inb, n_nar, n_nar0, n_nar1, n_bool, Bool.false_eq_true, Bool.true_eq_false, if_true, if_false, ↓reduceIte, Nat.reduceAdd, Nat.reduceMul, Nat.reduceSub, Nat.reduceLT, Nat.reduceLeDiff, Nat.reduceEqDiff, Nat.reduceMod, Nat.reduceDiv, hx, q1]
        · by_cases q2 : x < 8
          · simp (disch := omega) only [q_ckt, q_lt, q_cI, q_cJ, q_cV, q_cP, q_xI, q_xV, q_xP, q_xJ, g_gk, g_ga, g_gw, g_gp, g_gq, g_P, g_J, q_I_s, q_I_n, q_I_k, nI_add, pk_sub, pk_mul, nI_clamp, n_lt0, n_0lt, n_eq0, n_lt, n_le, n_eq, n_m1, n_m2, n_m9, n_12, n_19, n_10, n_01, n_1n1, n_0n1, n_1n0, n_0n0, n_dI, n_m1lt, q_inb, n_nar, n_nar0, n_nar1, n_bool, Bool.false_eq_true, Bool.true_eq_false, if_true, if_false, ↓reduceIte, Nat.reduceAdd, Nat.reduceMul, Nat.reduceSub, Nat.reduceLT, Nat.reduceLeDiff, Nat.reduceEqDiff, Nat.reduceMod, Nat.reduceDiv, hx, q1, q2]
          · by_cases q3 : x < 12
            · simp (disch := omega) only [q_ckt, q_lt, q_cI, q_cJ, q_cV, q_cP, q_xI, q_xV, q_xP, q_xJ, g_gk, g_ga, g_gw, g_gp, g_gq, g_P, g_J, q_I_s, q_I_n, q_I_k, nI_add, pk_sub, pk_mul, nI_clamp, n_lt0, n_0lt, n_eq0, n_lt, n_le, n_eq, n_m1, n_m2, n_m9, n_12, n_19, n_10, n_01, n_1n1, n_0n1, n_1n0, n_0n0, n_dI, n_m1lt, q_inb, n_nar, n_nar0, n_nar1, n_bool, Bool.false_eq_true, Bool.true_eq_false, if_true, if_false, ↓reduceIte, Nat.reduceAdd, Nat.reduceMul, Nat.reduceSub, Nat.reduceLT, Nat.reduceLeDiff, Nat.reduceEqDiff, Nat.reduceMod, Nat.reduceDiv, hx, q1, q2, q3]
            · by_cases q4 : x < 16
              · simp (disch := omega) only [q_ckt, q_lt, q_cI, q_cJ, q_cV, q_cP, q_xI, q_xV, q_xP, q_xJ, g_gk, g_ga, g_gw, g_gp, g_gq, g_P, g_J, q_I_s, q_I_n, q_I_k, nI_add, pk_sub, pk_mul, nI_clamp, n_lt0, n_0lt, n_eq0, n_lt, n_le, n_eq, n_m1, n_m2, n_m9, n_12, n_19, n_10, n_01, n_1n1, n_0n1, n_1n0, n_0n0, n_dI, n_m1lt, q_inb, n_nar, n_nar0, n_nar1, n_bool, Bool.false_eq_true, Bool.true_eq_false, if_true, if_false, ↓reduceIte, Nat.reduceAdd, Nat.reduceMul, Nat.reduceSub, Nat.reduceLT, Nat.reduceLeDiff, Nat.reduceEqDiff, Nat.reduceMod, Nat.reduceDiv, hx, q1, q2, q3, q4]
              · simp (disch := omega) only [q_ckt, q_lt, q_cI, q_cJ, q_cV, q_cP, q_xI, q_xV, q_xP, q_xJ, g_gk, g_ga, g_gw, g_gp, g_gq, g_P, g_J, q_I_s, q_I_n, q_I_k, nI_add, pk_sub, pk_mul, nI_clamp, n_lt0, n_0lt, n_eq0, n_lt, n_le, n_eq, n_m1, n_m2, n_m9, n_12, n_19, n_10, n_01, n_1n1, n_0n1, n_1n0, n_0n0, n_dI, n_m1lt, q_inb, n_nar, n_nar0, n_nar1, n_bool, Bool.false_eq_true, Bool.true_eq_false, if_true, if_false, ↓reduceIte, Nat.reduceAdd, Nat.reduceMul, Nat.reduceSub, Nat.reduceLT, Nat.reduceLeDiff, Nat.reduceEqDiff, Nat.reduceMod, Nat.reduceDiv, hx, q1, q2, q3, q4]
      refine ⟨ir_sI (ir_sI t 417 (tp + x) (k_ux a b c d e x &&& nI 255)) 412 6 (nI (tp + x + 1)), ⟨h1, fun y hy hz => ?_, fun k hk => ?_, q_I_s, fun k => ?_⟩, ?_⟩
      · exact (if_neg hy).trans ((if_neg hz).trans (h2 y hy hz))
      · rw [q_I_k hk, q_I_n (by decide)]
        exact h3 k hk
      · rw [q_I_n (by decide), q_I_u, h5]
        by_cases q : k = tp + x
        · rw [if_pos q, if_pos (by omega), show k - tp = x by omega]
        · rw [if_neg q]
          by_cases q2 : tp ≤ k ∧ k < tp + x
          · rw [if_pos q2, if_pos (by omega)]
          · rw [if_neg q2, if_neg (by omega)]
      · rw [st, L_X12_feed_76, nk]
        simp (disch := omega) only [q_ckt, q_lt, q_cI, q_cJ, q_cV, q_cP, q_xI, q_xV, q_xP, q_xJ, g_gk, g_ga, g_gw, g_gp, g_gq, g_P, g_J, q_I_s, q_I_n, q_I_k, nI_add, pk_sub, pk_mul, nI_clamp, n_lt0, n_0lt, n_eq0, n_lt, n_le, n_eq, n_m1, n_m2, n_m9, n_12, n_19, n_10, n_01, n_1n1, n_0n1, n_1n0, n_0n0, n_dI, n_m1lt, q_inb, n_nar, n_nar0, n_nar1, n_bool, Bool.false_eq_true, Bool.true_eq_false, if_true, if_false, ↓reduceIte, Nat.reduceAdd, Nat.reduceMul, Nat.reduceSub, Nat.reduceLT, Nat.reduceLeDiff, Nat.reduceEqDiff, Nat.reduceMod, Nat.reduceDiv, q_R hpt, h4]
        rfl) (by
      rintro t ⟨h1, h2, h3, h4, h5⟩
      have hpt := q_PI_o h1 hpN
      rw [L_X12_feed_23]
      simp (disch := omega) only [q_ckt, q_lt, q_cI, q_cJ, q_cV, q_cP, q_xI, q_xV, q_xP, q_xJ, g_gk, g_ga, g_gw, g_gp, g_gq, g_P, g_J, q_I_s, q_I_n, q_I_k, nI_add, pk_sub, pk_mul, nI_clamp, n_lt0, n_0lt, n_eq0, n_lt, n_le, n_eq, n_m1, n_m2, n_m9, n_12, n_19, n_10, n_01, n_1n1, n_0n1, n_1n0, n_0n0, n_dI, n_m1lt, q_inb, n_nar, n_nar0, n_nar1, n_bool, Bool.false_eq_true, Bool.true_eq_false, if_true, if_false, ↓reduceIte, Nat.reduceAdd, Nat.reduceMul, Nat.reduceSub, Nat.reduceLT, Nat.reduceLeDiff, Nat.reduceEqDiff, Nat.reduceMod, Nat.reduceDiv, q_R hpt, h4]) (i := 0) (t := N) (by omega) ⟨rfl, fun _ _ _ => rfl, fun _ _ => rfl, by rw [eN, q_I_k (by decide)]; exact tr5, fun k => by rw [if_neg (by omega)]⟩
    obtain ⟨M6, ⟨k1, k2, k3, k4, k5⟩, e6⟩ := Lp
    have er : m_X12_feed 200 412 a b c d e M5 = ir_oI (nI (tp + 20)) M6 := by
      rw [E_X12_feed 199]
      simp (disch := omega) only [q_ckt, q_lt, q_cI, q_cJ, q_cV, q_cP, q_xI, q_xV, q_xP, q_xJ, g_gk, g_ga, g_gw, g_gp, g_gq, g_P, g_J, q_I_s, q_I_n, q_I_k, nI_add, pk_sub, pk_mul, nI_clamp, n_lt0, n_0lt, n_eq0, n_lt, n_le, n_eq, n_m1, n_m2, n_m9, n_12, n_19, n_10, n_01, n_1n1, n_0n1, n_1n0, n_0n0, n_dI, n_m1lt, q_inb, n_nar, n_nar0, n_nar1, n_bool, Bool.false_eq_true, Bool.true_eq_false, if_true, if_false, ↓reduceIte, Nat.reduceAdd, Nat.reduceMul, Nat.reduceSub, Nat.reduceLT, Nat.reduceLeDiff, Nat.reduceEqDiff, Nat.reduceMod, Nat.reduceDiv, q_R p5, tr5, show ¬ 900 < tp + 20 by omega]
      rw [← eN]
      exact e6
    have m6 : M6.2 = M.2 := by rw [k1, eN]; exact g1
    have fr : ∀ y, y ≠ 1 → y ≠ 2 → y ≠ 412 → y ≠ 417 → M6.1 y = M.1 y := fun y h1 h2 h3 h4 => by
      rw [k2 y h3 h4, eN]
      exact (if_neg h3).trans (g2 y h1 h2)
    have fp : q_fp M M6 := by
      refine ⟨q_go_2 hp m6 (fun y hy => fr y (by omega) (by omega) (by omega) (by omega)), fun y hy => ?_, fun y k hy h1 h2 h3 h4 => ?_, fun y _ => by rw [m6], fun y k hy => ?_⟩
      · exact fr y (fun q => by rw [q] at hy; exact nomatch hy) (fun q => by rw [q] at hy; exact nomatch hy) (fun q => by rw [q] at hy; exact nomatch hy) (fun q => by rw [q] at hy; exact nomatch hy)
      · by_cases q1 : y = 1
        · subst q1
          have : ir_I M6 1 k = ir_I M 1 k := by
            show M6.1 1 k = M.1 1 k
            rw [k2 1 (by decide) (by decide), eN]
            exact (q_I_n (M := M5) (a := 412) (b := 1) (by decide)).trans (g3 k (by omega))
          exact this
        · by_cases q2 : y = 412
          · subst q2
            have : ir_I M6 412 k = ir_I M 412 k := by
              rw [k3 k (by omega), eN, q_I_k (fun q => by rw [q] at hy; exact nomatch hy)]
              exact congrFun (g2 412 (by decide) (by decide)) k
            exact this
          · exact congrFun (fr y q1 h1 q2 h2) k
      · exact congrFun (fr y (fun q => by rw [q] at hy; exact nomatch hy) (fun q => by rw [q] at hy; exact nomatch hy) (fun q => by rw [q] at hy; exact nomatch hy) (fun q => by rw [q] at hy; exact nomatch hy)) k
    have gX := q_Iv_X hI (q_go_2 hp g1 (fun y hy => g2 y (by omega) (by omega)))
    refine ⟨nI (tp + 20), M5, M6, ec, gX.1, gX.2, er, q_Iv_fp hI fp ⟨tp + 20, h20, ?_, k4, fun k hk => ?_⟩⟩
    · show M6.1 1 1 = _
      rw [k2 1 (by decide) (by decide), eN]
      exact (q_I_n (M := M5) (a := 412) (b := 1) (by decide)).trans g4
    · have z2 : ir_I M6 2 k = ir_I M5 2 k := by
        show M6.1 2 k = _
        rw [k2 2 (by decide) (by decide), eN]
        exact q_I_n (M := M5) (a := 412) (b := 2) (by decide)
      rw [z2, g5, k5]
      by_cases q : tp ≤ k
      · rw [if_pos (by omega), if_pos (by omega)]
        obtain ⟨y, y1, y2, y3⟩ := n_by (k_ux a b c d e (k - tp))
        exact ⟨y, y1, y2, y3⟩
      · rw [if_neg (by omega), if_neg (by omega), eN, q_I_n (by decide)]
        obtain ⟨y, y1, y2, y3⟩ := tb k (by omega)
        exact ⟨y, y1, (congrFun (g2 417 (by decide) (by decide)) k).trans y2, y3⟩
  · have s := q_st_4 hp (k := 4) (v := nI 0) rfl
    refine ⟨-1, M, ir_sI M 412 4 (nI 0), ?_, hp, hI.2.1, ?_, q_Iv_st hI s (by omega)⟩
    · rw [E_X11_feed 199]
      simp (disch := omega) only [q_ckt, q_lt, q_cI, q_cJ, q_cV, q_cP, q_xI, q_xV, q_xP, q_xJ, g_gk, g_ga, g_gw, g_gp, g_gq, g_P, g_J, q_I_s, q_I_n, q_I_k, nI_add, pk_sub, pk_mul, nI_clamp, n_lt0, n_0lt, n_eq0, n_lt, n_le, n_eq, n_m1, n_m2, n_m9, n_12, n_19, n_10, n_01, n_1n1, n_0n1, n_1n0, n_0n0, n_dI, n_m1lt, q_inb, n_nar, n_nar0, n_nar1, n_bool, Bool.false_eq_true, Bool.true_eq_false, if_true, if_false, ↓reduceIte, Nat.reduceAdd, Nat.reduceMul, Nat.reduceSub, Nat.reduceLT, Nat.reduceLeDiff, Nat.reduceEqDiff, Nat.reduceMod, Nat.reduceDiv, q_W hp, tc, show 900 < tp + 20 by omega]
    · rw [E_X12_feed 199]
      simp (disch := omega) only [q_ckt, q_lt, q_cI, q_cJ, q_cV, q_cP, q_xI, q_xV, q_xP, q_xJ, g_gk, g_ga, g_gw, g_gp, g_gq, g_P, g_J, q_I_s, q_I_n, q_I_k, nI_add, pk_sub, pk_mul, nI_clamp, n_lt0, n_0lt, n_eq0, n_lt, n_le, n_eq, n_m1, n_m2, n_m9, n_12, n_19, n_10, n_01, n_1n1, n_0n1, n_1n0, n_0n0, n_dI, n_m1lt, q_inb, n_nar, n_nar0, n_nar1, n_bool, Bool.false_eq_true, Bool.true_eq_false, if_true, if_false, ↓reduceIte, Nat.reduceAdd, Nat.reduceMul, Nat.reduceSub, Nat.reduceLT, Nat.reduceLeDiff, Nat.reduceEqDiff, Nat.reduceMod, Nat.reduceDiv, q_R hp, tr, show 900 < tp + 20 by omega]
end FE
