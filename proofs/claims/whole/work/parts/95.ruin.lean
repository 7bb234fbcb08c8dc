/-! ruins, both sides -/
def k_pd2 (K : Nat → Int32) (S : Nat) (d : Nat) : Bool := decide (k_dif S (k_mb (k_dyn d K)) ≠ 0)
def k_aw (K : Nat → Int32) (S : Nat) : Option Nat := if 0 < K 4 then k_fd (k_pd2 K S) 99 0 else none
def k_mp (K : Nat → Int32) (p d : Nat) : Bool := k_mem (k_dyn d K) p
theorem k_mp_an {K : Nat → Int32} (hk : k_ok K) (p : Nat) : ∀ d, k_mp K p (d + 1) = true → k_mp K p d = true := fun d h => k_day_mem (k_dyn_ok hk d) h
theorem n_adds {a b : Int32} : a + b - a = b := by rw [Int32.add_comm, Int32.add_sub_cancel]
theorem k_dif_p {p b : Nat} : k_dif (2 ^ p) b = 0 ↔ b.testBit p = true := by
  rw [k_dif_0]
  constructor
  · intro h
    exact h p (by rw [Nat.testBit_two_pow]; exact decide_eq_true rfl)
  · intro h i hi
    rw [Nat.testBit_two_pow] at hi
    rw [← of_decide_eq_true hi]
    exact h
theorem k_mp_0 {K : Nat → Int32} (hk : k_ok K) (h4 : ¬ 0 < K 4) {p : Nat} (hm : k_mem K p = true) : ∀ d, k_mp K p d = true
  | 0 => hm
  | d + 1 => k_day_mem0 (k_dyn_ok hk d) (by rw [k_dyn_o hk (by omega)]; exact h4) (k_mp_0 hk h4 hm d)
theorem k_aw_rd {K : Nat → Int32} (hk : k_ok K) {p : Nat} (hm : k_mem K p = true) : k_rdm (k_mp K p) 99 = match k_aw K (2 ^ p) with | some x => nI x | none => -1 := by
  unfold k_aw
  by_cases h4 : 0 < K 4
  · rw [if_pos h4]
    have e : k_pd2 K (2 ^ p) = fun d => !k_mp K p d := funext fun d => by
      unfold k_pd2 k_mp
      rw [← k_mb_bit (k_dyn_ok hk d)]
      have := k_dif_p (p := p) (b := k_mb (k_dyn d K))
      cases e : (k_mb (k_dyn d K)).testBit p
      · rw [e] at this
        exact decide_eq_true (fun q => by have := this.mp q; exact nomatch this)
      · rw [e] at this
        exact decide_eq_false (fun q => q (this.mpr rfl))
    rw [e]
    have := k_rdC (k_mp_an hk p) (r := 99) (i := 0) hm
    rw [Nat.zero_add] at this
    exact this
  · rw [if_neg h4]
    exact k_rdB (k_mp_an hk p) (k_mp_0 hk h4 hm 99)
section RU
variable {K : Nat → Int32} {d : Nat}
theorem c_await1 (hk : k_ok K) (h4 : 0 < K 4) {S : Nat} (hS : S < 256) : ∀ (r i : Nat) {M : ir_M}, c_rl M 91 (k_dyn i K) → i + r = 99 → ∃ M', v_X11_awaitRuin_13 (d + 5) 1 (nI S) (nI i) M = ir_oI (match k_fd (k_pd2 K S) r i with | some _ => nI 1 | none => nI 0) M' ∧ q_eq [91, 92, 93, 94, 95, 96, 9, 117, 118, 120] M M' ∧ (match k_fd (k_pd2 K S) r i with | some x => c_rl M' 91 (k_dyn x K) | none => True)
  | 0, i, M, h, hi => by
    have e4 : 0 < ir_I M 4 5 := by rw [(c_use h).2.2.2.2.1, k_dyn_o hk (by omega)]; exact h4
    refine ⟨M, ?_, q_eq.rf _ _, trivial⟩
    rw [L_X11_awaitRuin_13]
    simp (disch := omega) only [q_ckt, q_lt, q_cI, q_cJ, q_cV, q_cP, q_xI, q_xV, q_xP, q_xJ, g_gk, g_ga, g_gw, g_gp, g_gq, g_P, g_J, q_I_s, q_I_n, q_I_k, nI_add, pk_sub, pk_mul, nI_clamp, n_lt0, n_0lt, n_eq0, n_lt, n_le, n_eq, n_m1, n_m2, n_m9, n_12, n_19, n_10, n_01, n_1n1, n_0n1, n_1n0, n_0n0, n_dI, n_m1lt, q_inb, n_nar, n_nar0, n_nar1, n_bool, Bool.false_eq_true, Bool.true_eq_false, if_true, if_false, ↓reduceIte, Nat.reduceAdd, Nat.reduceMul, Nat.reduceSub, Nat.reduceLT, Nat.reduceLeDiff, Nat.reduceEqDiff, Nat.reduceMod, Nat.reduceDiv, q_W h.1, q_T h.1, e4, show ¬ i < 99 by omega, k_fd]
  | r + 1, i, M, h, hi => by
    have e4 : 0 < ir_I M 4 5 := by rw [(c_use h).2.2.2.2.1, k_dyn_o hk (by omega)]; exact h4
    obtain ⟨M1, e1, q1, c1⟩ := c_day (d := d) h
    have c1' : c_rl M1 91 (k_dyn (i + 1) K) := c1
    have hd : k_dif S (k_mb (k_dyn (i + 1) K)) < 256 := k_dif_lt hS
    have mb := c_mb (d := d + 4) c1'
    have q1' : q_eq [91, 92, 93, 94, 95, 96, 9, 117, 118, 120] M M1 := q1.sub (by decide)
    unfold k_fd
    by_cases q : k_dif S (k_mb (k_dyn (i + 1) K)) = 0
    · rw [if_neg (show ¬ k_pd2 K S (i + 1) = true from fun w => of_decide_eq_true w q)]
      obtain ⟨M2, e2, q2, c2⟩ := c_await1 hk h4 hS r (i + 1) c1' (by omega)
      refine ⟨M2, ?_, q1'.tr q2, c2⟩
      rw [L_X11_awaitRuin_13]
      simp (disch := omega) only [q_ckt, q_lt, q_cI, q_cJ, q_cV, q_cP, q_xI, q_xV, q_xP, q_xJ, g_gk, g_ga, g_gw, g_gp, g_gq, g_P, g_J, q_I_s, q_I_n, q_I_k, nI_add, pk_sub, pk_mul, nI_clamp, n_lt0, n_0lt, n_eq0, n_lt, n_le, n_eq, n_m1, n_m2, n_m9, n_12, n_19, n_10, n_01, n_1n1, n_0n1, n_1n0, n_0n0, n_dI, n_m1lt, q_inb, n_nar, n_nar0, n_nar1, n_bool, Bool.false_eq_true, Bool.true_eq_false, if_true, if_false, ↓reduceIte, Nat.reduceAdd, Nat.reduceMul, Nat.reduceSub, Nat.reduceLT, Nat.reduceLeDiff, Nat.reduceEqDiff, Nat.reduceMod, Nat.reduceDiv, q_W h.1, q_T h.1, q_F h.1, e4, show i < 99 by omega, e1, q_W c1.1, q_S c1.1 (a := 91) (by decide), mb, n_dif, q]
      exact e2
    · rw [if_pos (show k_pd2 K S (i + 1) = true from decide_eq_true q)]
      refine ⟨M1, ?_, q1', c1'⟩
      rw [L_X11_awaitRuin_13]
      simp (disch := omega) only [q_ckt, q_lt, q_cI, q_cJ, q_cV, q_cP, q_xI, q_xV, q_xP, q_xJ, g_gk, g_ga, g_gw, g_gp, g_gq, g_P, g_J, q_I_s, q_I_n, q_I_k, nI_add, pk_sub, pk_mul, nI_clamp, n_lt0, n_0lt, n_eq0, n_lt, n_le, n_eq, n_m1, n_m2, n_m9, n_12, n_19, n_10, n_01, n_1n1, n_0n1, n_1n0, n_0n0, n_dI, n_m1lt, q_inb, n_nar, n_nar0, n_nar1, n_bool, Bool.false_eq_true, Bool.true_eq_false, if_true, if_false, ↓reduceIte, Nat.reduceAdd, Nat.reduceMul, Nat.reduceSub, Nat.reduceLT, Nat.reduceLeDiff, Nat.reduceEqDiff, Nat.reduceMod, Nat.reduceDiv, q_W h.1, q_T h.1, q_F h.1, e4, show i < 99 by omega, e1, q_W c1.1, q_S c1.1 (a := 91) (by decide), mb, n_dif, q]
theorem c_await {M : ir_M} (h : c_rl M 12 K) {S : Nat} (hS : S < 256) : ∃ M', m_X11_awaitRuin (d + 6) 1 (nI S) M = ir_oI (match k_aw K S with | some _ => nI 1 | none => nI 0) M' ∧ q_eq [91, 92, 93, 94, 95, 96, 9, 117, 118, 120] M M' ∧ (match k_aw K S with | some x => c_rl M' 91 (k_dyn x K) | none => True) := by
  have hk := h.2.2.1
  obtain ⟨M1, e1, q1, c1, r1⟩ := c_trial (d := d + 4) h
  have q1' : q_eq [91, 92, 93, 94, 95, 96, 9, 117, 118, 120] M M1 := q1.sub (by decide)
  unfold k_aw
  by_cases h4 : 0 < K 4
  · rw [if_pos h4]
    obtain ⟨M2, e2, q2, c2⟩ := c_await1 (d := d) hk h4 hS 99 0 (M := M1) r1 (by omega)
    refine ⟨M2, ?_, q1'.tr q2, c2⟩
    rw [E_X11_awaitRuin]
    simp (disch := omega) only [q_ckt, q_lt, q_cI, q_cJ, q_cV, q_cP, q_xI, q_xV, q_xP, q_xJ, g_gk, g_ga, g_gw, g_gp, g_gq, g_P, g_J, q_I_s, q_I_n, q_I_k, nI_add, pk_sub, pk_mul, nI_clamp, n_lt0, n_0lt, n_eq0, n_lt, n_le, n_eq, n_m1, n_m2, n_m9, n_12, n_19, n_10, n_01, n_1n1, n_0n1, n_1n0, n_0n0, n_dI, n_m1lt, q_inb, n_nar, n_nar0, n_nar1, n_bool, Bool.false_eq_true, Bool.true_eq_false, if_true, if_false, ↓reduceIte, Nat.reduceAdd, Nat.reduceMul, Nat.reduceSub, Nat.reduceLT, Nat.reduceLeDiff, Nat.reduceEqDiff, Nat.reduceMod, Nat.reduceDiv, q_W h.1, q_S h.1 (a := 91) (by decide), e1]
    exact e2
  · rw [if_neg h4]
    have e4 : ¬ 0 < ir_I M1 4 5 := by rw [(c_use r1).2.2.2.2.1]; exact h4
    refine ⟨M1, ?_, q1', trivial⟩
    rw [E_X11_awaitRuin]
    simp (disch := omega) only [q_ckt, q_lt, q_cI, q_cJ, q_cV, q_cP, q_xI, q_xV, q_xP, q_xJ, g_gk, g_ga, g_gw, g_gp, g_gq, g_P, g_J, q_I_s, q_I_n, q_I_k, nI_add, pk_sub, pk_mul, nI_clamp, n_lt0, n_0lt, n_eq0, n_lt, n_le, n_eq, n_m1, n_m2, n_m9, n_12, n_19, n_10, n_01, n_1n1, n_0n1, n_1n0, n_0n0, n_dI, n_m1lt, q_inb, n_nar, n_nar0, n_nar1, n_bool, Bool.false_eq_true, Bool.true_eq_false, if_true, if_false, ↓reduceIte, Nat.reduceAdd, Nat.reduceMul, Nat.reduceSub, Nat.reduceLT, Nat.reduceLeDiff, Nat.reduceEqDiff, Nat.reduceMod, Nat.reduceDiv, q_W h.1, q_S h.1 (a := 91) (by decide), e1]
    rw [L_X11_awaitRuin_13]
    simp (disch := omega) only [q_ckt, q_lt, q_cI, q_cJ, q_cV, q_cP, q_xI, q_xV, q_xP, q_xJ, g_gk, g_ga, g_gw, g_gp, g_gq, g_P, g_J, q_I_s, q_I_n, q_I_k, nI_add, pk_sub, pk_mul, nI_clamp, n_lt0, n_0lt, n_eq0, n_lt, n_le, n_eq, n_m1, n_m2, n_m9, n_12, n_19, n_10, n_01, n_1n1, n_0n1, n_1n0, n_0n0, n_dI, n_m1lt, q_inb, n_nar, n_nar0, n_nar1, n_bool, Bool.false_eq_true, Bool.true_eq_false, if_true, if_false, ↓reduceIte, Nat.reduceAdd, Nat.reduceMul, Nat.reduceSub, Nat.reduceLT, Nat.reduceLeDiff, Nat.reduceEqDiff, Nat.reduceMod, Nat.reduceDiv, q_W r1.1, q_T r1.1, e4]
theorem r_ru52 {M : ir_M} {i : Nat} {v : Int32} (h : r_rl M (k_dyn (i + 1) K)) (hk : k_ok K) (hv : ∀ p, p < k_n K → ir_I M 431 p = k_rdm (k_mp K p) i) : ∃ M', v_X12_laysRuins_52 (d + 2) 412 (nI (k_mb (k_dyn i K))) (nI (i + 1)) (nI (k_mb (k_dyn (i + 1) K))) (nI 0) M = v_X12_laysRuins_33 (d + 2) 412 (nI (k_mb (k_dyn (i + 1) K))) (nI (i + 1) + nI 1) M' ∧ q_eq [431] M M' ∧ ∀ p, p < k_n K → ir_I M' 431 p = k_rdm (k_mp K p) (i + 1) := by
  have hb := k_bds hk
  have en : k_n (k_dyn (i + 1) K) = k_n K := by unfold k_n; rw [k_dyn_o hk (by omega)]
  have hd : k_dif (k_mb (k_dyn i K)) (k_mb (k_dyn (i + 1) K)) < 256 := k_dif_lt (k_mb_lt (k_dyn_ok hk i))
  have bit : ∀ p, (k_dif (k_mb (k_dyn i K)) (k_mb (k_dyn (i + 1) K))).testBit p = (k_mp K p i && !k_mp K p (i + 1)) := fun p => by
    rw [k_dif_bit, k_mb_bit (k_dyn_ok hk i), k_mb_bit (k_dyn_ok hk (i + 1))]
    rfl
  have Lp := q_up (σ := ir_M) (V := fun x t => v_X12_laysRuins_52 (d + 2) 412 (nI (k_mb (k_dyn i K))) (nI (i + 1)) (nI (k_mb (k_dyn (i + 1) K))) (nI x) t) (N := k_n K) (I := fun x t => q_eq [431] M t ∧ ∀ p, p < k_n K → ir_I t 431 p = if p < x then k_rdm (k_mp K p) (i + 1) else k_rdm (k_mp K p) i) (K := fun t => v_X12_laysRuins_33 (d + 2) 412 (nI (k_mb (k_dyn (i + 1) K))) (nI (i + 1) + nI 1) t) (by
    rintro x t hx ⟨hq, ht⟩
    have ct := r_rl_eq h hq (by decide)
    have hh := r_has (M := t) (d := d + 1) hd (show x < 8 by omega)
    have ex : k_rdm (k_mp K x) (i + 1) = if (k_mp K x i && !k_mp K x (i + 1)) = true then nI (i + 1) else k_rdm (k_mp K x) i := rfl
    have pe := r_pe (d := d + 1) ct
    rw [en] at pe
    rw [bit] at hh
    cases e : (k_mp K x i && !k_mp K x (i + 1))
    · rw [e, if_neg (by decide)] at ex hh
      refine ⟨t, ⟨hq, fun p hp => ?_⟩, ?_⟩
      · rw [ht p hp]
        by_cases q : p < x
        · rw [if_pos q, if_pos (by omega)]
        · rw [if_neg q]
          by_cases q2 : p = x
          · rw [if_pos (by omega), q2, ex]
          · rw [if_neg (by omega)]
      · rw [L_X12_laysRuins_52]
        simp (disch := omega) only [q_ckt, q_lt, q_cI, q_cJ, q_cV, q_cP, q_xI, q_xV, q_xP, q_xJ, g_gk, g_ga, g_gw, g_gp, g_gq, g_P, g_J, q_I_s, q_I_n, q_I_k, nI_add, pk_sub, pk_mul, nI_clamp, n_lt0, n_0lt, n_eq0, n_lt, n_le, n_eq, n_m1, n_m2, n_m9, n_12, n_19, n_10, n_01, n_1n1, n_0n1, n_1n0, n_0n0, n_dI, n_m1lt, q_inb, n_nar, n_nar0, n_nar1, n_bool, Bool.false_eq_true, Bool.true_eq_false, if_true, if_false, ↓reduceIte, Nat.reduceAdd, Nat.reduceMul, Nat.reduceSub, Nat.reduceLT, Nat.reduceLeDiff, Nat.reduceEqDiff, Nat.reduceMod, Nat.reduceDiv, q_R ct.1, pe, hx, n_dif, hh]
    · rw [e, if_pos rfl] at ex hh
      refine ⟨ir_sI t 431 x (nI (i + 1)), ⟨hq.tr (q_eq.sI (by decide)), fun p hp => ?_⟩, ?_⟩
      · rw [q_I_u]
        by_cases q2 : p = x
        · rw [if_pos q2, if_pos (by omega), q2, ex]
        · rw [if_neg q2, ht p hp]
          by_cases q : p < x
          · rw [if_pos q, if_pos (by omega)]
          · rw [if_neg q, if_neg (by omega)]
      · rw [L_X12_laysRuins_52]
        simp (disch := omega) only [q_ckt, q_lt, q_cI, q_cJ, q_cV, q_cP, q_xI, q_xV, q_xP, q_xJ, g_gk, g_ga, g_gw, g_gp, g_gq, g_P, g_J, q_I_s, q_I_n, q_I_k, nI_add, pk_sub, pk_mul, nI_clamp, n_lt0, n_0lt, n_eq0, n_lt, n_le, n_eq, n_m1, n_m2, n_m9, n_12, n_19, n_10, n_01, n_1n1, n_0n1, n_1n0, n_0n0, n_dI, n_m1lt, q_inb, n_nar, n_nar0, n_nar1, n_bool, Bool.false_eq_true, Bool.true_eq_false, if_true, if_false, ↓reduceIte, Nat.reduceAdd, Nat.reduceMul, Nat.reduceSub, Nat.reduceLT, Nat.reduceLeDiff, Nat.reduceEqDiff, Nat.reduceMod, Nat.reduceDiv, q_R ct.1, pe, hx, n_dif, hh]) (by
    rintro t ⟨hq, ht⟩
    have ct := r_rl_eq h hq (by decide)
    have pe := r_pe (d := d + 1) ct
    rw [en] at pe
    rw [L_X12_laysRuins_52]
    simp (disch := omega) only [q_ckt, q_lt, q_cI, q_cJ, q_cV, q_cP, q_xI, q_xV, q_xP, q_xJ, g_gk, g_ga, g_gw, g_gp, g_gq, g_P, g_J, q_I_s, q_I_n, q_I_k, nI_add, pk_sub, pk_mul, nI_clamp, n_lt0, n_0lt, n_eq0, n_lt, n_le, n_eq, n_m1, n_m2, n_m9, n_12, n_19, n_10, n_01, n_1n1, n_0n1, n_1n0, n_0n0, n_dI, n_m1lt, q_inb, n_nar, n_nar0, n_nar1, n_bool, Bool.false_eq_true, Bool.true_eq_false, if_true, if_false, ↓reduceIte, Nat.reduceAdd, Nat.reduceMul, Nat.reduceSub, Nat.reduceLT, Nat.reduceLeDiff, Nat.reduceEqDiff, Nat.reduceMod, Nat.reduceDiv, q_R ct.1, pe, Nat.lt_irrefl]) (i := 0) (t := M) (by omega) ⟨q_eq.rf _ _, fun p hp => by rw [if_neg (by omega)]; exact hv p hp⟩
  obtain ⟨t, ⟨hq, ht⟩, ee⟩ := Lp
  exact ⟨t, ee, hq, fun p hp => by rw [ht p hp, if_pos hp]⟩
theorem r_laysRuins {M : ir_M} (h : r_rl M K) : ∃ M', m_X12_laysRuins (d + 8) 412 M = ir_oV M' ∧ q_eq [421, 431, 418, 419, 420] M M' ∧ ∀ p, p < k_n K → ir_I M' 431 p = k_rdm (k_mp K p) 99 := by
  have hk := h.2.1
  have hb := k_bds hk
  obtain ⟨M1, e1, q1, a1⟩ := r_aside (d := d + 6) h.1 (lv := 0) (by decide)
  have u1 := r_rl_eq h q1 (by decide)
  have L1 := q_up (σ := ir_M) (V := fun x t => v_X12_laysRuins_7 (d + 7) 412 (nI x) t) (N := 8) (I := fun x t => q_eq [431] M1 t ∧ ∀ p, p < x → ir_I t 431 p = -1) (K := fun t => v_X12_laysRuins_33 (d + 7) 412 (nI (k_mb K)) (nI 1) t) (by
    rintro x t hx ⟨hq, ht⟩
    have ct := r_rl_eq u1 hq (by decide)
    refine ⟨ir_sI t 431 x (-1), ⟨hq.tr (q_eq.sI (by decide)), fun p hp => ?_⟩, ?_⟩
    · rw [q_I_u]
      by_cases q2 : p = x
      · rw [if_pos q2]
      · rw [if_neg q2]
        exact ht p (by omega)
    · rw [L_X12_laysRuins_7]
      simp (disch := omega) only [q_ckt, q_lt, q_cI, q_cJ, q_cV, q_cP, q_xI, q_xV, q_xP, q_xJ, g_gk, g_ga, g_gw, g_gp, g_gq, g_P, g_J, q_I_s, q_I_n, q_I_k, nI_add, pk_sub, pk_mul, nI_clamp, n_lt0, n_0lt, n_eq0, n_lt, n_le, n_eq, n_m1, n_m2, n_m9, n_12, n_19, n_10, n_01, n_1n1, n_0n1, n_1n0, n_0n0, n_dI, n_m1lt, q_inb, n_nar, n_nar0, n_nar1, n_bool, Bool.false_eq_true, Bool.true_eq_false, if_true, if_false, ↓reduceIte, Nat.reduceAdd, Nat.reduceMul, Nat.reduceSub, Nat.reduceLT, Nat.reduceLeDiff, Nat.reduceEqDiff, Nat.reduceMod, Nat.reduceDiv, q_R ct.1, hx]) (by
    rintro t ⟨hq, ht⟩
    have ct := r_rl_eq u1 hq (by decide)
    rw [L_X12_laysRuins_7]
    simp (disch := omega) only [q_ckt, q_lt, q_cI, q_cJ, q_cV, q_cP, q_xI, q_xV, q_xP, q_xJ, g_gk, g_ga, g_gw, g_gp, g_gq, g_P, g_J, q_I_s, q_I_n, q_I_k, nI_add, pk_sub, pk_mul, nI_clamp, n_lt0, n_0lt, n_eq0, n_lt, n_le, n_eq, n_m1, n_m2, n_m9, n_12, n_19, n_10, n_01, n_1n1, n_0n1, n_1n0, n_0n0, n_dI, n_m1lt, q_inb, n_nar, n_nar0, n_nar1, n_bool, Bool.false_eq_true, Bool.true_eq_false, if_true, if_false, ↓reduceIte, Nat.reduceAdd, Nat.reduceMul, Nat.reduceSub, Nat.reduceLT, Nat.reduceLeDiff, Nat.reduceEqDiff, Nat.reduceMod, Nat.reduceDiv, q_R ct.1, r_mb ct]) (i := 0) (t := M1) (by omega) ⟨q_eq.rf _ _, fun p hp => absurd hp (by omega)⟩
  obtain ⟨M2, ⟨q2, a2⟩, e2⟩ := L1
  have u2 := r_rl_eq u1 q2 (by decide)
  have L2 := q_up (σ := ir_M) (V := fun x t => v_X12_laysRuins_33 (d + 7) 412 (nI (k_mb (k_dyn x K))) (nI (x + 1)) t) (N := 99) (I := fun x t => r_rl t (k_dyn x K) ∧ q_eq [413, 431, 418, 419, 420] M1 t ∧ ∀ p, p < k_n K → ir_I t 431 p = k_rdm (k_mp K p) x) (K := fun t => ir_ck (ir_gk t 412 12) (ir_cV (m_X12_back (d + 7) 412 (nI 0) t) (fun M1 => ir_oV M1))) (by
    rintro x t hx ⟨hr, hq, ht⟩
    obtain ⟨t1, f1, g1, r1⟩ := r_day (d := d) hr
    have r1' : r_rl t1 (k_dyn (x + 1) K) := r1
    have v1 : ∀ p, p < k_n K → ir_I t1 431 p = k_rdm (k_mp K p) x := fun p hp => by rw [q_I_eq g1 (by decide), ht p hp]
    obtain ⟨t2, f2, g2, w2⟩ := r_ru52 (d := d + 5) (v := 0) r1' hk v1
    have r2 := r_rl_eq r1' g2 (by decide)
    refine ⟨t2, ⟨r2, (hq.tr (g1.sub (by decide))).tr (g2.sub (by decide)), w2⟩, ?_⟩
    rw [L_X12_laysRuins_33]
    simp (disch := omega) only [q_ckt, q_lt, q_cI, q_cJ, q_cV, q_cP, q_xI, q_xV, q_xP, q_xJ, g_gk, g_ga, g_gw, g_gp, g_gq, g_P, g_J, q_I_s, q_I_n, q_I_k, nI_add, pk_sub, pk_mul, nI_clamp, n_lt0, n_0lt, n_eq0, n_lt, n_le, n_eq, n_m1, n_m2, n_m9, n_12, n_19, n_10, n_01, n_1n1, n_0n1, n_1n0, n_0n0, n_dI, n_m1lt, q_inb, n_nar, n_nar0, n_nar1, n_bool, Bool.false_eq_true, Bool.true_eq_false, if_true, if_false, ↓reduceIte, Nat.reduceAdd, Nat.reduceMul, Nat.reduceSub, Nat.reduceLT, Nat.reduceLeDiff, Nat.reduceEqDiff, Nat.reduceMod, Nat.reduceDiv, show x + 1 < 100 by omega, q_R hr.1, f1, q_R r1.1, r_mb r1', f2]) (by
    rintro t ⟨hr, hq, ht⟩
    rw [L_X12_laysRuins_33]
    simp (disch := omega) only [q_ckt, q_lt, q_cI, q_cJ, q_cV, q_cP, q_xI, q_xV, q_xP, q_xJ, g_gk, g_ga, g_gw, g_gp, g_gq, g_P, g_J, q_I_s, q_I_n, q_I_k, nI_add, pk_sub, pk_mul, nI_clamp, n_lt0, n_0lt, n_eq0, n_lt, n_le, n_eq, n_m1, n_m2, n_m9, n_12, n_19, n_10, n_01, n_1n1, n_0n1, n_1n0, n_0n0, n_dI, n_m1lt, q_inb, n_nar, n_nar0, n_nar1, n_bool, Bool.false_eq_true, Bool.true_eq_false, if_true, if_false, ↓reduceIte, Nat.reduceAdd, Nat.reduceMul, Nat.reduceSub, Nat.reduceLT, Nat.reduceLeDiff, Nat.reduceEqDiff, Nat.reduceMod, Nat.reduceDiv]) (i := 0) (t := M2) (by omega) ⟨u2, q2.sub (by decide), fun p hp => a2 p (by omega)⟩
  obtain ⟨M3, ⟨r3, q3, a3⟩, e3⟩ := L2
  obtain ⟨M4, e4, q4, q5⟩ := r_ab (d := d + 6) h (by decide) q1 a1 q3 (by decide) (fun k hk' => by rw [r3.2.2, k_dyn_o hk hk'])
  refine ⟨M4, ?_, q4, fun p hp => ?_⟩
  · rw [E_X12_laysRuins]
    simp (disch := omega) only [q_ckt, q_lt, q_cI, q_cJ, q_cV, q_cP, q_xI, q_xV, q_xP, q_xJ, g_gk, g_ga, g_gw, g_gp, g_gq, g_P, g_J, q_I_s, q_I_n, q_I_k, nI_add, pk_sub, pk_mul, nI_clamp, n_lt0, n_0lt, n_eq0, n_lt, n_le, n_eq, n_m1, n_m2, n_m9, n_12, n_19, n_10, n_01, n_1n1, n_0n1, n_1n0, n_0n0, n_dI, n_m1lt, q_inb, n_nar, n_nar0, n_nar1, n_bool, Bool.false_eq_true, Bool.true_eq_false, if_true, if_false, ↓reduceIte, Nat.reduceAdd, Nat.reduceMul, Nat.reduceSub, Nat.reduceLT, Nat.reduceLeDiff, Nat.reduceEqDiff, Nat.reduceMod, Nat.reduceDiv, q_R h.1, e1]
    rw [e2]
    refine e3.trans ?_
    simp (disch := omega) only [q_ckt, q_lt, q_cI, q_cJ, q_cV, q_cP, q_xI, q_xV, q_xP, q_xJ, g_gk, g_ga, g_gw, g_gp, g_gq, g_P, g_J, q_I_s, q_I_n, q_I_k, nI_add, pk_sub, pk_mul, nI_clamp, n_lt0, n_0lt, n_eq0, n_lt, n_le, n_eq, n_m1, n_m2, n_m9, n_12, n_19, n_10, n_01, n_1n1, n_0n1, n_1n0, n_0n0, n_dI, n_m1lt, q_inb, n_nar, n_nar0, n_nar1, n_bool, Bool.false_eq_true, Bool.true_eq_false, if_true, if_false, ↓reduceIte, Nat.reduceAdd, Nat.reduceMul, Nat.reduceSub, Nat.reduceLT, Nat.reduceLeDiff, Nat.reduceEqDiff, Nat.reduceMod, Nat.reduceDiv, q_R r3.1, e4]
  · rw [q_I_eq q5 (by decide)]
    exact a3 p hp
end RU
section RV
variable {L : Nat} {xs : Nat → Int32}
theorem S_ruined (a : Int32) : q_St L xs (q_Iv L xs) (m_L_ruined 200 1 a 436) (m_X12_ruined 200 412 a) := by
  refine q_St_mk (x := m_X11_ruined 199 1 a) (fun M => E_L_ruined 199 1 a 436 M) fun M hp hI => ?_
  have hc := c_I_c hp hI.1
  have hr := c_I_r hp hI.1
  generalize M.1 413 = K at hc hr
  have hb := k_bds hc.2.2.1
  by_cases ha : k_rng a (k_n K)
  · obtain ⟨p, hpn, rfl⟩ := k_rng_of ha (by omega)
    cases e : k_pl K p with
    | none =>
      refine Or.inr ⟨2, 2, by omega, by omega, ?_, fun _ => rfl, fun M' s => ⟨nI 0, _, ?_, q_st_4 s.1.1 (k := 4) (v := nI 2) rfl, rfl, q_I_s⟩⟩
      · rw [E_X11_ruined 198]
        simp (disch := omega) only [q_ckt, q_lt, q_cI, q_cJ, q_cV, q_cP, q_xI, q_xV, q_xP, q_xJ, g_gk, g_ga, g_gw, g_gp, g_gq, g_P, g_J, q_I_s, q_I_n, q_I_k, nI_add, pk_sub, pk_mul, nI_clamp, n_lt0, n_0lt, n_eq0, n_lt, n_le, n_eq, n_m1, n_m2, n_m9, n_12, n_19, n_10, n_01, n_1n1, n_0n1, n_1n0, n_0n0, n_dI, n_m1lt, q_inb, n_nar, n_nar0, n_nar1, n_bool, Bool.false_eq_true, Bool.true_eq_false, if_true, if_false, ↓reduceIte, Nat.reduceAdd, Nat.reduceMul, Nat.reduceSub, Nat.reduceLT, Nat.reduceLeDiff, Nat.reduceEqDiff, Nat.reduceMod, Nat.reduceDiv, q_W hp, c_np hc, ha, c_ns hc hpn, e]
      · have hr' := q_st_r s hr
        rw [E_X12_ruined 199]
        simp (disch := omega) only [q_ckt, q_lt, q_cI, q_cJ, q_cV, q_cP, q_xI, q_xV, q_xP, q_xJ, g_gk, g_ga, g_gw, g_gp, g_gq, g_P, g_J, q_I_s, q_I_n, q_I_k, nI_add, pk_sub, pk_mul, nI_clamp, n_lt0, n_0lt, n_eq0, n_lt, n_le, n_eq, n_m1, n_m2, n_m9, n_12, n_19, n_10, n_01, n_1n1, n_0n1, n_1n0, n_0n0, n_dI, n_m1lt, q_inb, n_nar, n_nar0, n_nar1, n_bool, Bool.false_eq_true, Bool.true_eq_false, if_true, if_false, ↓reduceIte, Nat.reduceAdd, Nat.reduceMul, Nat.reduceSub, Nat.reduceLT, Nat.reduceLeDiff, Nat.reduceEqDiff, Nat.reduceMod, Nat.reduceDiv, q_R hr'.1, r_bf1 hr' hpn, e]
    | some i =>
      have hm : k_mem K p = true := by unfold k_mem; rw [e]; rfl
      have him := (k_pl_some e).1
      obtain ⟨M1, e1, q1, c1⟩ := c_await (d := 192) hc (n_p2 (show p < 8 by omega))
      refine Or.inl ⟨k_rdm (k_mp K p) 99, ⟨M1, ?_, q_st_eq hp q1 (by decide)⟩, fun M' s => ?_⟩
      · have c12 := q_st_c (q_st_eq hp q1 (by decide)) hc
        rw [k_aw_rd hc.2.2.1 hm, E_X11_ruined 198]
        cases ew : k_aw K (2 ^ p) with
        | none =>
          rw [ew] at e1
          simp (disch := omega) only [q_ckt, q_lt, q_cI, q_cJ, q_cV, q_cP, q_xI, q_xV, q_xP, q_xJ, g_gk, g_ga, g_gw, g_gp, g_gq, g_P, g_J, q_I_s, q_I_n, q_I_k, nI_add, pk_sub, pk_mul, nI_clamp, n_lt0, n_0lt, n_eq0, n_lt, n_le, n_eq, n_m1, n_m2, n_m9, n_12, n_19, n_10, n_01, n_1n1, n_0n1, n_1n0, n_0n0, n_dI, n_m1lt, q_inb, n_nar, n_nar0, n_nar1, n_bool, Bool.false_eq_true, Bool.true_eq_false, if_true, if_false, ↓reduceIte, Nat.reduceAdd, Nat.reduceMul, Nat.reduceSub, Nat.reduceLT, Nat.reduceLeDiff, Nat.reduceEqDiff, Nat.reduceMod, Nat.reduceDiv, q_W hp, c_np hc, ha, c_ns hc hpn, e, n_bit, e1]
        | some x =>
          rw [ew] at e1 c1
          have d1 : ir_I M1 91 1 = K 42 + nI x := by rw [(c_use c1).2.2.2.2.2.2.1, k_dyn_42 hc.2.2.1]
          have d2 : ir_I M1 12 1 = K 42 := (c_use c12).2.2.2.2.2.2.1
          simp (disch := omega) only [q_ckt, q_lt, q_cI, q_cJ, q_cV, q_cP, q_xI, q_xV, q_xP, q_xJ, g_gk, g_ga, g_gw, g_gp, g_gq, g_P, g_J, q_I_s, q_I_n, q_I_k, nI_add, pk_sub, pk_mul, nI_clamp, n_lt0, n_0lt, n_eq0, n_lt, n_le, n_eq, n_m1, n_m2, n_m9, n_12, n_19, n_10, n_01, n_1n1, n_0n1, n_1n0, n_0n0, n_dI, n_m1lt, q_inb, n_nar, n_nar0, n_nar1, n_bool, Bool.false_eq_true, Bool.true_eq_false, if_true, if_false, ↓reduceIte, Nat.reduceAdd, Nat.reduceMul, Nat.reduceSub, Nat.reduceLT, Nat.reduceLeDiff, Nat.reduceEqDiff, Nat.reduceMod, Nat.reduceDiv, q_W hp, c_np hc, ha, c_ns hc hpn, e, n_bit, e1, q_W c12.1, q_S c12.1 (a := 12) (by decide), q_S c12.1 (a := 91) (by decide), d1, d2, n_adds]
      · have hr' := q_st_r s hr
        have h4 := r_4 (v := nI 0) hr'
        obtain ⟨N1, f1, t1, v1⟩ := r_laysRuins (d := 191) h4
        have p1 := q_PI_eq t1 h4.1
        refine ⟨N1, ?_, (q_st_4 hr'.1 rfl).tr (q_st_eq h4.1 t1 (by decide)), by rw [t1.2]; rfl, (q_I_eq t1 (by decide) 4).trans q_I_s⟩
        rw [E_X12_ruined 199]
        simp (disch := omega) only [q_ckt, q_lt, q_cI, q_cJ, q_cV, q_cP, q_xI, q_xV, q_xP, q_xJ, g_gk, g_ga, g_gw, g_gp, g_gq, g_P, g_J, q_I_s, q_I_n, q_I_k, nI_add, pk_sub, pk_mul, nI_clamp, n_lt0, n_0lt, n_eq0, n_lt, n_le, n_eq, n_m1, n_m2, n_m9, n_12, n_19, n_10, n_01, n_1n1, n_0n1, n_1n0, n_0n0, n_dI, n_m1lt, q_inb, n_nar, n_nar0, n_nar1, n_bool, Bool.false_eq_true, Bool.true_eq_false, if_true, if_false, ↓reduceIte, Nat.reduceAdd, Nat.reduceMul, Nat.reduceSub, Nat.reduceLT, Nat.reduceLeDiff, Nat.reduceEqDiff, Nat.reduceMod, Nat.reduceDiv, q_R hr'.1, r_bf1 hr' hpn, e, f1, q_R p1, v1]
  · refine Or.inr ⟨1, 1, by omega, by omega, ?_, fun _ => rfl, fun M' s => ⟨nI 0, _, ?_, q_st_4 s.1.1 (k := 4) (v := nI 1) rfl, rfl, q_I_s⟩⟩
    · rw [E_X11_ruined 198]
      simp (disch := omega) only [q_ckt, q_lt, q_cI, q_cJ, q_cV, q_cP, q_xI, q_xV, q_xP, q_xJ, g_gk, g_ga, g_gw, g_gp, g_gq, g_P, g_J, q_I_s, q_I_n, q_I_k, nI_add, pk_sub, pk_mul, nI_clamp, n_lt0, n_0lt, n_eq0, n_lt, n_le, n_eq, n_m1, n_m2, n_m9, n_12, n_19, n_10, n_01, n_1n1, n_0n1, n_1n0, n_0n0, n_dI, n_m1lt, q_inb, n_nar, n_nar0, n_nar1, n_bool, Bool.false_eq_true, Bool.true_eq_false, if_true, if_false, ↓reduceIte, Nat.reduceAdd, Nat.reduceMul, Nat.reduceSub, Nat.reduceLT, Nat.reduceLeDiff, Nat.reduceEqDiff, Nat.reduceMod, Nat.reduceDiv, q_W hp, c_np hc, ha]
    · have hr' := q_st_r s hr
      rw [E_X12_ruined 199]
      simp (disch := omega) only [q_ckt, q_lt, q_cI, q_cJ, q_cV, q_cP, q_xI, q_xV, q_xP, q_xJ, g_gk, g_ga, g_gw, g_gp, g_gq, g_P, g_J, q_I_s, q_I_n, q_I_k, nI_add, pk_sub, pk_mul, nI_clamp, n_lt0, n_0lt, n_eq0, n_lt, n_le, n_eq, n_m1, n_m2, n_m9, n_12, n_19, n_10, n_01, n_1n1, n_0n1, n_1n0, n_0n0, n_dI, n_m1lt, q_inb, n_nar, n_nar0, n_nar1, n_bool, Bool.false_eq_true, Bool.true_eq_false, if_true, if_false, ↓reduceIte, Nat.reduceAdd, Nat.reduceMul, Nat.reduceSub, Nat.reduceLT, Nat.reduceLeDiff, Nat.reduceEqDiff, Nat.reduceMod, Nat.reduceDiv, q_R hr'.1, r_bf0 hr' ha]
/-- the first of some -/
def k_f1 (P : Nat → Bool) : Nat → Nat → Option Nat
  | 0, _ => none
  | r + 1, i => if P i = true then some i else k_f1 P r (i + 1)
theorem k_f1_some {P : Nat → Bool} : ∀ {r i g : Nat}, k_f1 P r i = some g → P g = true ∧ i ≤ g ∧ g < i + r ∧ ∀ x, i ≤ x → x < g → P x = false
  | 0, _, _, h => nomatch h
  | r + 1, i, g, h => by
    unfold k_f1 at h
    by_cases q : P i = true
    · rw [if_pos q] at h
      cases h
      exact ⟨q, by omega, by omega, fun x h1 h2 => by omega⟩
    · rw [if_neg q] at h
      obtain ⟨a, b, c, e⟩ := k_f1_some h
      refine ⟨a, by omega, by omega, fun x h1 h2 => ?_⟩
      by_cases qx : x = i
      · rw [qx]; exact Bool.eq_false_iff.mpr q
      · exact e x (by omega) h2
theorem k_f1_none {P : Nat → Bool} : ∀ {r i : Nat}, k_f1 P r i = none → ∀ x, i ≤ x → x < i + r → P x = false
  | 0, _, _, x, h1, h2 => by omega
  | r + 1, i, h, x, h1, h2 => by
    unfold k_f1 at h
    by_cases q : P i = true
    · rw [if_pos q] at h; exact nomatch h
    · rw [if_neg q] at h
      by_cases qx : x = i
      · rw [qx]; exact Bool.eq_false_iff.mpr q
      · exact k_f1_none h x (by omega) (by omega)
theorem c_fr32 {K : Nat → Int32} {d s S : Nat} {M : ir_M} (h : c_rl M s K) : ∀ (r i : Nat), i + r = k_n K → v_X11_firstRuined_32 d 1 (nI S) (nI i) M = ir_oI (k_on (k_f1 (fun p => S.testBit p) r i)) M
  | 0, i, hi => by
    have hb := k_bds h.2.2.1
    rw [L_X11_firstRuined_32]
    simp (disch := omega) only [q_ckt, q_lt, q_cI, q_cJ, q_cV, q_cP, q_xI, q_xV, q_xP, q_xJ, g_gk, g_ga, g_gw, g_gp, g_gq, g_P, g_J, q_I_s, q_I_n, q_I_k, nI_add, pk_sub, pk_mul, nI_clamp, n_lt0, n_0lt, n_eq0, n_lt, n_le, n_eq, n_m1, n_m2, n_m9, n_12, n_19, n_10, n_01, n_1n1, n_0n1, n_1n0, n_0n0, n_dI, n_m1lt, q_inb, n_nar, n_nar0, n_nar1, n_bool, Bool.false_eq_true, Bool.true_eq_false, if_true, if_false, ↓reduceIte, Nat.reduceAdd, Nat.reduceMul, Nat.reduceSub, Nat.reduceLT, Nat.reduceLeDiff, Nat.reduceEqDiff, Nat.reduceMod, Nat.reduceDiv, q_W h.1, q_T h.1, c_use h, show ¬ i < k_n K by omega, k_f1, k_on]
  | r + 1, i, hi => by
    have hb := k_bds h.2.2.1
    have ih := c_fr32 (d := d) (S := S) h r (i + 1) (by omega)
    rw [L_X11_firstRuined_32]
    unfold k_f1
    cases e : S.testBit i
    · simp (disch := omega) only [q_ckt, q_lt, q_cI, q_cJ, q_cV, q_cP, q_xI, q_xV, q_xP, q_xJ, g_gk, g_ga, g_gw, g_gp, g_gq, g_P, g_J, q_I_s, q_I_n, q_I_k, nI_add, pk_sub, pk_mul, nI_clamp, n_lt0, n_0lt, n_eq0, n_lt, n_le, n_eq, n_m1, n_m2, n_m9, n_12, n_19, n_10, n_01, n_1n1, n_0n1, n_1n0, n_0n0, n_dI, n_m1lt, q_inb, n_nar, n_nar0, n_nar1, n_bool, Bool.false_eq_true, Bool.true_eq_false, if_true, if_false, ↓reduceIte, Nat.reduceAdd, Nat.reduceMul, Nat.reduceSub, Nat.reduceLT, Nat.reduceLeDiff, Nat.reduceEqDiff, Nat.reduceMod, Nat.reduceDiv, q_W h.1, q_T h.1, c_use h, show i < k_n K by omega, n_bit, n_bt, e]
      exact ih
    · simp (disch := omega) only [q_ckt, q_lt, q_cI, q_cJ, q_cV, q_cP, q_xI, q_xV, q_xP, q_xJ, g_gk, g_ga, g_gw, g_gp, g_gq, g_P, g_J, q_I_s, q_I_n, q_I_k, nI_add, pk_sub, pk_mul, nI_clamp, n_lt0, n_0lt, n_eq0, n_lt, n_le, n_eq, n_m1, n_m2, n_m9, n_12, n_19, n_10, n_01, n_1n1, n_0n1, n_1n0, n_0n0, n_dI, n_m1lt, q_inb, n_nar, n_nar0, n_nar1, n_bool, Bool.false_eq_true, Bool.true_eq_false, if_true, if_false, ↓reduceIte, Nat.reduceAdd, Nat.reduceMul, Nat.reduceSub, Nat.reduceLT, Nat.reduceLeDiff, Nat.reduceEqDiff, Nat.reduceMod, Nat.reduceDiv, q_W h.1, q_T h.1, c_use h, show i < k_n K by omega, n_bit, n_bt, e]
      rfl
theorem S_firstRuined : q_Sp L xs (q_Iv L xs) (m_X11_firstRuined 200 1) (m_X12_firstRuined 200 412) := by
  refine q_Sp_mk fun M hp hI => ?_
  have hc := c_I_c hp hI.1
  have hr := c_I_r hp hI.1
  generalize M.1 413 = K at hc hr
  have hk := hc.2.2.1
  have hb := k_bds hk
  have mb := c_mb (d := 198) hc
  obtain ⟨M1, e1, q1, c1⟩ := c_await (d := 193) hc (k_mb_lt hk)
  have c12 := q_st_c (q_st_eq hp q1 (by decide)) hc
  have s1 := q_st_eq hp q1 (by decide)
  obtain ⟨v, ev⟩ : ∃ v : Option Nat, v = match k_aw K (k_mb K) with | some x => k_f1 (fun p => (k_dif (k_mb K) (k_mb (k_dyn x K))).testBit p) (k_n K) 0 | none => none := ⟨_, rfl⟩
  have ec : m_X11_firstRuined 200 1 M = ir_oI (k_on v) M1 := by
    rw [E_X11_firstRuined 199, ev]
    cases ew : k_aw K (k_mb K) with
    | none =>
      rw [ew] at e1
      simp (disch := omega) only [q_ckt, q_lt, q_cI, q_cJ, q_cV, q_cP, q_xI, q_xV, q_xP, q_xJ, g_gk, g_ga, g_gw, g_gp, g_gq, g_P, g_J, q_I_s, q_I_n, q_I_k, nI_add, pk_sub, pk_mul, nI_clamp, n_lt0, n_0lt, n_eq0, n_lt, n_le, n_eq, n_m1, n_m2, n_m9, n_12, n_19, n_10, n_01, n_1n1, n_0n1, n_1n0, n_0n0, n_dI, n_m1lt, q_inb, n_nar, n_nar0, n_nar1, n_bool, Bool.false_eq_true, Bool.true_eq_false, if_true, if_false, ↓reduceIte, Nat.reduceAdd, Nat.reduceMul, Nat.reduceSub, Nat.reduceLT, Nat.reduceLeDiff, Nat.reduceEqDiff, Nat.reduceMod, Nat.reduceDiv, q_W hp, q_S hp (a := 12) (by decide), mb, e1, k_on]
    | some x =>
      rw [ew] at e1 c1
      have nx : k_n (k_dyn x K) = k_n K := by unfold k_n; rw [k_dyn_o hk (by omega)]
      have f := c_fr32 (d := 199) (S := k_dif (k_mb K) (k_mb (k_dyn x K))) c1 (k_n K) 0 (by omega)
      simp (disch := omega) only [q_ckt, q_lt, q_cI, q_cJ, q_cV, q_cP, q_xI, q_xV, q_xP, q_xJ, g_gk, g_ga, g_gw, g_gp, g_gq, g_P, g_J, q_I_s, q_I_n, q_I_k, nI_add, pk_sub, pk_mul, nI_clamp, n_lt0, n_0lt, n_eq0, n_lt, n_le, n_eq, n_m1, n_m2, n_m9, n_12, n_19, n_10, n_01, n_1n1, n_0n1, n_1n0, n_0n0, n_dI, n_m1lt, q_inb, n_nar, n_nar0, n_nar1, n_bool, Bool.false_eq_true, Bool.true_eq_false, if_true, if_false, ↓reduceIte, Nat.reduceAdd, Nat.reduceMul, Nat.reduceSub, Nat.reduceLT, Nat.reduceLeDiff, Nat.reduceEqDiff, Nat.reduceMod, Nat.reduceDiv, q_W hp, q_S hp (a := 12) (by decide), mb, e1, q_W c12.1, q_S c12.1 (a := 91) (by decide), c_mb c1, n_dif]
      exact f
  refine ⟨k_on v, M1, ec, s1, ?_⟩
  have hr' := q_st_r s1 hr
  have h4 := r_4 (v := nI 0) hr'
  obtain ⟨N1, f1, t1, v1⟩ := r_laysRuins (d := 191) h4
  have u1 := r_rl_eq h4 t1 (by decide)
  refine ⟨N1, ?_, (q_st_4 hr'.1 rfl).tr (q_st_eq h4.1 t1 (by decide))⟩
  have start : m_X12_firstRuined 200 412 M1 = v_X12_firstRuined_13 199 412 (-1) (nI 0) N1 := by
    rw [E_X12_firstRuined 199]
    simp (disch := omega) only [q_ckt, q_lt, q_cI, q_cJ, q_cV, q_cP, q_xI, q_xV, q_xP, q_xJ, g_gk, g_ga, g_gw, g_gp, g_gq, g_P, g_J, q_I_s, q_I_n, q_I_k, nI_add, pk_sub, pk_mul, nI_clamp, n_lt0, n_0lt, n_eq0, n_lt, n_le, n_eq, n_m1, n_m2, n_m9, n_12, n_19, n_10, n_01, n_1n1, n_0n1, n_1n0, n_0n0, n_dI, n_m1lt, q_inb, n_nar, n_nar0, n_nar1, n_bool, Bool.false_eq_true, Bool.true_eq_false, if_true, if_false, ↓reduceIte, Nat.reduceAdd, Nat.reduceMul, Nat.reduceSub, Nat.reduceLT, Nat.reduceLeDiff, Nat.reduceEqDiff, Nat.reduceMod, Nat.reduceDiv, q_R hr'.1, f1]
  rw [start, ev]
  -- one who wasn't in the queue never goes
  have out : ∀ p, k_mem K p = false → k_rdm (k_mp K p) 99 = -1 := fun p hm => by
    have := k_rdA (k_mp_an hk p) (d := 0) hm 99
    rw [Nat.zero_add] at this
    exact this
  have none1 : (∀ p, p < k_n K → k_rdm (k_mp K p) 99 = -1) → v_X12_firstRuined_13 199 412 (-1) (nI 0) N1 = ir_oI (-1) N1 := fun hall => by
    have Lp := q_up (σ := ir_M) (V := fun x t => v_X12_firstRuined_13 199 412 (-1) (nI x) t) (N := k_n K) (I := fun _ t => t = N1) (K := fun t => ir_oI (-1) t) (by
      rintro x t hx rfl
      refine ⟨t, rfl, ?_⟩
      rw [L_X12_firstRuined_13]
      simp (disch := omega) only [q_ckt, q_lt, q_cI, q_cJ, q_cV, q_cP, q_xI, q_xV, q_xP, q_xJ, g_gk, g_ga, g_gw, g_gp, g_gq, g_P, g_J, q_I_s, q_I_n, q_I_k, nI_add, pk_sub, pk_mul, nI_clamp, n_lt0, n_0lt, n_eq0, n_lt, n_le, n_eq, n_m1, n_m2, n_m9, n_12, n_19, n_10, n_01, n_1n1, n_0n1, n_1n0, n_0n0, n_dI, n_m1lt, q_inb, n_nar, n_nar0, n_nar1, n_bool, Bool.false_eq_true, Bool.true_eq_false, if_true, if_false, ↓reduceIte, Nat.reduceAdd, Nat.reduceMul, Nat.reduceSub, Nat.reduceLT, Nat.reduceLeDiff, Nat.reduceEqDiff, Nat.reduceMod, Nat.reduceDiv, q_R u1.1, r_pe u1, hx, v1, hall x hx]) (by
      rintro t rfl
      rw [L_X12_firstRuined_13]
      simp (disch := omega) only [q_ckt, q_lt, q_cI, q_cJ, q_cV, q_cP, q_xI, q_xV, q_xP, q_xJ, g_gk, g_ga, g_gw, g_gp, g_gq, g_P, g_J, q_I_s, q_I_n, q_I_k, nI_add, pk_sub, pk_mul, nI_clamp, n_lt0, n_0lt, n_eq0, n_lt, n_le, n_eq, n_m1, n_m2, n_m9, n_12, n_19, n_10, n_01, n_1n1, n_0n1, n_1n0, n_0n0, n_dI, n_m1lt, q_inb, n_nar, n_nar0, n_nar1, n_bool, Bool.false_eq_true, Bool.true_eq_false, if_true, if_false, ↓reduceIte, Nat.reduceAdd, Nat.reduceMul, Nat.reduceSub, Nat.reduceLT, Nat.reduceLeDiff, Nat.reduceEqDiff, Nat.reduceMod, Nat.reduceDiv, q_R u1.1, r_pe u1, Nat.lt_irrefl]) (i := 0) (t := N1) (by omega) rfl
    obtain ⟨t, rfl, ee⟩ := Lp
    exact ee
  unfold k_aw
  by_cases h40 : 0 < K 4
  · rw [if_pos h40]
    cases ef : k_fd (k_pd2 K (k_mb K)) 99 0 with
    | none =>
      refine none1 fun p hpn => ?_
      cases em : k_mem K p with
      | false => exact out p em
      | true =>
        have : k_mp K p 99 = true := by
          have z := k_fd_none ef 99 (by omega) (by omega)
          have z2 : k_dif (k_mb K) (k_mb (k_dyn 99 K)) = 0 := by
            by_cases w : k_dif (k_mb K) (k_mb (k_dyn 99 K)) = 0
            · exact w
            · rw [show k_pd2 K (k_mb K) 99 = true from decide_eq_true w] at z; exact nomatch z
          have := k_dif_0.mp z2 p (by rw [k_mb_bit hk]; exact em)
          rw [k_mb_bit (k_dyn_ok hk 99)] at this
          exact this
        exact k_rdB (k_mp_an hk p) this
    | some D =>
      obtain ⟨z1, z2, z3, z4⟩ := k_fd_some ef
      have gb : ∀ p, (k_dif (k_mb K) (k_mb (k_dyn D K))).testBit p = (k_mem K p && !k_mp K p D) := fun p => by
        rw [k_dif_bit, k_mb_bit hk, k_mb_bit (k_dyn_ok hk D)]
        rfl
      have before : ∀ p x, k_mem K p = true → x < D → k_mp K p x = true := fun p x hm hx => by
        rcases Nat.eq_zero_or_pos x with rfl | hx0
        · exact hm
        · have z := z4 x hx0 hx
          have z5 : k_dif (k_mb K) (k_mb (k_dyn x K)) = 0 := by
            by_cases w : k_dif (k_mb K) (k_mb (k_dyn x K)) = 0
            · exact w
            · rw [show k_pd2 K (k_mb K) x = true from decide_eq_true w] at z; exact nomatch z
          have := k_dif_0.mp z5 p (by rw [k_mb_bit hk]; exact hm)
          rw [k_mb_bit (k_dyn_ok hk x)] at this
          exact this
      have gone : ∀ p, (k_mem K p && !k_mp K p D) = true → k_rdm (k_mp K p) 99 = nI D := fun p hg => by
        rw [Bool.and_eq_true, Bool.not_eq_true'] at hg
        have := k_rdA (k_mp_an hk p) hg.2 (99 - D)
        rw [show D + (99 - D) = 99 by omega] at this
        rw [this]
        obtain ⟨E, rfl⟩ : ∃ E, D = E + 1 := ⟨D - 1, by omega⟩
        show (if (k_mp K p E && !k_mp K p (E + 1)) = true then _ else _) = _
        rw [before p E hg.1 (by omega), hg.2]
        rfl
      have later : ∀ p, (k_mem K p && !k_mp K p D) = false → k_rdm (k_mp K p) 99 = -1 ∨ ∃ d, D < d ∧ d ≤ 99 ∧ k_rdm (k_mp K p) 99 = nI d := fun p hg => by
        cases em : k_mem K p with
        | false => exact Or.inl (out p em)
        | true =>
          rw [em, Bool.true_and] at hg
          have hm : k_mp K p D = true := by
            cases w : k_mp K p D
            · rw [w] at hg; exact nomatch hg
            · rfl
          have := k_rdE (k_mp_an hk p) hm (99 - D)
          rw [show D + (99 - D) = 99 by omega] at this
          exact this
      have Lp := q_up (σ := ir_M × Int32) (V := fun x t => v_X12_firstRuined_13 199 412 t.2 (nI x) t.1) (N := k_n K) (I := fun x t => t.1 = N1 ∧ ((∃ g, g < x ∧ t.2 = nI g ∧ (k_mem K g && !k_mp K g D) = true ∧ ∀ y, y < g → (k_mem K y && !k_mp K y D) = false) ∨ ((∀ y, y < x → (k_mem K y && !k_mp K y D) = false) ∧ (t.2 = -1 ∨ ∃ b d, b < x ∧ t.2 = nI b ∧ D < d ∧ d ≤ 99 ∧ k_rdm (k_mp K b) 99 = nI d)))) (K := fun t => ir_oI t.2 t.1) (by
        rintro x ⟨t, w⟩ hx ⟨rfl, hw⟩
        dsimp only at hw ⊢
        rcases hw with ⟨g, hg, rfl, g1, g2⟩ | ⟨g0, hw⟩
        · refine ⟨(t, nI g), ⟨rfl, Or.inl ⟨g, by omega, rfl, g1, g2⟩⟩, ?_⟩
          have rg := gone g g1
          have rv : k_rdm (k_mp K x) 99 = -1 ∨ ∃ d, D ≤ d ∧ d ≤ 99 ∧ k_rdm (k_mp K x) 99 = nI d := by
            cases ex : (k_mem K x && !k_mp K x D)
            · rcases later x ex with q | ⟨d, a, b, c⟩
              · exact Or.inl q
              · exact Or.inr ⟨d, by omega, b, c⟩
            · exact Or.inr ⟨D, Nat.le_refl _, by omega, gone x ex⟩
          show v_X12_firstRuined_13 199 412 (nI g) (nI x) t = v_X12_firstRuined_13 199 412 (nI g) (nI (x + 1)) t
          rw [L_X12_firstRuined_13]
          rcases rv with q | ⟨d, a, b, c⟩
          · simp (disch := omega) only [q_ckt, q_lt, q_cI, q_cJ, q_cV, q_cP, q_xI, q_xV, q_xP, q_xJ, g_gk, g_ga, g_gw, g_gp, g_gq, g_P, g_J, q_I_s, q_I_n, q_I_k, nI_add, pk_sub, pk_mul, nI_clamp, n_lt0, n_0lt, n_eq0, n_lt, n_le, n_eq, n_m1, n_m2, n_m9, n_12, n_19, n_10, n_01, n_1n1, n_0n1, n_1n0, n_0n0, n_dI, n_m1lt, q_inb, n_nar, n_nar0, n_nar1, n_bool, Bool.false_eq_true, Bool.true_eq_false, if_true, if_false, ↓reduceIte, Nat.reduceAdd, Nat.reduceMul, Nat.reduceSub, Nat.reduceLT, Nat.reduceLeDiff, Nat.reduceEqDiff, Nat.reduceMod, Nat.reduceDiv, q_R u1.1, r_pe u1, hx, v1, q]
          · simp (disch := omega) only [q_ckt, q_lt, q_cI, q_cJ, q_cV, q_cP, q_xI, q_xV, q_xP, q_xJ, g_gk, g_ga, g_gw, g_gp, g_gq, g_P, g_J, q_I_s, q_I_n, q_I_k, nI_add, pk_sub, pk_mul, nI_clamp, n_lt0, n_0lt, n_eq0, n_lt, n_le, n_eq, n_m1, n_m2, n_m9, n_12, n_19, n_10, n_01, n_1n1, n_0n1, n_1n0, n_0n0, n_dI, n_m1lt, q_inb, n_nar, n_nar0, n_nar1, n_bool, Bool.false_eq_true, Bool.true_eq_false, if_true, if_false, ↓reduceIte, Nat.reduceAdd, Nat.reduceMul, Nat.reduceSub, Nat.reduceLT, Nat.reduceLeDiff, Nat.reduceEqDiff, Nat.reduceMod, Nat.reduceDiv, q_R u1.1, r_pe u1, hx, v1, c, rg, show ¬ d < D by omega]
        · cases ex : (k_mem K x && !k_mp K x D)
          · have g0' : ∀ y, y < x + 1 → (k_mem K y && !k_mp K y D) = false := fun y hy => by
              by_cases q : y = x
              · rw [q]; exact ex
              · exact g0 y (by omega)
            rcases later x ex with q | ⟨d, a, b, c⟩
            · refine ⟨(t, w), ⟨rfl, Or.inr ⟨g0', ?_⟩⟩, ?_⟩
              · rcases hw with q | ⟨b, d, h1, h2⟩
                · exact Or.inl q
                · exact Or.inr ⟨b, d, by omega, h2⟩
              · show v_X12_firstRuined_13 199 412 w (nI x) t = v_X12_firstRuined_13 199 412 w (nI (x + 1)) t
                rw [L_X12_firstRuined_13]
                simp (disch := omega) only [q_ckt, q_lt, q_cI, q_cJ, q_cV, q_cP, q_xI, q_xV, q_xP, q_xJ, g_gk, g_ga, g_gw, g_gp, g_gq, g_P, g_J, q_I_s, q_I_n, q_I_k, nI_add, pk_sub, pk_mul, nI_clamp, n_lt0, n_0lt, n_eq0, n_lt, n_le, n_eq, n_m1, n_m2, n_m9, n_12, n_19, n_10, n_01, n_1n1, n_0n1, n_1n0, n_0n0, n_dI, n_m1lt, q_inb, n_nar, n_nar0, n_nar1, n_bool, Bool.false_eq_true, Bool.true_eq_false, if_true, if_false, ↓reduceIte, Nat.reduceAdd, Nat.reduceMul, Nat.reduceSub, Nat.reduceLT, Nat.reduceLeDiff, Nat.reduceEqDiff, Nat.reduceMod, Nat.reduceDiv, q_R u1.1, r_pe u1, hx, v1, q]
            · rcases hw with rfl | ⟨b', d', h1, rfl, h3, h4', h5⟩
              · refine ⟨(t, nI x), ⟨rfl, Or.inr ⟨g0', Or.inr ⟨x, d, by omega, rfl, a, b, c⟩⟩⟩, ?_⟩
                show v_X12_firstRuined_13 199 412 (-1) (nI x) t = v_X12_firstRuined_13 199 412 (nI x) (nI (x + 1)) t
                rw [L_X12_firstRuined_13]
                simp (disch := omega) only [q_ckt, q_lt, q_cI, q_cJ, q_cV, q_cP, q_xI, q_xV, q_xP, q_xJ, g_gk, g_ga, g_gw, g_gp, g_gq, g_P, g_J, q_I_s, q_I_n, q_I_k, nI_add, pk_sub, pk_mul, nI_clamp, n_lt0, n_0lt, n_eq0, n_lt, n_le, n_eq, n_m1, n_m2, n_m9, n_12, n_19, n_10, n_01, n_1n1, n_0n1, n_1n0, n_0n0, n_dI, n_m1lt, q_inb, n_nar, n_nar0, n_nar1, n_bool, Bool.false_eq_true, Bool.true_eq_false, if_true, if_false, ↓reduceIte, Nat.reduceAdd, Nat.reduceMul, Nat.reduceSub, Nat.reduceLT, Nat.reduceLeDiff, Nat.reduceEqDiff, Nat.reduceMod, Nat.reduceDiv, q_R u1.1, r_pe u1, hx, v1, c]
              · by_cases qd : d < d'
                · refine ⟨(t, nI x), ⟨rfl, Or.inr ⟨g0', Or.inr ⟨x, d, by omega, rfl, a, b, c⟩⟩⟩, ?_⟩
                  show v_X12_firstRuined_13 199 412 (nI b') (nI x) t = v_X12_firstRuined_13 199 412 (nI x) (nI (x + 1)) t
                  rw [L_X12_firstRuined_13]
                  simp (disch := omega) only [q_ckt, q_lt, q_cI, q_cJ, q_cV, q_cP, q_xI, q_xV, q_xP, q_xJ, g_gk, g_ga, g_gw, g_gp, g_gq, g_P, g_J, q_I_s, q_I_n, q_I_k, nI_add, pk_sub, pk_mul, nI_clamp, n_lt0, n_0lt, n_eq0, n_lt, n_le, n_eq, n_m1, n_m2, n_m9, n_12, n_19, n_10, n_01, n_1n1, n_0n1, n_1n0, n_0n0, n_dI, n_m1lt, q_inb, n_nar, n_nar0, n_nar1, n_bool, Bool.false_eq_true, Bool.true_eq_false, if_true, if_false, ↓reduceIte, Nat.reduceAdd, Nat.reduceMul, Nat.reduceSub, Nat.reduceLT, Nat.reduceLeDiff, Nat.reduceEqDiff, Nat.reduceMod, Nat.reduceDiv, q_R u1.1, r_pe u1, hx, v1, c, h5, qd]
                · refine ⟨(t, nI b'), ⟨rfl, Or.inr ⟨g0', Or.inr ⟨b', d', by omega, rfl, h3, h4', h5⟩⟩⟩, ?_⟩
                  show v_X12_firstRuined_13 199 412 (nI b') (nI x) t = v_X12_firstRuined_13 199 412 (nI b') (nI (x + 1)) t
                  rw [L_X12_firstRuined_13]
                  simp (disch := omega) only [q_ckt, q_lt, q_cI, q_cJ, q_cV, q_cP, q_xI, q_xV, q_xP, q_xJ, g_gk, g_ga, g_gw, g_gp, g_gq, g_P, g_J, q_I_s, q_I_n, q_I_k, nI_add, pk_sub, pk_mul, nI_clamp, n_lt0, n_0lt, n_eq0, n_lt, n_le, n_eq, n_m1, n_m2, n_m9, n_12, n_19, n_10, n_01, n_1n1, n_0n1, n_1n0, n_0n0, n_dI, n_m1lt, q_inb, n_nar, n_nar0, n_nar1, n_bool, Bool.false_eq_true, Bool.true_eq_false, if_true, if_false, ↓reduceIte, Nat.reduceAdd, Nat.reduceMul, Nat.reduceSub, Nat.reduceLT, Nat.reduceLeDiff, Nat.reduceEqDiff, Nat.reduceMod, Nat.reduceDiv, q_R u1.1, r_pe u1, hx, v1, c, h5, qd]
          · refine ⟨(t, nI x), ⟨rfl, Or.inl ⟨x, by omega, rfl, ex, g0⟩⟩, ?_⟩
            have c := gone x ex
            show v_X12_firstRuined_13 199 412 w (nI x) t = v_X12_firstRuined_13 199 412 (nI x) (nI (x + 1)) t
            rw [L_X12_firstRuined_13]
            rcases hw with rfl | ⟨b', d', h1, rfl, h3, h4', h5⟩
            · simp (disch := omega) only [q_ckt, q_lt, q_cI, q_cJ, q_cV, q_cP, q_xI, q_xV, q_xP, q_xJ, g_gk, g_ga, g_gw, g_gp, g_gq, g_P, g_J, q_I_s, q_I_n, q_I_k, nI_add, pk_sub, pk_mul, nI_clamp, n_lt0, n_0lt, n_eq0, n_lt, n_le, n_eq, n_m1, n_m2, n_m9, n_12, n_19, n_10, n_01, n_1n1, n_0n1, n_1n0, n_0n0, n_dI, n_m1lt, q_inb, n_nar, n_nar0, n_nar1, n_bool, Bool.false_eq_true, Bool.true_eq_false, if_true, if_false, ↓reduceIte, Nat.reduceAdd, Nat.reduceMul, Nat.reduceSub, Nat.reduceLT, Nat.reduceLeDiff, Nat.reduceEqDiff, Nat.reduceMod, Nat.reduceDiv, q_R u1.1, r_pe u1, hx, v1, c]
            · simp (disch := omega) only [q_ckt, q_lt, q_cI, q_cJ, q_cV, q_cP, q_xI, q_xV, q_xP, q_xJ, g_gk, g_ga, g_gw, g_gp, g_gq, g_P, g_J, q_I_s, q_I_n, q_I_k, nI_add, pk_sub, pk_mul, nI_clamp, n_lt0, n_0lt, n_eq0, n_lt, n_le, n_eq, n_m1, n_m2, n_m9, n_12, n_19, n_10, n_01, n_1n1, n_0n1, n_1n0, n_0n0, n_dI, n_m1lt, q_inb, n_nar, n_nar0, n_nar1, n_bool, Bool.false_eq_true, Bool.true_eq_false, if_true, if_false, ↓reduceIte, Nat.reduceAdd, Nat.reduceMul, Nat.reduceSub, Nat.reduceLT, Nat.reduceLeDiff, Nat.reduceEqDiff, Nat.reduceMod, Nat.reduceDiv, q_R u1.1, r_pe u1, hx, v1, c, h5, h3]) (by
        rintro ⟨t, w⟩ ⟨rfl, hw⟩
        show v_X12_firstRuined_13 199 412 w (nI (k_n K)) t = ir_oI w t
        rw [L_X12_firstRuined_13]
        simp (disch := omega) only [q_ckt, q_lt, q_cI, q_cJ, q_cV, q_cP, q_xI, q_xV, q_xP, q_xJ, g_gk, g_ga, g_gw, g_gp, g_gq, g_P, g_J, q_I_s, q_I_n, q_I_k, nI_add, pk_sub, pk_mul, nI_clamp, n_lt0, n_0lt, n_eq0, n_lt, n_le, n_eq, n_m1, n_m2, n_m9, n_12, n_19, n_10, n_01, n_1n1, n_0n1, n_1n0, n_0n0, n_dI, n_m1lt, q_inb, n_nar, n_nar0, n_nar1, n_bool, Bool.false_eq_true, Bool.true_eq_false, if_true, if_false, ↓reduceIte, Nat.reduceAdd, Nat.reduceMul, Nat.reduceSub, Nat.reduceLT, Nat.reduceLeDiff, Nat.reduceEqDiff, Nat.reduceMod, Nat.reduceDiv, q_R u1.1, r_pe u1, Nat.lt_irrefl]) (i := 0) (t := (N1, -1)) (by omega) ⟨rfl, Or.inr ⟨fun y hy => absurd hy (by omega), Or.inl rfl⟩⟩
      obtain ⟨⟨t, w⟩, ⟨rfl, hw⟩, ee⟩ := Lp
      refine ee.trans ?_
      dsimp only at hw ⊢
      have fe : k_on (k_f1 (fun p => (k_dif (k_mb K) (k_mb (k_dyn D K))).testBit p) (k_n K) 0) = w := by
        have hex : ∃ p, p < k_n K ∧ (k_mem K p && !k_mp K p D) = true := by
          have hne := of_decide_eq_true z1
          apply Classical.byContradiction
          intro hno
          apply hne
          refine k_dif_0.mpr fun i hi => ?_
          rw [k_mb_bit hk] at hi
          rw [k_mb_bit (k_dyn_ok hk D)]
          cases w2 : k_mem (k_dyn D K) i
          · exact absurd ⟨i, k_mem_n hk hi, by rw [hi, show k_mp K i D = false from w2]; rfl⟩ hno
          · rfl
        rcases hw with ⟨g, hg, rfl, g1, g2⟩ | ⟨g0, -⟩
        · cases e1' : k_f1 (fun p => (k_dif (k_mb K) (k_mb (k_dyn D K))).testBit p) (k_n K) 0 with
          | none =>
            have := k_f1_none e1' g (by omega) (by omega)
            rw [gb, g1] at this
            exact nomatch this
          | some g' =>
            obtain ⟨a1, a2, a3, a4⟩ := k_f1_some e1'
            rw [gb] at a1
            have : g' = g := by
              rcases Nat.lt_trichotomy g' g with q | q | q
              · rw [g2 g' q] at a1; exact nomatch a1
              · exact q
              · have := a4 g (by omega) q
                rw [gb, g1] at this
                exact nomatch this
            rw [this]
            rfl
        · obtain ⟨p, p1, p2⟩ := hex
          rw [g0 p p1] at p2
          exact nomatch p2
      rw [fe]
  · rw [if_neg h40]
    refine none1 fun p hpn => ?_
    cases em : k_mem K p with
    | false => exact out p em
    | true => exact k_rdB (k_mp_an hk p) (k_mp_0 hk h40 em 99)
end RV
