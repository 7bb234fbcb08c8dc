/-! auctions -/
def k_ct (K : Nat → Int32) (T : Nat → Int64) (mn p : Nat) : Bool := decide (p < mn) && (k_mem K p && (decide (1 ≤ (T p).toInt) && decide ((T p).toInt ≤ (K (26 + p)).toInt)))
def k_bid (K : Nat → Int32) (T : Nat → Int64) (mn p : Nat) : Int64 := if k_ct K T mn p = true then T p else 0
def k_ob (K : Nat → Int32) (T : Nat → Int64) (x w : Nat) : Bool := decide ((T w).toInt < (T x).toInt) || (decide (T x = T w) && decide (K (53 + w) < K (53 + x)))
def k_wn (K : Nat → Int32) (T : Nat → Int64) (mn : Nat) : Nat → Option Nat
  | 0 => none
  | x + 1 => if k_ct K T mn x = true then (match k_wn K T mn x with | none => some x | some w => if k_ob K T x w = true then some x else some w) else k_wn K T mn x
def k_sc (K : Nat → Int32) (T : Nat → Int64) (mn w : Nat) : Nat → Int64
  | 0 => 0
  | x + 1 => if x = w then k_sc K T mn w x else if k_ct K T mn x = true then ir_mxl (k_sc K T mn w x) (T x) else k_sc K T mn w x
theorem k_ct_t {K : Nat → Int32} {T : Nat → Int64} {mn p : Nat} (h : k_ct K T mn p = true) : p < mn ∧ k_mem K p = true ∧ 1 ≤ (T p).toInt ∧ (T p).toInt ≤ (K (26 + p)).toInt := by
  unfold k_ct at h
  simp only [Bool.and_eq_true, decide_eq_true_eq] at h
  exact ⟨h.1, h.2.1, h.2.2.1, h.2.2.2⟩
theorem k_wn_some {K : Nat → Int32} {T : Nat → Int64} {mn : Nat} : ∀ {x w : Nat}, k_wn K T mn x = some w → w < x ∧ k_ct K T mn w = true
  | 0, _, h => nomatch h
  | x + 1, w, h => by
    unfold k_wn at h
    by_cases q : k_ct K T mn x = true
    · rw [if_pos q] at h
      cases e : k_wn K T mn x with
      | none =>
        rw [e] at h
        cases h
        exact ⟨by omega, q⟩
      | some v =>
        rw [e] at h
        dsimp only at h
        by_cases q2 : k_ob K T x v = true
        · rw [if_pos q2] at h
          cases h
          exact ⟨by omega, q⟩
        · rw [if_neg q2] at h
          cases h
          have := k_wn_some e
          exact ⟨by omega, this.2⟩
    · rw [if_neg q] at h
      have := k_wn_some h
      exact ⟨by omega, this.2⟩
theorem j_0 : (0 : Int64).toInt = 0 := by decide +kernel
theorem j_11 : (1 : Int64).toInt = 1 := by decide +kernel
theorem k_sc_0 {K : Nat → Int32} {T : Nat → Int64} {mn w : Nat} : ∀ x, 0 ≤ (k_sc K T mn w x).toInt
  | 0 => by
    show 0 ≤ (0 : Int64).toInt
    rw [j_0]
    exact Int.le_refl 0
  | x + 1 => by
    have ih := k_sc_0 (K := K) (T := T) (mn := mn) (w := w) x
    unfold k_sc
    split
    · exact ih
    · split
      · next q =>
        have := k_ct_t q
        unfold ir_mxl
        split
        · exact ih
        · omega
      · exact ih
theorem k_mxl0 {a : Int64} (h : 0 ≤ a.toInt) : ir_mxl a 0 = a := by
  unfold ir_mxl
  by_cases q : (0 : Int64) < a
  · rw [if_pos q]
  · rw [if_neg q]
    rw [Int64.lt_iff_toInt_lt, j_0] at q
    rw [← Int64.toInt_inj, j_0]
    omega
theorem k_ct_kp {K : Nat → Int32} (hk : k_ok K) {T : Nat → Int64} {mn p : Nat} (hp : p < 8) : k_ct (k_kp K) T mn p = k_ct K T mn p := by
  unfold k_ct k_mem
  rw [k_kp_pl hk, k_kp_o (by omega)]
section AU
variable {M : ir_M} {K : Nat → Int32} {T : Nat → Int64} {d t mn : Nat}
theorem c_ct (h : c_rl M 12 K) (ht : c_tt M t mn T) {p : Nat} (hp : p < k_n K) : m_X11_counts (d + 2) 1 (404 + 2 * t) (nI p) M = ir_oI (if k_ct K T mn p = true then nI 1 else nI 0) M := by
  have hb := k_bds h.2.2.1
  have hu := c_use h
  have h30 := ht.2.1
  rw [E_X11_counts]
  unfold k_ct
  by_cases q : p < mn
  · have na := c_na (d := d) h.1 ht.1 ht.2.2.2.1 h30 q
    rw [ht.2.2.2.2 p q] at na
    have pl := c_pl (d := d) h (show p < 2 ^ 31 by omega)
    rw [decide_eq_true q, Bool.true_and]
    simp (disch := omega) only [q_ckt, q_lt, q_cI, q_cJ, q_cV, q_cP, q_xI, q_xV, q_xP, q_xJ, g_gk, g_ga, g_gw, g_gp, g_gq, g_P, g_J, q_I_s, q_I_n, q_I_k, nI_add, pk_sub, pk_mul, nI_clamp, n_lt0, n_0lt, n_eq0, n_lt, n_le, n_eq, n_m1, n_m2, n_m9, n_12, n_19, n_10, n_01, n_1n1, n_0n1, n_1n0, n_0n0, n_dI, n_m1lt, q_inb, n_nar, n_nar0, n_nar1, n_bool, Bool.false_eq_true, Bool.true_eq_false, if_true, if_false, ↓reduceIte, Nat.reduceAdd, Nat.reduceMul, Nat.reduceSub, Nat.reduceLT, Nat.reduceLeDiff, Nat.reduceEqDiff, Nat.reduceMod, Nat.reduceDiv, q_Yt h.1 ht.1, ht.2.2.2.1, q, q_W h.1, q_S h.1 (a := 12) (by decide), pl]
    unfold k_mem
    cases e : k_pl K p with
    | none =>
      simp (disch := omega) only [q_ckt, q_lt, q_cI, q_cJ, q_cV, q_cP, q_xI, q_xV, q_xP, q_xJ, g_gk, g_ga, g_gw, g_gp, g_gq, g_P, g_J, q_I_s, q_I_n, q_I_k, nI_add, pk_sub, pk_mul, nI_clamp, n_lt0, n_0lt, n_eq0, n_lt, n_le, n_eq, n_m1, n_m2, n_m9, n_12, n_19, n_10, n_01, n_1n1, n_0n1, n_1n0, n_0n0, n_dI, n_m1lt, q_inb, n_nar, n_nar0, n_nar1, n_bool, Bool.false_eq_true, Bool.true_eq_false, if_true, if_false, ↓reduceIte, Nat.reduceAdd, Nat.reduceMul, Nat.reduceSub, Nat.reduceLT, Nat.reduceLeDiff, Nat.reduceEqDiff, Nat.reduceMod, Nat.reduceDiv, k_on]
      rfl
    | some i =>
      have him := (k_pl_some e).1
      simp (disch := omega) only [q_ckt, q_lt, q_cI, q_cJ, q_cV, q_cP, q_xI, q_xV, q_xP, q_xJ, g_gk, g_ga, g_gw, g_gp, g_gq, g_P, g_J, q_I_s, q_I_n, q_I_k, nI_add, pk_sub, pk_mul, nI_clamp, n_lt0, n_0lt, n_eq0, n_lt, n_le, n_eq, n_m1, n_m2, n_m9, n_12, n_19, n_10, n_01, n_1n1, n_0n1, n_1n0, n_0n0, n_dI, n_m1lt, q_inb, n_nar, n_nar0, n_nar1, n_bool, Bool.false_eq_true, Bool.true_eq_false, if_true, if_false, ↓reduceIte, Nat.reduceAdd, Nat.reduceMul, Nat.reduceSub, Nat.reduceLT, Nat.reduceLeDiff, Nat.reduceEqDiff, Nat.reduceMod, Nat.reduceDiv, k_on, na, hu, q_W h.1, q_S h.1 (a := 12) (by decide)]
      have e1 : lg_cmp (T p) (1 : Int64) < 0 ↔ (T p).toInt < 1 := by rw [k_c1, Int64.lt_iff_toInt_lt, j_11]
      have e2 : 0 < lg_cmp (T p) (K (26 + p)).toInt64 ↔ (K (26 + p)).toInt < (T p).toInt := by rw [k_c2, Int64.lt_iff_toInt_lt, Int32.toInt_toInt64]
      by_cases q1 : lg_cmp (T p) (1 : Int64) < 0
      · rw [if_pos q1, decide_eq_false (fun w : 1 ≤ (T p).toInt => by have := e1.mp q1; omega)]
        rfl
      · rw [if_neg q1, decide_eq_true (show 1 ≤ (T p).toInt by
          have : ¬ (T p).toInt < 1 := fun w => q1 (e1.mpr w)
          omega)]
        by_cases q2 : 0 < lg_cmp (T p) (K (26 + p)).toInt64
        · rw [if_pos q2, decide_eq_false (fun w : (T p).toInt ≤ (K (26 + p)).toInt => by have := e2.mp q2; omega)]
          rfl
        · rw [if_neg q2, decide_eq_true (show (T p).toInt ≤ (K (26 + p)).toInt by
            have : ¬ (K (26 + p)).toInt < (T p).toInt := fun w => q2 (e2.mpr w)
            omega)]
          rfl
  · rw [decide_eq_false q]
    simp (disch := omega) only [q_ckt, q_lt, q_cI, q_cJ, q_cV, q_cP, q_xI, q_xV, q_xP, q_xJ, g_gk, g_ga, g_gw, g_gp, g_gq, g_P, g_J, q_I_s, q_I_n, q_I_k, nI_add, pk_sub, pk_mul, nI_clamp, n_lt0, n_0lt, n_eq0, n_lt, n_le, n_eq, n_m1, n_m2, n_m9, n_12, n_19, n_10, n_01, n_1n1, n_0n1, n_1n0, n_0n0, n_dI, n_m1lt, q_inb, n_nar, n_nar0, n_nar1, n_bool, Bool.false_eq_true, Bool.true_eq_false, if_true, if_false, ↓reduceIte, Nat.reduceAdd, Nat.reduceMul, Nat.reduceSub, Nat.reduceLT, Nat.reduceLeDiff, Nat.reduceEqDiff, Nat.reduceMod, Nat.reduceDiv, q_Yt h.1 ht.1, ht.2.2.2.1, q]
    rfl
theorem r_bid (h : r_rl M K) (ht : r_tt M t mn T) {p : Nat} (hp : p < k_n K) : m_X12_bid (d + 3) 412 (nI t) (nI p) M = ir_oJ (k_bid K T mn p) M := by
  have hb := k_bds h.2.1
  have h4 := ht.1
  have h30 := ht.2.1
  rw [E_X12_bid]
  unfold k_bid k_ct
  by_cases q : p < mn
  · have na := ht.2.2.2 p q
    have pl := r_placeOf (d := d) h (show p < 2 ^ 31 by omega)
    rw [decide_eq_true q, Bool.true_and]
    simp (disch := omega) only [q_ckt, q_lt, q_cI, q_cJ, q_cV, q_cP, q_xI, q_xV, q_xP, q_xJ, g_gk, g_ga, g_gw, g_gp, g_gq, g_P, g_J, q_I_s, q_I_n, q_I_k, nI_add, pk_sub, pk_mul, nI_clamp, n_lt0, n_0lt, n_eq0, n_lt, n_le, n_eq, n_m1, n_m2, n_m9, n_12, n_19, n_10, n_01, n_1n1, n_0n1, n_1n0, n_0n0, n_dI, n_m1lt, q_inb, n_nar, n_nar0, n_nar1, n_bool, Bool.false_eq_true, Bool.true_eq_false, if_true, if_false, ↓reduceIte, Nat.reduceAdd, Nat.reduceMul, Nat.reduceSub, Nat.reduceLT, Nat.reduceLeDiff, Nat.reduceEqDiff, Nat.reduceMod, Nat.reduceDiv, q_R h.1, ht.2.2.1, q, pl]
    unfold k_mem
    cases e : k_pl K p with
    | none =>
      simp (disch := omega) only [q_ckt, q_lt, q_cI, q_cJ, q_cV, q_cP, q_xI, q_xV, q_xP, q_xJ, g_gk, g_ga, g_gw, g_gp, g_gq, g_P, g_J, q_I_s, q_I_n, q_I_k, nI_add, pk_sub, pk_mul, nI_clamp, n_lt0, n_0lt, n_eq0, n_lt, n_le, n_eq, n_m1, n_m2, n_m9, n_12, n_19, n_10, n_01, n_1n1, n_0n1, n_1n0, n_0n0, n_dI, n_m1lt, q_inb, n_nar, n_nar0, n_nar1, n_bool, Bool.false_eq_true, Bool.true_eq_false, if_true, if_false, ↓reduceIte, Nat.reduceAdd, Nat.reduceMul, Nat.reduceSub, Nat.reduceLT, Nat.reduceLeDiff, Nat.reduceEqDiff, Nat.reduceMod, Nat.reduceDiv, k_on]
      rfl
    | some i =>
      have him := (k_pl_some e).1
      simp (disch := omega) only [q_ckt, q_lt, q_cI, q_cJ, q_cV, q_cP, q_xI, q_xV, q_xP, q_xJ, g_gk, g_ga, g_gw, g_gp, g_gq, g_P, g_J, q_I_s, q_I_n, q_I_k, nI_add, pk_sub, pk_mul, nI_clamp, n_lt0, n_0lt, n_eq0, n_lt, n_le, n_eq, n_m1, n_m2, n_m9, n_12, n_19, n_10, n_01, n_1n1, n_0n1, n_1n0, n_0n0, n_dI, n_m1lt, q_inb, n_nar, n_nar0, n_nar1, n_bool, Bool.false_eq_true, Bool.true_eq_false, if_true, if_false, ↓reduceIte, Nat.reduceAdd, Nat.reduceMul, Nat.reduceSub, Nat.reduceLT, Nat.reduceLeDiff, Nat.reduceEqDiff, Nat.reduceMod, Nat.reduceDiv, k_on, na, h.2.2, r_within]
      rw [j_11, Int32.toInt_toInt64]
      by_cases q1 : 1 ≤ (T p).toInt ∧ (T p).toInt ≤ (K (26 + p)).toInt
      · rw [decide_eq_true q1.1, decide_eq_true q1.2]
        simp (disch := omega) only [q_ckt, q_lt, q_cI, q_cJ, q_cV, q_cP, q_xI, q_xV, q_xP, q_xJ, g_gk, g_ga, g_gw, g_gp, g_gq, g_P, g_J, q_I_s, q_I_n, q_I_k, nI_add, pk_sub, pk_mul, nI_clamp, n_lt0, n_0lt, n_eq0, n_lt, n_le, n_eq, n_m1, n_m2, n_m9, n_12, n_19, n_10, n_01, n_1n1, n_0n1, n_1n0, n_0n0, n_dI, n_m1lt, q_inb, n_nar, n_nar0, n_nar1, n_bool, Bool.false_eq_true, Bool.true_eq_false, if_true, if_false, ↓reduceIte, Nat.reduceAdd, Nat.reduceMul, Nat.reduceSub, Nat.reduceLT, Nat.reduceLeDiff, Nat.reduceEqDiff, Nat.reduceMod, Nat.reduceDiv, q1, and_self, q_R h.1, na]
        rfl
      · rw [if_neg q1]
        have : (decide (1 ≤ (T p).toInt) && decide ((T p).toInt ≤ (K (26 + p)).toInt)) = false := by
          rw [← Bool.not_eq_true, Bool.and_eq_true, decide_eq_true_eq, decide_eq_true_eq]
          exact q1
        rw [this]
        simp (disch := omega) only [q_ckt, q_lt, q_cI, q_cJ, q_cV, q_cP, q_xI, q_xV, q_xP, q_xJ, g_gk, g_ga, g_gw, g_gp, g_gq, g_P, g_J, q_I_s, q_I_n, q_I_k, nI_add, pk_sub, pk_mul, nI_clamp, n_lt0, n_0lt, n_eq0, n_lt, n_le, n_eq, n_m1, n_m2, n_m9, n_12, n_19, n_10, n_01, n_1n1, n_0n1, n_1n0, n_0n0, n_dI, n_m1lt, q_inb, n_nar, n_nar0, n_nar1, n_bool, Bool.false_eq_true, Bool.true_eq_false, if_true, if_false, ↓reduceIte, Nat.reduceAdd, Nat.reduceMul, Nat.reduceSub, Nat.reduceLT, Nat.reduceLeDiff, Nat.reduceEqDiff, Nat.reduceMod, Nat.reduceDiv]
        rfl
  · rw [decide_eq_false q]
    simp (disch := omega) only [q_ckt, q_lt, q_cI, q_cJ, q_cV, q_cP, q_xI, q_xV, q_xP, q_xJ, g_gk, g_ga, g_gw, g_gp, g_gq, g_P, g_J, q_I_s, q_I_n, q_I_k, nI_add, pk_sub, pk_mul, nI_clamp, n_lt0, n_0lt, n_eq0, n_lt, n_le, n_eq, n_m1, n_m2, n_m9, n_12, n_19, n_10, n_01, n_1n1, n_0n1, n_1n0, n_0n0, n_dI, n_m1lt, q_inb, n_nar, n_nar0, n_nar1, n_bool, Bool.false_eq_true, Bool.true_eq_false, if_true, if_false, ↓reduceIte, Nat.reduceAdd, Nat.reduceMul, Nat.reduceSub, Nat.reduceLT, Nat.reduceLeDiff, Nat.reduceEqDiff, Nat.reduceMod, Nat.reduceDiv, q_R h.1, ht.2.2.1, q]
    rfl
theorem k_bid_0 {p : Nat} : (lg_cmp (k_bid K T mn p) (0 : Int64) = 0) = (k_ct K T mn p = false) := by
  rw [k_c0]
  unfold k_bid
  cases e : k_ct K T mn p
  · rw [if_neg (by decide)]
    simp
  · rw [if_pos rfl]
    have := k_ct_t e
    refine propext ⟨fun w => ?_, fun w => nomatch w⟩
    rw [w, j_0] at this
    omega
/-- how the reference compares -/
theorem k_more {x w : Nat} (hx : k_ct K T mn x = true) (hw : k_ct K T mn w = true) : ((0 < lg_cmp (T x - T w) (0 : Int64)) = ((T w).toInt < (T x).toInt)) ∧ ((lg_cmp (T x - T w) (0 : Int64) = 0) = (T x = T w)) := by
  obtain ⟨-, -, x1, x2⟩ := k_ct_t hx
  obtain ⟨-, -, w1, w2⟩ := k_ct_t hw
  have b1 := Int32.toInt_lt (K (26 + x))
  have b2 := Int32.toInt_lt (K (26 + w))
  have s : (T x - T w).toInt = (T x).toInt - (T w).toInt := by
    rw [Int64.toInt_sub]
    exact Int.bmod_eq_of_le (by omega) (by omega)
  constructor
  · rw [k_c2, Int64.lt_iff_toInt_lt, s, j_0]
    exact propext ⟨fun h => by omega, fun h => by omega⟩
  · rw [k_c0, ← Int64.toInt_inj, s, j_0, ← Int64.toInt_inj]
    exact propext ⟨fun h => by omega, fun h => by omega⟩
theorem c_wn (h : c_rl M 12 K) (ht : c_tt M t mn T) {pl : Int32} : ∃ M', M' = M ∧ v_X11_auction_17 (d + 3) 1 pl (404 + 2 * t) (-1) (nI 0) M = v_X11_auction_17 (d + 3) 1 pl (404 + 2 * t) (k_on (k_wn K T mn (k_n K))) (nI (k_n K)) M' := by
  have hb := k_bds h.2.2.1
  have hu := c_use h
  have h30 := ht.2.1
  have Lp := q_up (σ := ir_M) (V := fun x s => v_X11_auction_17 (d + 3) 1 pl (404 + 2 * t) (k_on (k_wn K T mn x)) (nI x) s) (N := k_n K) (I := fun _ s => s = M) (K := fun s => v_X11_auction_17 (d + 3) 1 pl (404 + 2 * t) (k_on (k_wn K T mn (k_n K))) (nI (k_n K)) s) (by
    rintro x s hx rfl
    refine ⟨s, rfl, ?_⟩
    have ct := c_ct (d := d + 1) h ht hx
    rw [L_X11_auction_17]
    rw [show k_wn K T mn (x + 1) = if k_ct K T mn x = true then (match k_wn K T mn x with | none => some x | some w => if k_ob K T x w = true then some x else some w) else k_wn K T mn x from rfl]
    cases e : k_ct K T mn x
    · rw [e] at ct
      simp (disch := omega) only [q_ckt, q_lt, q_cI, q_cJ, q_cV, q_cP, q_xI, q_xV, q_xP, q_xJ, g_gk, g_ga, g_gw, g_gp, g_gq, g_P, g_J, q_I_s, q_I_n, q_I_k, nI_add, pk_sub, pk_mul, nI_clamp, n_lt0, n_0lt, n_eq0, n_lt, n_le, n_eq, n_m1, n_m2, n_m9, n_12, n_19, n_10, n_01, n_1n1, n_0n1, n_1n0, n_0n0, n_dI, n_m1lt, q_inb, n_nar, n_nar0, n_nar1, n_bool, Bool.false_eq_true, Bool.true_eq_false, if_true, if_false, ↓reduceIte, Nat.reduceAdd, Nat.reduceMul, Nat.reduceSub, Nat.reduceLT, Nat.reduceLeDiff, Nat.reduceEqDiff, Nat.reduceMod, Nat.reduceDiv, q_W h.1, q_T h.1, hu, hx, ct]
    · rw [e] at ct
      obtain ⟨xm, -, x1, x2⟩ := k_ct_t e
      cases ew : k_wn K T mn x with
      | none =>
        simp (disch := omega) only [q_ckt, q_lt, q_cI, q_cJ, q_cV, q_cP, q_xI, q_xV, q_xP, q_xJ, g_gk, g_ga, g_gw, g_gp, g_gq, g_P, g_J, q_I_s, q_I_n, q_I_k, nI_add, pk_sub, pk_mul, nI_clamp, n_lt0, n_0lt, n_eq0, n_lt, n_le, n_eq, n_m1, n_m2, n_m9, n_12, n_19, n_10, n_01, n_1n1, n_0n1, n_1n0, n_0n0, n_dI, n_m1lt, q_inb, n_nar, n_nar0, n_nar1, n_bool, Bool.false_eq_true, Bool.true_eq_false, if_true, if_false, ↓reduceIte, Nat.reduceAdd, Nat.reduceMul, Nat.reduceSub, Nat.reduceLT, Nat.reduceLeDiff, Nat.reduceEqDiff, Nat.reduceMod, Nat.reduceDiv, q_W h.1, q_T h.1, hu, hx, ct, k_on]
      | some w =>
        obtain ⟨wx, cw⟩ := k_wn_some ew
        obtain ⟨wm, -, w1, w2⟩ := k_ct_t cw
        have na := c_na (d := d + 1) h.1 ht.1 ht.2.2.2.1 h30 xm
        rw [ht.2.2.2.2 x xm] at na
        have nb := c_na (d := d + 1) h.1 ht.1 ht.2.2.2.1 h30 wm
        rw [ht.2.2.2.2 w wm] at nb
        have ob : m_X11_outbids (d + 3) 1 (404 + 2 * t) (nI x) (nI w) s = ir_oI (if k_ob K T x w = true then nI 1 else nI 0) s := by
          rw [E_X11_outbids]
          unfold k_ob
          simp (disch := omega) only [q_ckt, q_lt, q_cI, q_cJ, q_cV, q_cP, q_xI, q_xV, q_xP, q_xJ, g_gk, g_ga, g_gw, g_gp, g_gq, g_P, g_J, q_I_s, q_I_n, q_I_k, nI_add, pk_sub, pk_mul, nI_clamp, n_lt0, n_0lt, n_eq0, n_lt, n_le, n_eq, n_m1, n_m2, n_m9, n_12, n_19, n_10, n_01, n_1n1, n_0n1, n_1n0, n_0n0, n_dI, n_m1lt, q_inb, n_nar, n_nar0, n_nar1, n_bool, Bool.false_eq_true, Bool.true_eq_false, if_true, if_false, ↓reduceIte, Nat.reduceAdd, Nat.reduceMul, Nat.reduceSub, Nat.reduceLT, Nat.reduceLeDiff, Nat.reduceEqDiff, Nat.reduceMod, Nat.reduceDiv, q_Yt h.1 ht.1, na, nb]
          have e1 : 0 < lg_cmp (T x) (T w) ↔ (T w).toInt < (T x).toInt := by rw [k_c2, Int64.lt_iff_toInt_lt]
          have e2 := k_c0 (T x) (T w)
          by_cases q1 : 0 < lg_cmp (T x) (T w)
          · rw [if_pos q1, decide_eq_true (e1.mp q1), Bool.true_or]
            rfl
          · rw [if_neg q1, decide_eq_false (fun z => q1 (e1.mpr z)), Bool.false_or]
            by_cases q2 : lg_cmp (T x) (T w) = 0
            · rw [if_pos q2, decide_eq_true (e2.mp q2), Bool.true_and]
              simp (disch := omega) only [q_ckt, q_lt, q_cI, q_cJ, q_cV, q_cP, q_xI, q_xV, q_xP, q_xJ, g_gk, g_ga, g_gw, g_gp, g_gq, g_P, g_J, q_I_s, q_I_n, q_I_k, nI_add, pk_sub, pk_mul, nI_clamp, n_lt0, n_0lt, n_eq0, n_lt, n_le, n_eq, n_m1, n_m2, n_m9, n_12, n_19, n_10, n_01, n_1n1, n_0n1, n_1n0, n_0n0, n_dI, n_m1lt, q_inb, n_nar, n_nar0, n_nar1, n_bool, Bool.false_eq_true, Bool.true_eq_false, if_true, if_false, ↓reduceIte, Nat.reduceAdd, Nat.reduceMul, Nat.reduceSub, Nat.reduceLT, Nat.reduceLeDiff, Nat.reduceEqDiff, Nat.reduceMod, Nat.reduceDiv, q_W h.1, q_T h.1, hu]
              by_cases q3 : K (53 + w) < K (53 + x)
              · rw [if_pos q3, decide_eq_true q3]
                rfl
              · rw [if_neg q3, decide_eq_false q3]
                rfl
            · rw [if_neg q2, decide_eq_false (fun z => q2 (e2.mpr z))]
              rfl
        simp (disch := omega) only [q_ckt, q_lt, q_cI, q_cJ, q_cV, q_cP, q_xI, q_xV, q_xP, q_xJ, g_gk, g_ga, g_gw, g_gp, g_gq, g_P, g_J, q_I_s, q_I_n, q_I_k, nI_add, pk_sub, pk_mul, nI_clamp, n_lt0, n_0lt, n_eq0, n_lt, n_le, n_eq, n_m1, n_m2, n_m9, n_12, n_19, n_10, n_01, n_1n1, n_0n1, n_1n0, n_0n0, n_dI, n_m1lt, q_inb, n_nar, n_nar0, n_nar1, n_bool, Bool.false_eq_true, Bool.true_eq_false, if_true, if_false, ↓reduceIte, Nat.reduceAdd, Nat.reduceMul, Nat.reduceSub, Nat.reduceLT, Nat.reduceLeDiff, Nat.reduceEqDiff, Nat.reduceMod, Nat.reduceDiv, q_W h.1, q_T h.1, hu, hx, ct, k_on, ob]
        cases eo : k_ob K T x w
        · simp (disch := omega) only [q_ckt, q_lt, q_cI, q_cJ, q_cV, q_cP, q_xI, q_xV, q_xP, q_xJ, g_gk, g_ga, g_gw, g_gp, g_gq, g_P, g_J, q_I_s, q_I_n, q_I_k, nI_add, pk_sub, pk_mul, nI_clamp, n_lt0, n_0lt, n_eq0, n_lt, n_le, n_eq, n_m1, n_m2, n_m9, n_12, n_19, n_10, n_01, n_1n1, n_0n1, n_1n0, n_0n0, n_dI, n_m1lt, q_inb, n_nar, n_nar0, n_nar1, n_bool, Bool.false_eq_true, Bool.true_eq_false, if_true, if_false, ↓reduceIte, Nat.reduceAdd, Nat.reduceMul, Nat.reduceSub, Nat.reduceLT, Nat.reduceLeDiff, Nat.reduceEqDiff, Nat.reduceMod, Nat.reduceDiv, k_on]
        · simp (disch := omega) only [q_ckt, q_lt, q_cI, q_cJ, q_cV, q_cP, q_xI, q_xV, q_xP, q_xJ, g_gk, g_ga, g_gw, g_gp, g_gq, g_P, g_J, q_I_s, q_I_n, q_I_k, nI_add, pk_sub, pk_mul, nI_clamp, n_lt0, n_0lt, n_eq0, n_lt, n_le, n_eq, n_m1, n_m2, n_m9, n_12, n_19, n_10, n_01, n_1n1, n_0n1, n_1n0, n_0n0, n_dI, n_m1lt, q_inb, n_nar, n_nar0, n_nar1, n_bool, Bool.false_eq_true, Bool.true_eq_false, if_true, if_false, ↓reduceIte, Nat.reduceAdd, Nat.reduceMul, Nat.reduceSub, Nat.reduceLT, Nat.reduceLeDiff, Nat.reduceEqDiff, Nat.reduceMod, Nat.reduceDiv, k_on]) (by
    rintro s rfl
    rfl) (i := 0) (t := M) (by omega) rfl
  exact Lp
theorem r_wn (h : r_rl M K) (ht : r_tt M t mn T) {pl : Int32} : ∃ M', M' = M ∧ v_X12_auction_44 (d + 3) 412 pl (nI t) (-1) (nI 0) M = v_X12_auction_44 (d + 3) 412 pl (nI t) (k_on (k_wn K T mn (k_n K))) (nI (k_n K)) M' := by
  have hb := k_bds h.2.1
  have h4 := ht.1
  have h30 := ht.2.1
  have Lp := q_up (σ := ir_M) (V := fun x s => v_X12_auction_44 (d + 3) 412 pl (nI t) (k_on (k_wn K T mn x)) (nI x) s) (N := k_n K) (I := fun _ s => s = M) (K := fun s => v_X12_auction_44 (d + 3) 412 pl (nI t) (k_on (k_wn K T mn (k_n K))) (nI (k_n K)) s) (by
    rintro x s hx rfl
    refine ⟨s, rfl, ?_⟩
    have bx := r_bid (d := d) h ht hx
    have b0 := k_bid_0 (K := K) (T := T) (mn := mn) (p := x)
    rw [L_X12_auction_44]
    rw [show k_wn K T mn (x + 1) = if k_ct K T mn x = true then (match k_wn K T mn x with | none => some x | some w => if k_ob K T x w = true then some x else some w) else k_wn K T mn x from rfl]
    cases e : k_ct K T mn x
    · rw [e] at b0
      simp (disch := omega) only [q_ckt, q_lt, q_cI, q_cJ, q_cV, q_cP, q_xI, q_xV, q_xP, q_xJ, g_gk, g_ga, g_gw, g_gp, g_gq, g_P, g_J, q_I_s, q_I_n, q_I_k, nI_add, pk_sub, pk_mul, nI_clamp, n_lt0, n_0lt, n_eq0, n_lt, n_le, n_eq, n_m1, n_m2, n_m9, n_12, n_19, n_10, n_01, n_1n1, n_0n1, n_1n0, n_0n0, n_dI, n_m1lt, q_inb, n_nar, n_nar0, n_nar1, n_bool, Bool.false_eq_true, Bool.true_eq_false, if_true, if_false, ↓reduceIte, Nat.reduceAdd, Nat.reduceMul, Nat.reduceSub, Nat.reduceLT, Nat.reduceLeDiff, Nat.reduceEqDiff, Nat.reduceMod, Nat.reduceDiv, q_R h.1, r_pe h, hx, bx, b0]
    · rw [e] at b0
      have bx' : k_bid K T mn x = T x := if_pos e
      obtain ⟨xm, -, x1, x2⟩ := k_ct_t e
      cases ew : k_wn K T mn x with
      | none =>
        simp (disch := omega) only [q_ckt, q_lt, q_cI, q_cJ, q_cV, q_cP, q_xI, q_xV, q_xP, q_xJ, g_gk, g_ga, g_gw, g_gp, g_gq, g_P, g_J, q_I_s, q_I_n, q_I_k, nI_add, pk_sub, pk_mul, nI_clamp, n_lt0, n_0lt, n_eq0, n_lt, n_le, n_eq, n_m1, n_m2, n_m9, n_12, n_19, n_10, n_01, n_1n1, n_0n1, n_1n0, n_0n0, n_dI, n_m1lt, q_inb, n_nar, n_nar0, n_nar1, n_bool, Bool.false_eq_true, Bool.true_eq_false, if_true, if_false, ↓reduceIte, Nat.reduceAdd, Nat.reduceMul, Nat.reduceSub, Nat.reduceLT, Nat.reduceLeDiff, Nat.reduceEqDiff, Nat.reduceMod, Nat.reduceDiv, q_R h.1, r_pe h, hx, bx, b0, k_on, L_X12_auction_91, show (0 : Int32) < lg_cmp (1 : Int64) (0 : Int64) by decide +kernel]
      | some w =>
        obtain ⟨wx, cw⟩ := k_wn_some ew
        have bw := r_bid (d := d) h ht (show w < k_n K by omega)
        have bw' : k_bid K T mn w = T w := if_pos cw
        obtain ⟨m1, m2⟩ := k_more e cw
        simp (disch := omega) only [q_ckt, q_lt, q_cI, q_cJ, q_cV, q_cP, q_xI, q_xV, q_xP, q_xJ, g_gk, g_ga, g_gw, g_gp, g_gq, g_P, g_J, q_I_s, q_I_n, q_I_k, nI_add, pk_sub, pk_mul, nI_clamp, n_lt0, n_0lt, n_eq0, n_lt, n_le, n_eq, n_m1, n_m2, n_m9, n_12, n_19, n_10, n_01, n_1n1, n_0n1, n_1n0, n_0n0, n_dI, n_m1lt, q_inb, n_nar, n_nar0, n_nar1, n_bool, Bool.false_eq_true, Bool.true_eq_false, if_true, if_false, ↓reduceIte, Nat.reduceAdd, Nat.reduceMul, Nat.reduceSub, Nat.reduceLT, Nat.reduceLeDiff, Nat.reduceEqDiff, Nat.reduceMod, Nat.reduceDiv, q_R h.1, r_pe h, hx, bx, b0, k_on, bw]
        rw [bx', bw', L_X12_auction_91]
        simp only [m1, m2]
        unfold k_ob
        by_cases q1 : (T w).toInt < (T x).toInt
        · simp (disch := omega) only [q_ckt, q_lt, q_cI, q_cJ, q_cV, q_cP, q_xI, q_xV, q_xP, q_xJ, g_gk, g_ga, g_gw, g_gp, g_gq, g_P, g_J, q_I_s, q_I_n, q_I_k, nI_add, pk_sub, pk_mul, nI_clamp, n_lt0, n_0lt, n_eq0, n_lt, n_le, n_eq, n_m1, n_m2, n_m9, n_12, n_19, n_10, n_01, n_1n1, n_0n1, n_1n0, n_0n0, n_dI, n_m1lt, q_inb, n_nar, n_nar0, n_nar1, n_bool, Bool.false_eq_true, Bool.true_eq_false, if_true, if_false, ↓reduceIte, Nat.reduceAdd, Nat.reduceMul, Nat.reduceSub, Nat.reduceLT, Nat.reduceLeDiff, Nat.reduceEqDiff, Nat.reduceMod, Nat.reduceDiv, q1, decide_true, Bool.true_or]
        · rw [if_neg q1, decide_eq_false q1, Bool.false_or]
          by_cases q2 : T x = T w
          · rw [if_pos q2, decide_eq_true q2, Bool.true_and]
            simp (disch := omega) only [q_ckt, q_lt, q_cI, q_cJ, q_cV, q_cP, q_xI, q_xV, q_xP, q_xJ, g_gk, g_ga, g_gw, g_gp, g_gq, g_P, g_J, q_I_s, q_I_n, q_I_k, nI_add, pk_sub, pk_mul, nI_clamp, n_lt0, n_0lt, n_eq0, n_lt, n_le, n_eq, n_m1, n_m2, n_m9, n_12, n_19, n_10, n_01, n_1n1, n_0n1, n_1n0, n_0n0, n_dI, n_m1lt, q_inb, n_nar, n_nar0, n_nar1, n_bool, Bool.false_eq_true, Bool.true_eq_false, if_true, if_false, ↓reduceIte, Nat.reduceAdd, Nat.reduceMul, Nat.reduceSub, Nat.reduceLT, Nat.reduceLeDiff, Nat.reduceEqDiff, Nat.reduceMod, Nat.reduceDiv, q_R h.1, h.2.2]
            by_cases q3 : K (53 + w) < K (53 + x)
            · rw [if_pos q3, decide_eq_true q3]
              simp (disch := omega) only [q_ckt, q_lt, q_cI, q_cJ, q_cV, q_cP, q_xI, q_xV, q_xP, q_xJ, g_gk, g_ga, g_gw, g_gp, g_gq, g_P, g_J, q_I_s, q_I_n, q_I_k, nI_add, pk_sub, pk_mul, nI_clamp, n_lt0, n_0lt, n_eq0, n_lt, n_le, n_eq, n_m1, n_m2, n_m9, n_12, n_19, n_10, n_01, n_1n1, n_0n1, n_1n0, n_0n0, n_dI, n_m1lt, q_inb, n_nar, n_nar0, n_nar1, n_bool, Bool.false_eq_true, Bool.true_eq_false, if_true, if_false, ↓reduceIte, Nat.reduceAdd, Nat.reduceMul, Nat.reduceSub, Nat.reduceLT, Nat.reduceLeDiff, Nat.reduceEqDiff, Nat.reduceMod, Nat.reduceDiv]
            · rw [if_neg q3, decide_eq_false q3]
              simp (disch := omega) only [q_ckt, q_lt, q_cI, q_cJ, q_cV, q_cP, q_xI, q_xV, q_xP, q_xJ, g_gk, g_ga, g_gw, g_gp, g_gq, g_P, g_J, q_I_s, q_I_n, q_I_k, nI_add, pk_sub, pk_mul, nI_clamp, n_lt0, n_0lt, n_eq0, n_lt, n_le, n_eq, n_m1, n_m2, n_m9, n_12, n_19, n_10, n_01, n_1n1, n_0n1, n_1n0, n_0n0, n_dI, n_m1lt, q_inb, n_nar, n_nar0, n_nar1, n_bool, Bool.false_eq_true, Bool.true_eq_false, if_true, if_false, ↓reduceIte, Nat.reduceAdd, Nat.reduceMul, Nat.reduceSub, Nat.reduceLT, Nat.reduceLeDiff, Nat.reduceEqDiff, Nat.reduceMod, Nat.reduceDiv]
          · rw [if_neg q2, decide_eq_false q2, Bool.false_and]
            simp (disch := omega) only [q_ckt, q_lt, q_cI, q_cJ, q_cV, q_cP, q_xI, q_xV, q_xP, q_xJ, g_gk, g_ga, g_gw, g_gp, g_gq, g_P, g_J, q_I_s, q_I_n, q_I_k, nI_add, pk_sub, pk_mul, nI_clamp, n_lt0, n_0lt, n_eq0, n_lt, n_le, n_eq, n_m1, n_m2, n_m9, n_12, n_19, n_10, n_01, n_1n1, n_0n1, n_1n0, n_0n0, n_dI, n_m1lt, q_inb, n_nar, n_nar0, n_nar1, n_bool, Bool.false_eq_true, Bool.true_eq_false, if_true, if_false, ↓reduceIte, Nat.reduceAdd, Nat.reduceMul, Nat.reduceSub, Nat.reduceLT, Nat.reduceLeDiff, Nat.reduceEqDiff, Nat.reduceMod, Nat.reduceDiv]) (by
    rintro s rfl
    rfl) (i := 0) (t := M) (by omega) rfl
  exact Lp
theorem c_sec (h : c_rl M 12 K) (ht : c_tt M t mn T) {w hd : Nat} (hw : w < k_n K) (hh : hd < k_n K) : ∃ M', v_X11_payForPlace_12 (d + 2) 1 (404 + 2 * t) (nI w) (nI hd) 0 (nI 0) M = ir_oV M' ∧ q_eq [15] M M' ∧ c_st M' 12 (k_pay K w hd (k_sc K T mn w (k_n K)).toInt32) := by
  have hb := k_bds h.2.2.1
  have hu := c_use h
  have h30 := ht.2.1
  have Lp := q_up (σ := ir_M) (V := fun x s => v_X11_payForPlace_12 (d + 2) 1 (404 + 2 * t) (nI w) (nI hd) (k_sc K T mn w x) (nI x) s) (N := k_n K) (I := fun _ s => s = M) (K := fun s => v_X11_payForPlace_12 (d + 2) 1 (404 + 2 * t) (nI w) (nI hd) (k_sc K T mn w (k_n K)) (nI (k_n K)) s) (by
    rintro x s hx rfl
    refine ⟨s, rfl, ?_⟩
    have ct := c_ct (d := d) h ht hx
    rw [L_X11_payForPlace_12]
    rw [show k_sc K T mn w (x + 1) = if x = w then k_sc K T mn w x else if k_ct K T mn x = true then ir_mxl (k_sc K T mn w x) (T x) else k_sc K T mn w x from rfl]
    by_cases q : x = w
    · rw [if_pos q]
      simp (disch := omega) only [q_ckt, q_lt, q_cI, q_cJ, q_cV, q_cP, q_xI, q_xV, q_xP, q_xJ, g_gk, g_ga, g_gw, g_gp, g_gq, g_P, g_J, q_I_s, q_I_n, q_I_k, nI_add, pk_sub, pk_mul, nI_clamp, n_lt0, n_0lt, n_eq0, n_lt, n_le, n_eq, n_m1, n_m2, n_m9, n_12, n_19, n_10, n_01, n_1n1, n_0n1, n_1n0, n_0n0, n_dI, n_m1lt, q_inb, n_nar, n_nar0, n_nar1, n_bool, Bool.false_eq_true, Bool.true_eq_false, if_true, if_false, ↓reduceIte, Nat.reduceAdd, Nat.reduceMul, Nat.reduceSub, Nat.reduceLT, Nat.reduceLeDiff, Nat.reduceEqDiff, Nat.reduceMod, Nat.reduceDiv, q_W h.1, q_T h.1, hu, hx, q, hw]
    · rw [if_neg q]
      cases e : k_ct K T mn x
      · rw [e] at ct
        simp (disch := omega) only [q_ckt, q_lt, q_cI, q_cJ, q_cV, q_cP, q_xI, q_xV, q_xP, q_xJ, g_gk, g_ga, g_gw, g_gp, g_gq, g_P, g_J, q_I_s, q_I_n, q_I_k, nI_add, pk_sub, pk_mul, nI_clamp, n_lt0, n_0lt, n_eq0, n_lt, n_le, n_eq, n_m1, n_m2, n_m9, n_12, n_19, n_10, n_01, n_1n1, n_0n1, n_1n0, n_0n0, n_dI, n_m1lt, q_inb, n_nar, n_nar0, n_nar1, n_bool, Bool.false_eq_true, Bool.true_eq_false, if_true, if_false, ↓reduceIte, Nat.reduceAdd, Nat.reduceMul, Nat.reduceSub, Nat.reduceLT, Nat.reduceLeDiff, Nat.reduceEqDiff, Nat.reduceMod, Nat.reduceDiv, q_W h.1, q_T h.1, hu, hx, q, ct]
      · rw [e] at ct
        have xm := (k_ct_t e).1
        have na := c_na (d := d + 1) h.1 ht.1 ht.2.2.2.1 h30 xm
        rw [ht.2.2.2.2 x xm] at na
        simp (disch := omega) only [q_ckt, q_lt, q_cI, q_cJ, q_cV, q_cP, q_xI, q_xV, q_xP, q_xJ, g_gk, g_ga, g_gw, g_gp, g_gq, g_P, g_J, q_I_s, q_I_n, q_I_k, nI_add, pk_sub, pk_mul, nI_clamp, n_lt0, n_0lt, n_eq0, n_lt, n_le, n_eq, n_m1, n_m2, n_m9, n_12, n_19, n_10, n_01, n_1n1, n_0n1, n_1n0, n_0n0, n_dI, n_m1lt, q_inb, n_nar, n_nar0, n_nar1, n_bool, Bool.false_eq_true, Bool.true_eq_false, if_true, if_false, ↓reduceIte, Nat.reduceAdd, Nat.reduceMul, Nat.reduceSub, Nat.reduceLT, Nat.reduceLeDiff, Nat.reduceEqDiff, Nat.reduceMod, Nat.reduceDiv, q_W h.1, q_T h.1, hu, hx, q, ct, q_Yt h.1 ht.1, na]) (by
    rintro s rfl
    rfl) (i := 0) (t := M) (by omega) rfl
  obtain ⟨s, rfl, ee⟩ := Lp
  obtain ⟨M1, e1, q1, c1⟩ := c_pay (d := d + 1) (v := (k_sc K T mn w (k_n K)).toInt32) h hw hh
  refine ⟨M1, ?_, q1, c1⟩
  refine ee.trans ?_
  rw [L_X11_payForPlace_12]
  simp (disch := omega) only [q_ckt, q_lt, q_cI, q_cJ, q_cV, q_cP, q_xI, q_xV, q_xP, q_xJ, g_gk, g_ga, g_gw, g_gp, g_gq, g_P, g_J, q_I_s, q_I_n, q_I_k, nI_add, pk_sub, pk_mul, nI_clamp, n_lt0, n_0lt, n_eq0, n_lt, n_le, n_eq, n_m1, n_m2, n_m9, n_12, n_19, n_10, n_01, n_1n1, n_0n1, n_1n0, n_0n0, n_dI, n_m1lt, q_inb, n_nar, n_nar0, n_nar1, n_bool, Bool.false_eq_true, Bool.true_eq_false, if_true, if_false, ↓reduceIte, Nat.reduceAdd, Nat.reduceMul, Nat.reduceSub, Nat.reduceLT, Nat.reduceLeDiff, Nat.reduceEqDiff, Nat.reduceMod, Nat.reduceDiv, q_W h.1, q_T h.1, hu, Nat.lt_irrefl, q_S h.1 (a := 12) (by decide), e1]
theorem r_sec (h : r_rl M K) (ht : r_tt M t mn T) {w : Nat} (hw : w < k_n K) {pl : Int32} : ∃ M', M' = M ∧ v_X12_auction_151 (d + 3) 412 pl (nI t) (nI w) 0 (nI 0) M = v_X12_auction_151 (d + 3) 412 pl (nI t) (nI w) (k_sc K T mn w (k_n K)) (nI (k_n K)) M' := by
  have hb := k_bds h.2.1
  have Lp := q_up (σ := ir_M) (V := fun x s => v_X12_auction_151 (d + 3) 412 pl (nI t) (nI w) (k_sc K T mn w x) (nI x) s) (N := k_n K) (I := fun _ s => s = M) (K := fun s => v_X12_auction_151 (d + 3) 412 pl (nI t) (nI w) (k_sc K T mn w (k_n K)) (nI (k_n K)) s) (by
    rintro x s hx rfl
    refine ⟨s, rfl, ?_⟩
    have bx := r_bid (d := d) h ht hx
    rw [L_X12_auction_151]
    rw [show k_sc K T mn w (x + 1) = if x = w then k_sc K T mn w x else if k_ct K T mn x = true then ir_mxl (k_sc K T mn w x) (T x) else k_sc K T mn w x from rfl]
    by_cases q : x = w
    · rw [if_pos q]
      simp (disch := omega) only [q_ckt, q_lt, q_cI, q_cJ, q_cV, q_cP, q_xI, q_xV, q_xP, q_xJ, g_gk, g_ga, g_gw, g_gp, g_gq, g_P, g_J, q_I_s, q_I_n, q_I_k, nI_add, pk_sub, pk_mul, nI_clamp, n_lt0, n_0lt, n_eq0, n_lt, n_le, n_eq, n_m1, n_m2, n_m9, n_12, n_19, n_10, n_01, n_1n1, n_0n1, n_1n0, n_0n0, n_dI, n_m1lt, q_inb, n_nar, n_nar0, n_nar1, n_bool, Bool.false_eq_true, Bool.true_eq_false, if_true, if_false, ↓reduceIte, Nat.reduceAdd, Nat.reduceMul, Nat.reduceSub, Nat.reduceLT, Nat.reduceLeDiff, Nat.reduceEqDiff, Nat.reduceMod, Nat.reduceDiv, q_R h.1, r_pe h, hx, q, hw]
    · rw [if_neg q]
      have e0 : ir_mxl (k_sc K T mn w x) (k_bid K T mn x) = if k_ct K T mn x = true then ir_mxl (k_sc K T mn w x) (T x) else k_sc K T mn w x := by
        unfold k_bid
        by_cases e : k_ct K T mn x = true
        · rw [if_pos e, if_pos e]
        · rw [if_neg e, if_neg e, k_mxl0 (k_sc_0 x)]
      simp (disch := omega) only [q_ckt, q_lt, q_cI, q_cJ, q_cV, q_cP, q_xI, q_xV, q_xP, q_xJ, g_gk, g_ga, g_gw, g_gp, g_gq, g_P, g_J, q_I_s, q_I_n, q_I_k, nI_add, pk_sub, pk_mul, nI_clamp, n_lt0, n_0lt, n_eq0, n_lt, n_le, n_eq, n_m1, n_m2, n_m9, n_12, n_19, n_10, n_01, n_1n1, n_0n1, n_1n0, n_0n0, n_dI, n_m1lt, q_inb, n_nar, n_nar0, n_nar1, n_bool, Bool.false_eq_true, Bool.true_eq_false, if_true, if_false, ↓reduceIte, Nat.reduceAdd, Nat.reduceMul, Nat.reduceSub, Nat.reduceLT, Nat.reduceLeDiff, Nat.reduceEqDiff, Nat.reduceMod, Nat.reduceDiv, q_R h.1, r_pe h, hx, q, bx, e0]) (by
    rintro s rfl
    rfl) (i := 0) (t := M) (by omega) rfl
  exact Lp
end AU
theorem k_sc_kp {K : Nat → Int32} (hk : k_ok K) {T : Nat → Int64} {mn w : Nat} : ∀ x, x ≤ 8 → k_sc (k_kp K) T mn w x = k_sc K T mn w x
  | 0, _ => rfl
  | x + 1, h => by
    unfold k_sc
    rw [k_sc_kp hk x (by omega), k_ct_kp hk (by omega)]
def k_au (K : Nat → Int32) (w h : Nat) (v : Int32) : Nat → Int32 := if w = h then k_kp K else k_pay (k_kp K) w h v
theorem k_au_o {K : Nat → Int32} {w h k : Nat} {v : Int32} (hw : w < 8) (hh : h < 8) (hk : ¬ (26 ≤ k ∧ k < 34)) : k_au K w h v k = k_kp K k := by
  unfold k_au
  split
  · rfl
  · exact k_pay_o (by omega) (by omega)
theorem k_au_wf {K : Nat → Int32} (hw : k_wf K) {w h : Nat} {v : Int32} (hw8 : w < 8) (hh : h < 8) : k_wf (k_au K w h v) := by
  have w1 := k_kp_wf hw
  unfold k_au
  split
  · exact w1
  · exact k_wf_st w1 (fun k hk => k_pay_o (by omega) (by omega)) (k_pay_ok w1.1 hw8 hh).2
section AV
variable {L : Nat} {xs : Nat → Int32}
theorem S_auction (a b : Int32) : q_St L xs (q_Iv L xs) (m_L_auction 200 1 a b 436) (m_X12_auction 200 412 a b) := by
  refine q_Se_mk (x := m_X11_auction 199 1 a b) (fun M => E_L_auction 199 1 a b 436 M) fun M hp hI => ?_
  have hc := c_I_c hp hI.1
  have hr := c_I_r hp hI.1
  have hty := hI.2.1.2.1
  obtain ⟨hwf, hsc⟩ := hI.1
  generalize M.1 413 = K at hc hr hwf hsc ⊢
  have hb := k_bds hwf.1
  have hu := c_use hc
  by_cases hbk : k_rng b 4
  · obtain ⟨t, ht4, rfl⟩ := k_rng_of hbk (by decide)
    rcases c_ty_use ht4 (hty t ht4) with ⟨m1, m2⟩ | ⟨so, mn, T, hso, s1, s2, ct, rt⟩
    · refine Or.inr (Or.inr ⟨2, 2, by omega, by omega, ?_, fun _ => rfl, fun M' s => ⟨nI 0, _, ?_, q_st_4 s.1.1 (k := 4) (v := nI 2) rfl, rfl, q_I_s⟩⟩)
      · rw [E_X11_auction 198]
        simp (disch := omega) only [q_ckt, q_lt, q_cI, q_cJ, q_cV, q_cP, q_xI, q_xV, q_xP, q_xJ, g_gk, g_ga, g_gw, g_gp, g_gq, g_P, g_J, q_I_s, q_I_n, q_I_k, nI_add, pk_sub, pk_mul, nI_clamp, n_lt0, n_0lt, n_eq0, n_lt, n_le, n_eq, n_m1, n_m2, n_m9, n_12, n_19, n_10, n_01, n_1n1, n_0n1, n_1n0, n_0n0, n_dI, n_m1lt, q_inb, n_nar, n_nar0, n_nar1, n_bool, Bool.false_eq_true, Bool.true_eq_false, if_true, if_false, ↓reduceIte, Nat.reduceAdd, Nat.reduceMul, Nat.reduceSub, Nat.reduceLT, Nat.reduceLeDiff, Nat.reduceEqDiff, Nat.reduceMod, Nat.reduceDiv, q_W hp, c_nt1 hp ht4 m1]
      · have hr' := q_st_r s hr
        rw [E_X12_auction 199]
        simp (disch := omega) only [q_ckt, q_lt, q_cI, q_cJ, q_cV, q_cP, q_xI, q_xV, q_xP, q_xJ, g_gk, g_ga, g_gw, g_gp, g_gq, g_P, g_J, q_I_s, q_I_n, q_I_k, nI_add, pk_sub, pk_mul, nI_clamp, n_lt0, n_0lt, n_eq0, n_lt, n_le, n_eq, n_m1, n_m2, n_m9, n_12, n_19, n_10, n_01, n_1n1, n_0n1, n_1n0, n_0n0, n_dI, n_m1lt, q_inb, n_nar, n_nar0, n_nar1, n_bool, Bool.false_eq_true, Bool.true_eq_false, if_true, if_false, ↓reduceIte, Nat.reduceAdd, Nat.reduceMul, Nat.reduceSub, Nat.reduceLT, Nat.reduceLeDiff, Nat.reduceEqDiff, Nat.reduceMod, Nat.reduceDiv, q_R hr'.1, r_tf1 hr'.1 ht4 ((s.2.2.1.1 433 t rfl).trans m2), L_X12_auction_30]
    · have nt := c_nt2 (d := 196) hp ht4 ct.2.2.1
      by_cases ha : k_rng a (k_m K)
      · obtain ⟨y, hym, rfl⟩ := k_rng_of ha (by omega)
        obtain ⟨M0, rfl, ew⟩ := c_wn (d := 195) (pl := nI y) hc ct
        have ec0 : m_X11_auction 199 1 (nI y) (nI t) M0 = v_X11_auction_17 198 1 (nI y) (404 + 2 * t) (k_on (k_wn K T mn (k_n K))) (nI (k_n K)) M0 := by
          rw [E_X11_auction 198]
          simp (disch := omega) only [q_ckt, q_lt, q_cI, q_cJ, q_cV, q_cP, q_xI, q_xV, q_xP, q_xJ, g_gk, g_ga, g_gw, g_gp, g_gq, g_P, g_J, q_I_s, q_I_n, q_I_k, nI_add, pk_sub, pk_mul, nI_clamp, n_lt0, n_0lt, n_eq0, n_lt, n_le, n_eq, n_m1, n_m2, n_m9, n_12, n_19, n_10, n_01, n_1n1, n_0n1, n_1n0, n_0n0, n_dI, n_m1lt, q_inb, n_nar, n_nar0, n_nar1, n_bool, Bool.false_eq_true, Bool.true_eq_false, if_true, if_false, ↓reduceIte, Nat.reduceAdd, Nat.reduceMul, Nat.reduceSub, Nat.reduceLT, Nat.reduceLeDiff, Nat.reduceEqDiff, Nat.reduceMod, Nat.reduceDiv, q_W hp, nt, c_npl hc, ha]
          exact ew
        have er0 : ∀ M', r_rl M' K → r_tt M' t mn T → ir_I M' 433 t = nI so → m_X12_auction 200 412 (nI y) (nI t) M' = v_X12_auction_44 199 412 (nI y) (nI t) (k_on (k_wn K T mn (k_n K))) (nI (k_n K)) (ir_sI M' 412 4 (nI 0)) := fun M' hr' rt' s2' => by
          have h4 := r_4 (v := nI 0) hr'
          have rt4 : r_tt (ir_sI M' 412 4 (nI 0)) t mn T := r_tt_st rt' (q_st_4 hr'.1 (k := 4) (v := nI 0) rfl)
          obtain ⟨N0, eN, ew'⟩ := r_wn (d := 196) (pl := nI y) h4 rt4
          rw [eN] at ew'
          rw [E_X12_auction 199]
          simp (disch := omega) only [q_ckt, q_lt, q_cI, q_cJ, q_cV, q_cP, q_xI, q_xV, q_xP, q_xJ, g_gk, g_ga, g_gw, g_gp, g_gq, g_P, g_J, q_I_s, q_I_n, q_I_k, nI_add, pk_sub, pk_mul, nI_clamp, n_lt0, n_0lt, n_eq0, n_lt, n_le, n_eq, n_m1, n_m2, n_m9, n_12, n_19, n_10, n_01, n_1n1, n_0n1, n_1n0, n_0n0, n_dI, n_m1lt, q_inb, n_nar, n_nar0, n_nar1, n_bool, Bool.false_eq_true, Bool.true_eq_false, if_true, if_false, ↓reduceIte, Nat.reduceAdd, Nat.reduceMul, Nat.reduceSub, Nat.reduceLT, Nat.reduceLeDiff, Nat.reduceEqDiff, Nat.reduceMod, Nat.reduceDiv, q_R hr'.1, r_tf2 hr'.1 ht4 hso s2', r_is h4, ha, L_X12_auction_30]
          exact ew'
        cases eW : k_wn K T mn (k_n K) with
        | none =>
          rw [eW] at ec0 er0
          refine Or.inr (Or.inl ⟨-1, ⟨M0, ?_, q_st.rf hp⟩, fun M' s => ?_⟩)
          · rw [ec0, L_X11_auction_17]
            simp (disch := omega) only [q_ckt, q_lt, q_cI, q_cJ, q_cV, q_cP, q_xI, q_xV, q_xP, q_xJ, g_gk, g_ga, g_gw, g_gp, g_gq, g_P, g_J, q_I_s, q_I_n, q_I_k, nI_add, pk_sub, pk_mul, nI_clamp, n_lt0, n_0lt, n_eq0, n_lt, n_le, n_eq, n_m1, n_m2, n_m9, n_12, n_19, n_10, n_01, n_1n1, n_0n1, n_1n0, n_0n0, n_dI, n_m1lt, q_inb, n_nar, n_nar0, n_nar1, n_bool, Bool.false_eq_true, Bool.true_eq_false, if_true, if_false, ↓reduceIte, Nat.reduceAdd, Nat.reduceMul, Nat.reduceSub, Nat.reduceLT, Nat.reduceLeDiff, Nat.reduceEqDiff, Nat.reduceMod, Nat.reduceDiv, q_W hp, q_T hp, hu, Nat.lt_irrefl, k_on]
          · have hr' := q_st_r s hr
            have h4 := r_4 (v := nI 0) hr'
            refine ⟨ir_sI M' 412 4 (nI 0), ?_, q_st_4 hr'.1 rfl, rfl, q_I_s⟩
            rw [er0 M' hr' (r_tt_st rt s) ((s.2.2.1.1 433 t rfl).trans s2), L_X12_auction_44]
            simp (disch := omega) only [q_ckt, q_lt, q_cI, q_cJ, q_cV, q_cP, q_xI, q_xV, q_xP, q_xJ, g_gk, g_ga, g_gw, g_gp, g_gq, g_P, g_J, q_I_s, q_I_n, q_I_k, nI_add, pk_sub, pk_mul, nI_clamp, n_lt0, n_0lt, n_eq0, n_lt, n_le, n_eq, n_m1, n_m2, n_m9, n_12, n_19, n_10, n_01, n_1n1, n_0n1, n_1n0, n_0n0, n_dI, n_m1lt, q_inb, n_nar, n_nar0, n_nar1, n_bool, Bool.false_eq_true, Bool.true_eq_false, if_true, if_false, ↓reduceIte, Nat.reduceAdd, Nat.reduceMul, Nat.reduceSub, Nat.reduceLT, Nat.reduceLeDiff, Nat.reduceEqDiff, Nat.reduceMod, Nat.reduceDiv, q_R h4.1, r_pe h4, Nat.lt_irrefl, k_on]
        | some w =>
          rw [eW] at ec0 er0
          obtain ⟨wn, wct⟩ := k_wn_some eW
          have wmem := (k_ct_t wct).2.1
          obtain ⟨j, ej⟩ : ∃ j, k_pl K w = some j := by
            unfold k_mem at wmem
            cases e : k_pl K w with
            | none => rw [e] at wmem; exact nomatch wmem
            | some j => exact ⟨j, rfl⟩
          obtain ⟨hjm, hqj⟩ := k_pl_some ej
          have hhn := k_qn hwf.1 hym
          obtain ⟨sec, esec⟩ : ∃ sec, sec = k_sc K T mn w (k_n K) := ⟨_, rfl⟩
          obtain ⟨A, eA⟩ : ∃ A, A = k_au K w (k_q K y) sec.toInt32 := ⟨_, rfl⟩
          have wA : k_wf A := by rw [eA]; exact k_au_wf hwf (by omega) (by omega)
          have oA : ∀ k, ¬ (26 ≤ k ∧ k < 34) → A k = k_kp K k := fun k hk => by rw [eA]; exact k_au_o (by omega) (by omega) hk
          have mA : k_m A = k_m K := by unfold k_m; rw [oA _ (by omega), k_kp_o (by omega)]
          have nA : k_n A = k_n K := by unfold k_n; rw [oA _ (by omega), k_kp_o (by omega)]
          have plA : ∀ p, k_pl A p = k_pl K p := fun p => (k_pl_cg (by obtain ⟨z, -, z3⟩ := k_kp_n (K := K); omega) (fun k h1 h2 => oA k (by omega))).trans (k_kp_pl hwf.1)
          have hjA : j < k_m A := by omega
          have hyA : y < k_m A := by omega
          obtain ⟨okm, mm, qm⟩ := k_mov_ok wA.1 hjA hyA
          have om : ∀ k, ¬ (9 ≤ k ∧ k < 53) → k_mov A j y k = A k := fun k hk => k_mov_o wA.1 hjA hyA (by omega)
          have w1 := k_kp_wf hwf
          obtain ⟨kn, kg, km⟩ := k_kp_n (K := K)
          have kq : k_q (k_kp K) y = k_q K y := by unfold k_q; rw [k_kp_o (by omega)]
          refine Or.inl ⟨nI w, k_mov A j y, ?_, k_wf_st wA om okm.2, ?_⟩
          · obtain ⟨M1, e1, d1, z1, sc1⟩ := c_keepDeed (d := 195) hp hwf hsc
            have hp1 := d1.p hp
            have c1 := c_sc_rl hp1 w1.1 sc1
            have ct1 := c_tt_dc ct d1
            have qy : ir_I M1 13 y = nI (k_q K y) := by
              have := (c_use c1).2.2.2.2.2.2.2.2.2.1 y (by omega)
              rw [kq] at this
              exact this
            have pay : ∃ M2, m_X11_payForPlace 198 1 (404 + 2 * t) (nI w) (nI (k_q K y)) M1 = ir_oV M2 ∧ q_eq [15] M1 M2 ∧ c_st M2 12 A := by
              rw [E_X11_payForPlace 197]
              by_cases q : w = k_q K y
              · refine ⟨M1, ?_, q_eq.rf _ _, ?_⟩
                · simp (disch := omega) only [q_ckt, q_lt, q_cI, q_cJ, q_cV, q_cP, q_xI, q_xV, q_xP, q_xJ, g_gk, g_ga, g_gw, g_gp, g_gq, g_P, g_J, q_I_s, q_I_n, q_I_k, nI_add, pk_sub, pk_mul, nI_clamp, n_lt0, n_0lt, n_eq0, n_lt, n_le, n_eq, n_m1, n_m2, n_m9, n_12, n_19, n_10, n_01, n_1n1, n_0n1, n_1n0, n_0n0, n_dI, n_m1lt, q_inb, n_nar, n_nar0, n_nar1, n_bool, Bool.false_eq_true, Bool.true_eq_false, if_true, if_false, ↓reduceIte, Nat.reduceAdd, Nat.reduceMul, Nat.reduceSub, Nat.reduceLT, Nat.reduceLeDiff, Nat.reduceEqDiff, Nat.reduceMod, Nat.reduceDiv, q]
                · rw [eA]
                  unfold k_au
                  rw [if_pos q]
                  exact sc1.2.2.1
              · obtain ⟨M2, e2, q2, c2⟩ := c_sec (d := 195) c1 ct1 (show w < k_n (k_kp K) by omega) (show k_q K y < k_n (k_kp K) by omega)
                refine ⟨M2, ?_, q2, ?_⟩
                · simp (disch := omega) only [q_ckt, q_lt, q_cI, q_cJ, q_cV, q_cP, q_xI, q_xV, q_xP, q_xJ, g_gk, g_ga, g_gw, g_gp, g_gq, g_P, g_J, q_I_s, q_I_n, q_I_k, nI_add, pk_sub, pk_mul, nI_clamp, n_lt0, n_0lt, n_eq0, n_lt, n_le, n_eq, n_m1, n_m2, n_m9, n_12, n_19, n_10, n_01, n_1n1, n_0n1, n_1n0, n_0n0, n_dI, n_m1lt, q_inb, n_nar, n_nar0, n_nar1, n_bool, Bool.false_eq_true, Bool.true_eq_false, if_true, if_false, ↓reduceIte, Nat.reduceAdd, Nat.reduceMul, Nat.reduceSub, Nat.reduceLT, Nat.reduceLeDiff, Nat.reduceEqDiff, Nat.reduceMod, Nat.reduceDiv, q]
                  exact e2
                · rw [eA]
                  unfold k_au
                  rw [if_neg q]
                  rw [kn, k_sc_kp hwf.1 _ (by omega), ← esec] at c2
                  exact c2
            obtain ⟨M2, e2, q2, st2⟩ := pay
            have hp2 := q_PI_eq q2 hp1
            have sc2 : c_sc M2 3 A := c_sc_st w1 sc1 (fun k hk => oA k (by omega)) (fun a h1 h2 h3 h4 => q2.1 a (by simp only [List.mem_cons, List.not_mem_nil, or_false]; omega)) st2
            have c2 := c_sc_rl hp2 wA.1 sc2
            have pl2 := c_pl (d := 197) c2 (show w < 2 ^ 31 by omega)
            rw [plA, ej] at pl2
            obtain ⟨M3, e3, q3, f3⟩ := c_shift (d := 197) c2 hjA hyA
            have st3 := c_st_shift c2 hjA hyA q3 f3
            refine ⟨M3, ?_, d1.tr ((q_dc_eq q2 (by decide)).tr (q_dc_eq q3 (by decide))), ?_, c_sc_st wA sc2 om (fun a h1 h2 h3 h4 => q3.1 a (by simp only [List.mem_cons, List.not_mem_nil, or_false]; omega)) st3⟩
            · rw [ec0, L_X11_auction_17]
              simp (disch := omega) only [q_ckt, q_lt, q_cI, q_cJ, q_cV, q_cP, q_xI, q_xV, q_xP, q_xJ, g_gk, g_ga, g_gw, g_gp, g_gq, g_P, g_J, q_I_s, q_I_n, q_I_k, nI_add, pk_sub, pk_mul, nI_clamp, n_lt0, n_0lt, n_eq0, n_lt, n_le, n_eq, n_m1, n_m2, n_m9, n_12, n_19, n_10, n_01, n_1n1, n_0n1, n_1n0, n_0n0, n_dI, n_m1lt, q_inb, n_nar, n_nar0, n_nar1, n_bool, Bool.false_eq_true, Bool.true_eq_false, if_true, if_false, ↓reduceIte, Nat.reduceAdd, Nat.reduceMul, Nat.reduceSub, Nat.reduceLT, Nat.reduceLeDiff, Nat.reduceEqDiff, Nat.reduceMod, Nat.reduceDiv, q_W hp, q_T hp, hu, Nat.lt_irrefl, k_on, e1, q_W hp1, q_S hp1 (a := 12) (by decide), qy, e2, q_W hp2, q_S hp2 (a := 12) (by decide), pl2, e3]
            · rw [q_I_eq q3 (by decide), q_I_eq q2 (by decide)]
              exact z1
          · intro M' hr' v2
            have h4 := r_4 (v := nI 0) hr'
            have rt' := r_tt_v2 rt v2
            have rt4 : r_tt (ir_sI M' 412 4 (nI 0)) t mn T := r_tt_st rt' (q_st_4 hr'.1 (k := 4) (v := nI 0) rfl)
            have er1 := er0 M' hr' rt' ((v2.1 433 t rfl).trans s2)
            obtain ⟨N0, eN, es⟩ := r_sec (d := 196) (pl := nI y) h4 rt4 wn
            rw [eN, ← esec] at es
            obtain ⟨N1, f1, t1, u1⟩ := d_kp (d := 198) h4 hwf
            have wh := r_wh (d := 198) u1 (show y < k_m (k_kp K) by omega)
            rw [kq] at wh
            have pre : m_X12_auction 200 412 (nI y) (nI t) M' = v_X12_auction_151 199 412 (nI y) (nI t) (nI w) sec (nI (k_n K)) (ir_sI M' 412 4 (nI 0)) := by
              rw [er1, L_X12_auction_44]
              simp (disch := omega) only [q_ckt, q_lt, q_cI, q_cJ, q_cV, q_cP, q_xI, q_xV, q_xP, q_xJ, g_gk, g_ga, g_gw, g_gp, g_gq, g_P, g_J, q_I_s, q_I_n, q_I_k, nI_add, pk_sub, pk_mul, nI_clamp, n_lt0, n_0lt, n_eq0, n_lt, n_le, n_eq, n_m1, n_m2, n_m9, n_12, n_19, n_10, n_01, n_1n1, n_0n1, n_1n0, n_0n0, n_dI, n_m1lt, q_inb, n_nar, n_nar0, n_nar1, n_bool, Bool.false_eq_true, Bool.true_eq_false, if_true, if_false, ↓reduceIte, Nat.reduceAdd, Nat.reduceMul, Nat.reduceSub, Nat.reduceLT, Nat.reduceLeDiff, Nat.reduceEqDiff, Nat.reduceMod, Nat.reduceDiv, q_R h4.1, r_pe h4, Nat.lt_irrefl, k_on]
              exact es
            by_cases q : w = k_q K y
            · have hjy : j = y := by
                have := k_pl_q hwf.1 hym
                rw [← q, ej] at this
                injection this
              have eAk : A = k_kp K := by rw [eA]; exact if_pos q
              refine ⟨N1, ?_, (q_dr_4 rfl).tr (q_dr_eq t1 (by decide)), fun k => ?_, (q_I_eq t1 (by decide) 4).trans q_I_s⟩
              · rw [pre, L_X12_auction_151]
                simp (disch := omega) only [q_ckt, q_lt, q_cI, q_cJ, q_cV, q_cP, q_xI, q_xV, q_xP, q_xJ, g_gk, g_ga, g_gw, g_gp, g_gq, g_P, g_J, q_I_s, q_I_n, q_I_k, nI_add, pk_sub, pk_mul, nI_clamp, n_lt0, n_0lt, n_eq0, n_lt, n_le, n_eq, n_m1, n_m2, n_m9, n_12, n_19, n_10, n_01, n_1n1, n_0n1, n_1n0, n_0n0, n_dI, n_m1lt, q_inb, n_nar, n_nar0, n_nar1, n_bool, Bool.false_eq_true, Bool.true_eq_false, if_true, if_false, ↓reduceIte, Nat.reduceAdd, Nat.reduceMul, Nat.reduceSub, Nat.reduceLT, Nat.reduceLeDiff, Nat.reduceEqDiff, Nat.reduceMod, Nat.reduceDiv, q_R h4.1, r_pe h4, Nat.lt_irrefl, f1, q_R u1.1, wh, q]
              · rw [u1.2.2, eAk, hjy, k_mov_self w1.1 (by omega)]
            · have eAk : A = k_pay (k_kp K) w (k_q K y) sec.toInt32 := by rw [eA]; exact if_neg q
              obtain ⟨N2, eN2⟩ : ∃ N, N = ir_sI N1 413 (26 + w) (k_kp K (26 + w) - sec.toInt32) := ⟨_, rfl⟩
              obtain ⟨N3, eN3⟩ : ∃ N, N = ir_sI N2 413 (26 + k_q K y) (k_kp K (26 + k_q K y) + sec.toInt32) := ⟨_, rfl⟩
              have c2 : ∀ k, ir_I N2 413 k = upd (k_kp K) (26 + w) (k_kp K (26 + w) - sec.toInt32) k := fun k => by
                rw [eN2, q_I_u, u1.2.2]
                rfl
              have p2 : q_PI N2 := by rw [eN2]; exact u1.1
              have u3 : r_rl N3 A := by
                refine ⟨by rw [eN3]; exact p2, wA.1, fun k => ?_⟩
                rw [eN3, q_I_u, c2, eAk]
                unfold k_pay
                rw [show upd (k_kp K) (26 + w) (k_kp K (26 + w) - sec.toInt32) (26 + k_q K y) = k_kp K (26 + k_q K y) from k_upd_n (by omega)]
                rfl
              obtain ⟨N4, f4, t4, a4⟩ := r_moves (d := 196) u3 hjA hyA
              have qA : k_q A j = w := by
                have := (k_pl_some (plA w ▸ ej : k_pl A w = some j)).2
                exact this
              rw [qA] at f4
              have t13 : q_eq [413] (ir_sI M' 412 4 (nI 0)) N4 := by
                refine (t1.tr ?_).tr t4
                rw [eN3, eN2]
                exact (q_eq.sI (by decide)).tr (q_eq.sI (by decide))
              refine ⟨N4, ?_, (q_dr_4 rfl).tr (q_dr_eq t13 (by decide)), a4, (q_I_eq t13 (by decide) 4).trans q_I_s⟩
              rw [pre, L_X12_auction_151]
              simp (disch := omega) only [q_ckt, q_lt, q_cI, q_cJ, q_cV, q_cP, q_xI, q_xV, q_xP, q_xJ, g_gk, g_ga, g_gw, g_gp, g_gq, g_P, g_J, q_I_s, q_I_n, q_I_k, nI_add, pk_sub, pk_mul, nI_clamp, n_lt0, n_0lt, n_eq0, n_lt, n_le, n_eq, n_m1, n_m2, n_m9, n_12, n_19, n_10, n_01, n_1n1, n_0n1, n_1n0, n_0n0, n_dI, n_m1lt, q_inb, n_nar, n_nar0, n_nar1, n_bool, Bool.false_eq_true, Bool.true_eq_false, if_true, if_false, ↓reduceIte, Nat.reduceAdd, Nat.reduceMul, Nat.reduceSub, Nat.reduceLT, Nat.reduceLeDiff, Nat.reduceEqDiff, Nat.reduceMod, Nat.reduceDiv, q_R h4.1, r_pe h4, Nat.lt_irrefl, f1, q_R u1.1, wh, show ¬ k_q K y = w from fun z => q z.symm, u1.2.2]
              rw [← eN2, ← eN3]
              simp (disch := omega) only [q_ckt, q_lt, q_cI, q_cJ, q_cV, q_cP, q_xI, q_xV, q_xP, q_xJ, g_gk, g_ga, g_gw, g_gp, g_gq, g_P, g_J, q_I_s, q_I_n, q_I_k, nI_add, pk_sub, pk_mul, nI_clamp, n_lt0, n_0lt, n_eq0, n_lt, n_le, n_eq, n_m1, n_m2, n_m9, n_12, n_19, n_10, n_01, n_1n1, n_0n1, n_1n0, n_0n0, n_dI, n_m1lt, q_inb, n_nar, n_nar0, n_nar1, n_bool, Bool.false_eq_true, Bool.true_eq_false, if_true, if_false, ↓reduceIte, Nat.reduceAdd, Nat.reduceMul, Nat.reduceSub, Nat.reduceLT, Nat.reduceLeDiff, Nat.reduceEqDiff, Nat.reduceMod, Nat.reduceDiv, q_R u3.1, f4]
      · refine Or.inr (Or.inr ⟨3, 3, by omega, by omega, ?_, fun _ => rfl, fun M' s => ⟨nI 0, ir_sI (ir_sI M' 412 4 (nI 0)) 412 4 (nI 3), ?_, (q_st_4 s.1.1 (k := 4) rfl).tr (q_st_4 (M := ir_sI M' 412 4 (nI 0)) s.1.1 (k := 4) (v := nI 3) rfl), rfl, q_I_s⟩⟩)
        · rw [E_X11_auction 198]
          simp (disch := omega) only [q_ckt, q_lt, q_cI, q_cJ, q_cV, q_cP, q_xI, q_xV, q_xP, q_xJ, g_gk, g_ga, g_gw, g_gp, g_gq, g_P, g_J, q_I_s, q_I_n, q_I_k, nI_add, pk_sub, pk_mul, nI_clamp, n_lt0, n_0lt, n_eq0, n_lt, n_le, n_eq, n_m1, n_m2, n_m9, n_12, n_19, n_10, n_01, n_1n1, n_0n1, n_1n0, n_0n0, n_dI, n_m1lt, q_inb, n_nar, n_nar0, n_nar1, n_bool, Bool.false_eq_true, Bool.true_eq_false, if_true, if_false, ↓reduceIte, Nat.reduceAdd, Nat.reduceMul, Nat.reduceSub, Nat.reduceLT, Nat.reduceLeDiff, Nat.reduceEqDiff, Nat.reduceMod, Nat.reduceDiv, q_W hp, nt, c_npl hc, ha]
        · have hr' := q_st_r s hr
          have h4 := r_4 (v := nI 0) hr'
          have s2' : ir_I M' 433 t = nI so := (s.2.2.1.1 433 t rfl).trans s2
          rw [E_X12_auction 199]
          simp (disch := omega) only [q_ckt, q_lt, q_cI, q_cJ, q_cV, q_cP, q_xI, q_xV, q_xP, q_xJ, g_gk, g_ga, g_gw, g_gp, g_gq, g_P, g_J, q_I_s, q_I_n, q_I_k, nI_add, pk_sub, pk_mul, nI_clamp, n_lt0, n_0lt, n_eq0, n_lt, n_le, n_eq, n_m1, n_m2, n_m9, n_12, n_19, n_10, n_01, n_1n1, n_0n1, n_1n0, n_0n0, n_dI, n_m1lt, q_inb, n_nar, n_nar0, n_nar1, n_bool, Bool.false_eq_true, Bool.true_eq_false, if_true, if_false, ↓reduceIte, Nat.reduceAdd, Nat.reduceMul, Nat.reduceSub, Nat.reduceLT, Nat.reduceLeDiff, Nat.reduceEqDiff, Nat.reduceMod, Nat.reduceDiv, q_R hr'.1, r_tf2 hr'.1 ht4 hso s2', r_is h4, ha, L_X12_auction_30]
  · refine Or.inr (Or.inr ⟨1, 1, by omega, by omega, ?_, fun _ => rfl, fun M' s => ⟨nI 0, _, ?_, q_st_4 s.1.1 (k := 4) (v := nI 1) rfl, rfl, q_I_s⟩⟩)
    · rw [E_X11_auction 198]
      simp (disch := omega) only [q_ckt, q_lt, q_cI, q_cJ, q_cV, q_cP, q_xI, q_xV, q_xP, q_xJ, g_gk, g_ga, g_gw, g_gp, g_gq, g_P, g_J, q_I_s, q_I_n, q_I_k, nI_add, pk_sub, pk_mul, nI_clamp, n_lt0, n_0lt, n_eq0, n_lt, n_le, n_eq, n_m1, n_m2, n_m9, n_12, n_19, n_10, n_01, n_1n1, n_0n1, n_1n0, n_0n0, n_dI, n_m1lt, q_inb, n_nar, n_nar0, n_nar1, n_bool, Bool.false_eq_true, Bool.true_eq_false, if_true, if_false, ↓reduceIte, Nat.reduceAdd, Nat.reduceMul, Nat.reduceSub, Nat.reduceLT, Nat.reduceLeDiff, Nat.reduceEqDiff, Nat.reduceMod, Nat.reduceDiv, q_W hp, c_nt0 hp hbk]
    · have hr' := q_st_r s hr
      rw [E_X12_auction 199]
      simp (disch := omega) only [q_ckt, q_lt, q_cI, q_cJ, q_cV, q_cP, q_xI, q_xV, q_xP, q_xJ, g_gk, g_ga, g_gw, g_gp, g_gq, g_P, g_J, q_I_s, q_I_n, q_I_k, nI_add, pk_sub, pk_mul, nI_clamp, n_lt0, n_0lt, n_eq0, n_lt, n_le, n_eq, n_m1, n_m2, n_m9, n_12, n_19, n_10, n_01, n_1n1, n_0n1, n_1n0, n_0n0, n_dI, n_m1lt, q_inb, n_nar, n_nar0, n_nar1, n_bool, Bool.false_eq_true, Bool.true_eq_false, if_true, if_false, ↓reduceIte, Nat.reduceAdd, Nat.reduceMul, Nat.reduceSub, Nat.reduceLT, Nat.reduceLeDiff, Nat.reduceEqDiff, Nat.reduceMod, Nat.reduceDiv, q_R hr'.1, r_tf0 hr'.1 hbk, L_X12_auction_30]
end AV
