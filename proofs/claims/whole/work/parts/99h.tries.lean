/-! what is asked otherwise -/
def k_sa (K K' : Nat → Int32) : Prop := ∀ k, ¬ (18 ≤ k ∧ k < 26) → K' k = K k
def k_fr (K A : Nat → Int32) (i : Nat) : Int32 := k_fe K false (k_m K) A (k_y K) i
section SA
variable {K K' A B : Nat → Int32}
theorem k_sa.rf : k_sa K K := fun _ _ => rfl
theorem k_sa.tr {K'' : Nat → Int32} (h : k_sa K K') (g : k_sa K' K'') : k_sa K K'' := fun k hk => (g k hk).trans (h k hk)
theorem k_sa.sy (h : k_sa K K') : k_sa K' K := fun k hk => (h k hk).symm
theorem k_sa_u {p : Nat} {v : Int32} (hp : p < 8) : k_sa K (upd K (18 + p) v) := fun k hk => k_upd_n (by omega)
theorem k_sa_n (h : k_sa K K') : k_n K' = k_n K ∧ k_g K' = k_g K ∧ k_m K' = k_m K ∧ k_y K' = k_y K ∧ k_w K' = k_w K := by
  unfold k_n k_g k_m k_y k_w
  rw [h 2 (by omega), h 1 (by omega), h 9 (by omega), h 3 (by omega), h 44 (by omega)]
  exact ⟨rfl, rfl, rfl, rfl, rfl⟩
theorem k_sa_q (h : k_sa K K') {i : Nat} (hi : i < 8) : k_q K' i = k_q K i := by unfold k_q; rw [h _ (by omega)]
theorem k_sa_wt (h : k_sa K K') (p : Nat) (g : Int32) : k_wt K' p g = k_wt K p g := by unfold k_wt; rw [h _ (by omega)]
theorem k_sa_ev (h : k_sa K K') {wd : Nat → Int32} : ∀ n, k_ev K' wd n = k_ev K wd n
  | 0 => rfl
  | n + 1 => by
    unfold k_ev k_sp
    rw [h _ (by omega), k_sa_ev h n]
theorem k_sa_al (h : k_sa K K') (p : Nat) (g pl : Int32) : k_al K' p g pl = k_al K p g pl := by
  have e : k_wd K' p g pl = k_wd K p g pl := funext fun w => by
    unfold k_wd
    rw [k_sa_wt h, h (53 + p) (by omega), h (26 + p) (by omega), h 9 (by omega), h (34 + p) (by omega), h 42 (by omega)]
  unfold k_al
  rw [e, k_sa_ev h, h 7 (by omega)]
theorem k_sa_ah (h : k_sa K K') (al : Bool) (m i n : Nat) : k_ah K' al m A i n = k_ah K al m A i n := by
  unfold k_ah
  rw [h 43 (by omega), h 5 (by omega), (k_sa_n h).2.2.2.2, h (45 + (k_w K - (n - i))) (by omega)]
theorem k_sa_fr (h : k_sa K K') (i : Nat) : k_fr K' A i = k_fr K A i := by
  obtain ⟨-, -, em, ey, -⟩ := k_sa_n h
  unfold k_fr k_fe
  rw [em, ey, k_sa_ah h, k_sa_ah h, k_sa_ah h]
theorem k_sa_fw (h : k_sa K K') {F : Nat → Int32} {i : Nat} (hi : i < 8) : k_fw K' F i = k_fw K F i := by
  unfold k_fw
  rw [k_sa_q h hi, k_sa_wt h]
theorem k_sm_cg {f g : Nat → Int32} : ∀ n, (∀ i, i < n → f i = g i) → k_sm f n = k_sm g n
  | 0, _ => rfl
  | n + 1, h => by
    unfold k_sm
    rw [k_sm_cg n (fun i hi => h i (by omega)), h n (by omega)]
theorem k_sa_li (h : k_sa K K') (hk : k_ok K) {F : Nat → Int32} {i : Nat} (hi : i < k_m K) : k_li K' F i = k_li K F i := by
  have hb := k_bds hk
  unfold k_li
  rw [(k_sa_n h).2.2.1]
  refine k_sm_cg _ fun o ho => ?_
  unfold k_lk
  rw [k_sa_fw h (by omega), k_sa_q h (show i < 8 by omega), k_sa_q h (show o < 8 by omega), h _ (by omega)]
theorem k_ah_cg {al : Bool} {m i n : Nat} (hA : ∀ j, j < m → A j = B j) (hi : i < m) (hn : 1 ≤ n) : k_ah K al m A i n = k_ah K al m B i n := by
  unfold k_ah
  by_cases q : n ≤ i
  · rw [if_pos q, if_pos q]
    exact hA _ (by omega)
  · rw [if_neg q, if_neg q, hA _ (Nat.mod_lt _ (by omega))]
theorem k_fr_cg (hA : ∀ j, j < k_m K → A j = B j) {i : Nat} (hi : i < k_m K) : k_fr K A i = k_fr K B i := by
  unfold k_fr k_fe
  rw [k_ah_cg hA hi (by decide), k_ah_cg hA hi (by decide), k_ah_cg hA hi (by decide)]
theorem k_fr_gd (hk : k_ok K) (hA : ∀ j, j < k_m K → k_gd K (A j)) {i : Nat} (hi : i < k_m K) : k_gd K (k_fr K A i) := k_fe_gd hk hA hi
theorem k_td_fr (h : k_sa K K') {i : Nat} : k_td K' i = k_fr K (k_as K') i := by
  rw [← k_sa_fr h]
  rfl
/-- the row, when one asks otherwise -/
theorem k_as_u (hk : k_ok K) {i g : Nat} (hi : i < k_m K) (hg : g < 100) {j : Nat} (hj : j < k_m K) : k_as (upd K (18 + k_q K i) (nI g)) j = if j = i then (if k_al K (k_q K i) (nI g) (nI i) = true then nI g else -1) else k_as K j := by
  have hb := k_bds hk
  have hq := k_qn hk hi
  have sa : k_sa K (upd K (18 + k_q K i) (nI g)) := k_sa_u (by omega)
  unfold k_as
  rw [k_sa_q sa (by omega), k_sa_al sa]
  unfold k_a
  by_cases q : j = i
  · rw [if_pos q, q, k_upd_s, nI_clamp (by omega)]
  · have : k_q K j ≠ k_q K i := fun w => q (hk.2.2.2.2.2.1 j i hj hi w)
    rw [if_neg q, k_upd_n (by omega)]
theorem k_upd_self (hk : k_ok K) {p : Nat} (hp : p < k_n K) : upd K (18 + p) (nI (k_a K p)) = K := funext fun k => by
  by_cases q : k = 18 + p
  · rw [q, k_upd_s, (k_use hk).2.2.2.2.2.2 p hp]
  · exact k_upd_n q
theorem k_upd2 {k : Nat} {v w : Int32} : upd (upd K k v) k w = upd K k w := funext fun x => by
  by_cases q : x = k
  · rw [q, k_upd_s, k_upd_s]
  · rw [k_upd_n q, k_upd_n q, k_upd_n q]
theorem k_ask_k (hk : k_ok K) {p g : Nat} (hp : p < k_n K) (hg : g < k_g K) : k_ok (upd K (18 + p) (nI g)) := ⟨k_okT_cg (fun k h1 h2 => k_upd_n (by omega)) (fun k h1 => k_upd_n (by have := k_bds hk; omega)) hk.1, k_ask_ok hk hp hg⟩
end SA
/-! what may be asked -/
def k_ch (K : Nat → Int32) (i : Nat) : Nat → Nat
  | 0 => 0
  | g + 1 => if k_al K (k_q K i) (nI g) (nI i) = true then k_ch K i g ||| 2 ^ g else k_ch K i g
theorem k_ch_bit {K : Nat → Int32} {i g : Nat} : ∀ n, (k_ch K i n).testBit g = (decide (g < n) && k_al K (k_q K i) (nI g) (nI i))
  | 0 => by
    unfold k_ch
    rw [Nat.zero_testBit, decide_eq_false (by omega)]
    rfl
  | n + 1 => by
    unfold k_ch
    by_cases q : k_al K (k_q K i) (nI n) (nI i) = true
    · rw [if_pos q, Nat.testBit_or, k_ch_bit n, Nat.testBit_two_pow]
      by_cases q2 : n = g
      · subst q2
        rw [decide_eq_true rfl, decide_eq_true (show n < n + 1 by omega), q]
        simp
      · rw [decide_eq_false q2, Bool.or_false]
        by_cases q3 : g < n
        · rw [decide_eq_true q3, decide_eq_true (show g < n + 1 by omega)]
        · rw [decide_eq_false q3, decide_eq_false (show ¬ g < n + 1 by omega)]
    · rw [if_neg q, k_ch_bit n]
      by_cases q2 : n = g
      · subst q2
        rw [Bool.eq_false_iff.mpr q, Bool.and_false, Bool.and_false]
      · by_cases q3 : g < n
        · rw [decide_eq_true q3, decide_eq_true (show g < n + 1 by omega)]
        · rw [decide_eq_false q3, decide_eq_false (show ¬ g < n + 1 by omega)]
theorem k_ch_lt {K : Nat → Int32} {i n : Nat} (hn : n ≤ 8) : k_ch K i n < 256 := k_lt256 fun j hj => by rw [k_ch_bit, decide_eq_false (by omega)]; rfl
section CH
variable {M : ir_M} {K A : Nat → Int32} {d s i : Nat}
theorem c_lc1 (h : c_rl M s K) (hi : i < k_m K) : ∃ M', v_X0_layLawful_20 (d + 3) 116 4 s (nI i) (nI 0) (ir_sI M 119 i (nI 0)) = v_X0_layLawful_2 (d + 3) 116 4 s (nI i + nI 1) M' ∧ q_eq [9, 119, 120] M M' ∧ (∀ j, j ≠ i → ir_I M' 119 j = ir_I M 119 j) ∧ ir_I M' 119 i = nI (k_ch K i (k_g K)) := by
  have hb := k_bds h.2.2.1
  have hq := k_qn h.2.2.1 hi
  have L := q_up (σ := ir_M) (V := fun x t => v_X0_layLawful_20 (d + 3) 116 4 s (nI i) (nI x) t) (N := k_g K) (I := fun x t => q_eq [9, 119, 120] M t ∧ (∀ j, j ≠ i → ir_I t 119 j = ir_I M 119 j) ∧ ir_I t 119 i = nI (k_ch K i x)) (K := fun t => v_X0_layLawful_2 (d + 3) 116 4 s (nI i + nI 1) t) (by
    rintro x t hx ⟨hqe, h1, h2⟩
    have ct := c_rl_eq h hqe (by decide)
    obtain ⟨t1, e1, q1⟩ := c_lf (d := d) ct (pl := nI i) hq (k_gd_na hx)
    have ct1 := c_rl_eq ct q1 (by decide)
    have f1 : ir_I t1 119 i = nI (k_ch K i x) := by rw [q_I_eq q1 (by decide)]; exact h2
    have ec : k_ch K i (x + 1) = if k_al K (k_q K i) (nI x) (nI i) = true then k_ch K i x ||| 2 ^ x else k_ch K i x := rfl
    cases e : k_al K (k_q K i) (nI x) (nI i)
    · rw [e, if_neg (by decide)] at ec e1
      refine ⟨t1, ⟨hqe.tr (q1.sub (by decide)), fun j hj => by rw [q_I_eq q1 (by decide)]; exact h1 j hj, by rw [ec]; exact f1⟩, ?_⟩
      rw [L_X0_layLawful_20]
      simp (disch := omega) only [q_ckt, q_lt, q_cI, q_cJ, q_cV, q_cP, q_xI, q_xV, q_xP, q_xJ, g_gk, g_ga, g_gw, g_gp, g_gq, g_P, g_J, q_I_s, q_I_n, q_I_k, nI_add, pk_sub, pk_mul, nI_clamp, n_lt0, n_0lt, n_eq0, n_lt, n_le, n_eq, n_m1, n_m2, n_m9, n_12, n_19, n_10, n_01, n_1n1, n_0n1, n_1n0, n_0n0, n_dI, n_m1lt, q_inb, n_nar, n_nar0, n_nar1, n_bool, Bool.false_eq_true, Bool.true_eq_false, if_true, if_false, ↓reduceIte, Nat.reduceAdd, Nat.reduceMul, Nat.reduceSub, Nat.reduceLT, Nat.reduceLeDiff, Nat.reduceEqDiff, Nat.reduceMod, Nat.reduceDiv, q_T ct.1, c_use ct, hx, q_S ct.1 ct.2.1, q_F ct.1, e1]
    · rw [e, if_pos rfl] at ec e1
      refine ⟨ir_sI t1 119 i (nI (k_ch K i x ||| 2 ^ x)), ⟨(hqe.tr (q1.sub (by decide))).tr (q_eq.sI (by decide)), fun j hj => by rw [q_I_k hj, q_I_eq q1 (by decide)]; exact h1 j hj, by rw [ec]; exact q_I_s⟩, ?_⟩
      rw [L_X0_layLawful_20]
      simp (disch := omega) only [q_ckt, q_lt, q_cI, q_cJ, q_cV, q_cP, q_xI, q_xV, q_xP, q_xJ, g_gk, g_ga, g_gw, g_gp, g_gq, g_P, g_J, q_I_s, q_I_n, q_I_k, nI_add, pk_sub, pk_mul, nI_clamp, n_lt0, n_0lt, n_eq0, n_lt, n_le, n_eq, n_m1, n_m2, n_m9, n_12, n_19, n_10, n_01, n_1n1, n_0n1, n_1n0, n_0n0, n_dI, n_m1lt, q_inb, n_nar, n_nar0, n_nar1, n_bool, Bool.false_eq_true, Bool.true_eq_false, if_true, if_false, ↓reduceIte, Nat.reduceAdd, Nat.reduceMul, Nat.reduceSub, Nat.reduceLT, Nat.reduceLeDiff, Nat.reduceEqDiff, Nat.reduceMod, Nat.reduceDiv, q_T ct.1, c_use ct, hx, q_S ct.1 ct.2.1, q_F ct.1, e1, q_F ct1.1, f1, n_bit, n_or]) (by
    rintro t ⟨hqe, h1, h2⟩
    have ct := c_rl_eq h hqe (by decide)
    rw [L_X0_layLawful_20]
    simp (disch := omega) only [q_ckt, q_lt, q_cI, q_cJ, q_cV, q_cP, q_xI, q_xV, q_xP, q_xJ, g_gk, g_ga, g_gw, g_gp, g_gq, g_P, g_J, q_I_s, q_I_n, q_I_k, nI_add, pk_sub, pk_mul, nI_clamp, n_lt0, n_0lt, n_eq0, n_lt, n_le, n_eq, n_m1, n_m2, n_m9, n_12, n_19, n_10, n_01, n_1n1, n_0n1, n_1n0, n_0n0, n_dI, n_m1lt, q_inb, n_nar, n_nar0, n_nar1, n_bool, Bool.false_eq_true, Bool.true_eq_false, if_true, if_false, ↓reduceIte, Nat.reduceAdd, Nat.reduceMul, Nat.reduceSub, Nat.reduceLT, Nat.reduceLeDiff, Nat.reduceEqDiff, Nat.reduceMod, Nat.reduceDiv, q_T ct.1, c_use ct, Nat.lt_irrefl]) (i := 0) (t := ir_sI M 119 i (nI 0)) (by omega) ⟨q_eq.sI (by decide), fun j hj => q_I_k hj, q_I_s⟩
  obtain ⟨t, ⟨a, b, c⟩, ee⟩ := L
  exact ⟨t, ee, a, b, c⟩
theorem c_lc (h : c_rl M s K) : ∃ M', m_X0_layLawful (d + 4) 116 4 s M = ir_oV M' ∧ q_eq [9, 119, 120] M M' ∧ ∀ i, i < k_m K → ir_I M' 119 i = nI (k_ch K i (k_g K)) := by
  have hb := k_bds h.2.2.1
  have L := q_up (σ := ir_M) (V := fun x t => v_X0_layLawful_2 (d + 3) 116 4 s (nI x) t) (N := k_m K) (I := fun x t => q_eq [9, 119, 120] M t ∧ ∀ i, i < x → ir_I t 119 i = nI (k_ch K i (k_g K))) (K := ir_oV) (by
    rintro x t hx ⟨hqe, h1⟩
    have ct := c_rl_eq h hqe (by decide)
    obtain ⟨t1, e1, q1, f1, g1⟩ := c_lc1 (d := d) ct hx
    refine ⟨t1, ⟨hqe.tr q1, fun j hj => ?_⟩, ?_⟩
    · by_cases q : j = x
      · rw [q]; exact g1
      · rw [f1 j q]; exact h1 j (by omega)
    · rw [L_X0_layLawful_2]
      simp (disch := omega) only [q_ckt, q_lt, q_cI, q_cJ, q_cV, q_cP, q_xI, q_xV, q_xP, q_xJ, g_gk, g_ga, g_gw, g_gp, g_gq, g_P, g_J, q_I_s, q_I_n, q_I_k, nI_add, pk_sub, pk_mul, nI_clamp, n_lt0, n_0lt, n_eq0, n_lt, n_le, n_eq, n_m1, n_m2, n_m9, n_12, n_19, n_10, n_01, n_1n1, n_0n1, n_1n0, n_0n0, n_dI, n_m1lt, q_inb, n_nar, n_nar0, n_nar1, n_bool, Bool.false_eq_true, Bool.true_eq_false, if_true, if_false, ↓reduceIte, Nat.reduceAdd, Nat.reduceMul, Nat.reduceSub, Nat.reduceLT, Nat.reduceLeDiff, Nat.reduceEqDiff, Nat.reduceMod, Nat.reduceDiv, q_S ct.1 ct.2.1, c_use ct, hx, q_F ct.1]
      refine e1.trans ?_
      simp (disch := omega) only [q_ckt, q_lt, q_cI, q_cJ, q_cV, q_cP, q_xI, q_xV, q_xP, q_xJ, g_gk, g_ga, g_gw, g_gp, g_gq, g_P, g_J, q_I_s, q_I_n, q_I_k, nI_add, pk_sub, pk_mul, nI_clamp, n_lt0, n_0lt, n_eq0, n_lt, n_le, n_eq, n_m1, n_m2, n_m9, n_12, n_19, n_10, n_01, n_1n1, n_0n1, n_1n0, n_0n0, n_dI, n_m1lt, q_inb, n_nar, n_nar0, n_nar1, n_bool, Bool.false_eq_true, Bool.true_eq_false, if_true, if_false, ↓reduceIte, Nat.reduceAdd, Nat.reduceMul, Nat.reduceSub, Nat.reduceLT, Nat.reduceLeDiff, Nat.reduceEqDiff, Nat.reduceMod, Nat.reduceDiv]) (by
    rintro t ⟨hqe, h1⟩
    have ct := c_rl_eq h hqe (by decide)
    rw [L_X0_layLawful_2]
    simp (disch := omega) only [q_ckt, q_lt, q_cI, q_cJ, q_cV, q_cP, q_xI, q_xV, q_xP, q_xJ, g_gk, g_ga, g_gw, g_gp, g_gq, g_P, g_J, q_I_s, q_I_n, q_I_k, nI_add, pk_sub, pk_mul, nI_clamp, n_lt0, n_0lt, n_eq0, n_lt, n_le, n_eq, n_m1, n_m2, n_m9, n_12, n_19, n_10, n_01, n_1n1, n_0n1, n_1n0, n_0n0, n_dI, n_m1lt, q_inb, n_nar, n_nar0, n_nar1, n_bool, Bool.false_eq_true, Bool.true_eq_false, if_true, if_false, ↓reduceIte, Nat.reduceAdd, Nat.reduceMul, Nat.reduceSub, Nat.reduceLT, Nat.reduceLeDiff, Nat.reduceEqDiff, Nat.reduceMod, Nat.reduceDiv, q_S ct.1 ct.2.1, c_use ct, Nat.lt_irrefl]) (i := 0) (t := M) (by omega) ⟨q_eq.rf _ _, fun i hi => absurd hi (by omega)⟩
  obtain ⟨t, ⟨a, b⟩, ee⟩ := L
  exact ⟨t, (E_X0_layLawful (d + 3) 116 4 s M).trans ee, a, b⟩
theorem c_ma (hp : q_PI M) (hk : k_ok K) (hi : i < k_m K) (hc : ir_I M 119 i = nI (k_ch K i (k_g K))) {g : Nat} (hg : g < k_g K) : m_X0_mayAsk (d + 1) 116 (nI i) (nI g) M = ir_oI (if k_al K (k_q K i) (nI g) (nI i) = true then nI 1 else nI 0) M := by
  have hb := k_bds hk
  have e := k_ch_bit (K := K) (i := i) (g := g) (k_g K)
  rw [decide_eq_true hg, Bool.true_and] at e
  rw [E_X0_mayAsk]
  simp (disch := omega) only [q_ckt, q_lt, q_cI, q_cJ, q_cV, q_cP, q_xI, q_xV, q_xP, q_xJ, g_gk, g_ga, g_gw, g_gp, g_gq, g_P, g_J, q_I_s, q_I_n, q_I_k, nI_add, pk_sub, pk_mul, nI_clamp, n_lt0, n_0lt, n_eq0, n_lt, n_le, n_eq, n_m1, n_m2, n_m9, n_12, n_19, n_10, n_01, n_1n1, n_0n1, n_1n0, n_0n0, n_dI, n_m1lt, q_inb, n_nar, n_nar0, n_nar1, n_bool, Bool.false_eq_true, Bool.true_eq_false, if_true, if_false, ↓reduceIte, Nat.reduceAdd, Nat.reduceMul, Nat.reduceSub, Nat.reduceLT, Nat.reduceLeDiff, Nat.reduceEqDiff, Nat.reduceMod, Nat.reduceDiv, q_F hp, hc, n_bit, n_bt, e]
  cases k_al K (k_q K i) (nI g) (nI i) <;> simp (disch := omega) only [q_ckt, q_lt, q_cI, q_cJ, q_cV, q_cP, q_xI, q_xV, q_xP, q_xJ, g_gk, g_ga, g_gw, g_gp, g_gq, g_P, g_J, q_I_s, q_I_n, q_I_k, nI_add, pk_sub, pk_mul, nI_clamp, n_lt0, n_0lt, n_eq0, n_lt, n_le, n_eq, n_m1, n_m2, n_m9, n_12, n_19, n_10, n_01, n_1n1, n_0n1, n_1n0, n_0n0, n_dI, n_m1lt, q_inb, n_nar, n_nar0, n_nar1, n_bool, Bool.false_eq_true, Bool.true_eq_false, if_true, if_false, ↓reduceIte, Nat.reduceAdd, Nat.reduceMul, Nat.reduceSub, Nat.reduceLT, Nat.reduceLeDiff, Nat.reduceEqDiff, Nat.reduceMod, Nat.reduceDiv]
theorem c_may (hp : q_PI M) (hk : k_ok K) (hi : i < k_m K) (hc : ir_I M 119 i = nI (k_ch K i (k_g K))) : m_X0_mayAskAny (d + 1) 116 (nI i) M = ir_oI (if k_ch K i (k_g K) = 0 then nI 0 else nI 1) M := by
  have hb := k_bds hk
  have := k_ch_lt (K := K) (i := i) (n := k_g K) (by omega)
  rw [E_X0_mayAskAny]
  by_cases q : k_ch K i (k_g K) = 0
  · simp (disch := omega) only [q_ckt, q_lt, q_cI, q_cJ, q_cV, q_cP, q_xI, q_xV, q_xP, q_xJ, g_gk, g_ga, g_gw, g_gp, g_gq, g_P, g_J, q_I_s, q_I_n, q_I_k, nI_add, pk_sub, pk_mul, nI_clamp, n_lt0, n_0lt, n_eq0, n_lt, n_le, n_eq, n_m1, n_m2, n_m9, n_12, n_19, n_10, n_01, n_1n1, n_0n1, n_1n0, n_0n0, n_dI, n_m1lt, q_inb, n_nar, n_nar0, n_nar1, n_bool, Bool.false_eq_true, Bool.true_eq_false, if_true, if_false, ↓reduceIte, Nat.reduceAdd, Nat.reduceMul, Nat.reduceSub, Nat.reduceLT, Nat.reduceLeDiff, Nat.reduceEqDiff, Nat.reduceMod, Nat.reduceDiv, q_F hp, hc, q]
  · simp (disch := omega) only [q_ckt, q_lt, q_cI, q_cJ, q_cV, q_cP, q_xI, q_xV, q_xP, q_xJ, g_gk, g_ga, g_gw, g_gp, g_gq, g_P, g_J, q_I_s, q_I_n, q_I_k, nI_add, pk_sub, pk_mul, nI_clamp, n_lt0, n_0lt, n_eq0, n_lt, n_le, n_eq, n_m1, n_m2, n_m9, n_12, n_19, n_10, n_01, n_1n1, n_0n1, n_1n0, n_0n0, n_dI, n_m1lt, q_inb, n_nar, n_nar0, n_nar1, n_bool, Bool.false_eq_true, Bool.true_eq_false, if_true, if_false, ↓reduceIte, Nat.reduceAdd, Nat.reduceMul, Nat.reduceSub, Nat.reduceLT, Nat.reduceLeDiff, Nat.reduceEqDiff, Nat.reduceMod, Nat.reduceDiv, q_F hp, hc, q]
theorem c_layCh (h : c_rl M 12 K) : ∃ M', m_X11_layChoices (d + 5) 1 M = ir_oV M' ∧ q_eq [9, 117, 119, 120] M M' ∧ (∀ i, i < k_m K → ir_I M' 117 (3 + i) = k_as K i) ∧ ∀ i, i < k_m K → ir_I M' 119 i = nI (k_ch K i (k_g K)) := by
  obtain ⟨M1, e1, q1, f1⟩ := c_la (d := d) h
  have c1 := c_rl_eq h q1 (by decide)
  obtain ⟨M2, e2, q2, f2⟩ := c_lc (d := d) c1
  refine ⟨M2, ?_, (q1.sub (by decide)).tr (q2.sub (by decide)), fun i hi => by rw [q_I_eq q2 (by decide)]; exact f1 i hi, f2⟩
  rw [E_X11_layChoices]
  simp (disch := omega) only [q_ckt, q_lt, q_cI, q_cJ, q_cV, q_cP, q_xI, q_xV, q_xP, q_xJ, g_gk, g_ga, g_gw, g_gp, g_gq, g_P, g_J, q_I_s, q_I_n, q_I_k, nI_add, pk_sub, pk_mul, nI_clamp, n_lt0, n_0lt, n_eq0, n_lt, n_le, n_eq, n_m1, n_m2, n_m9, n_12, n_19, n_10, n_01, n_1n1, n_0n1, n_1n0, n_0n0, n_dI, n_m1lt, q_inb, n_nar, n_nar0, n_nar1, n_bool, Bool.false_eq_true, Bool.true_eq_false, if_true, if_false, ↓reduceIte, Nat.reduceAdd, Nat.reduceMul, Nat.reduceSub, Nat.reduceLT, Nat.reduceLeDiff, Nat.reduceEqDiff, Nat.reduceMod, Nat.reduceDiv, q_W h.1, q_F h.1, e1, q_W c1.1, q_F c1.1, e2]
end CH
