/-! orders, the reference -/
def r_of (M : ir_M) (m : Nat) (ρ : Int32 × Option (Int32 × List Nat)) : Prop := ir_I M 412 27 = ρ.1 ∧ ((ρ.2 = none ∧ ir_I M 412 29 = 0) ∨ (∃ f r, ρ.2 = some (f, r) ∧ ir_I M 412 29 = 1 ∧ ir_I M 412 26 = f ∧ ∀ i, i < m → ir_I M 422 i = nI (r.getD i 0)))
def r_on (K : Nat → Int32) (least : Int32) (r : List Nat) (M : ir_M) : Prop := q_PI M ∧ (∀ z, ¬ (10 ≤ z ∧ z < 10 + k_m K) → ir_I M 413 z = K z) ∧ (∀ i, i < r.length → ir_I M 413 (10 + i) = nI (r.getD i 0)) ∧ ir_I M 412 28 = least
def q_fo (M M' : ir_M) : Prop := q_eq [412, 413, 418, 419, 420, 422] M M' ∧ ∀ k, k < 26 → ir_I M' 412 k = ir_I M 412 k
theorem q_fo.tr {A B C : ir_M} (h : q_fo A B) (g : q_fo B C) : q_fo A C := ⟨h.1.tr g.1, fun k hk => (g.2 k hk).trans (h.2 k hk)⟩
theorem q_fo_eq {S : List Nat} {M M' : ir_M} (h : q_eq S M M') (hS : ∀ a, a ∈ S → a ∈ [413, 418, 419, 420, 422]) : q_fo M M' := ⟨h.sub (fun a ha => List.mem_cons_of_mem _ (hS a ha)), fun k _ => q_I_eq h (fun q => absurd (hS 412 q) (by decide)) k⟩
theorem q_fo_4 {M : ir_M} {k : Nat} {v : Int32} (hk : 26 ≤ k) : q_fo M (ir_sI M 412 k v) := ⟨q_eq.sI (by decide), fun j hj => q_I_k (by omega)⟩
theorem k_row_ok {K : Nat → Int32} (hk : k_ok K) {r : List Nat} (hm : r.length = k_m K) (hw : k_rw K r) : k_ok (k_row K r) := by
  have hb := k_bds hk
  refine ⟨k_okT_cg (fun k h1 h2 => if_neg (by omega)) (fun k h1 => if_neg (by omega)) hk.1, ?_⟩
  refine (k_okS_q (m := k_m K) (Q := fun i => r.getD i 0) hk (fun k h1 h2 => if_neg (by omega)) ?_ (by omega) (fun i hi => ?_) (fun i hi => hw.1 i (by omega)) (fun i j hi hj e => hw.2 i j (by omega) (by omega) e)).1
  · show k_row K r 9 = _
    rw [show k_row K r 9 = K 9 from if_neg (by omega)]
    exact (k_use hk).2.2.2.1
  · show (if 10 ≤ 10 + i ∧ 10 + i < 10 + r.length then nI (r.getD (10 + i - 10) 0) else K (10 + i)) = _
    rw [if_pos (by omega), show 10 + i - 10 = i by omega]
section OR
variable {K : Nat → Int32} {least : Int32} {d : Nat}
theorem r_ap {M : ir_M} (hp : q_PI M) (hwf : k_wf K) (h6 : ∀ z, z < 10 ∨ 18 ≤ z → ir_I M 413 z = K z) {p q : Nat} : m_X12_areApart (d + 1) 412 (nI p) (nI q) M = ir_oI (if k_ap K p q = true then nI 1 else nI 0) M := by
  obtain ⟨-, -, ⟨n1, n2, n3⟩, -⟩ := hwf
  have e6 : ir_I M 413 6 = nI (k_na K) := by rw [h6 6 (by omega)]; exact n1
  have key : ∀ (r x : Nat), x + r = k_na K → v_X12_areApart_2 d 412 (nI p) (nI q) (nI x) M = ir_oI (if ((List.range' x r).any (fun k => (decide (K (173 + 2 * k) = nI p) && decide (K (173 + 2 * k + 1) = nI q)) || (decide (K (173 + 2 * k) = nI q) && decide (K (173 + 2 * k + 1) = nI p)))) = true then nI 1 else nI 0) M := by
    intro r
    induction r with
    | zero =>
      intro x hx
      rw [L_X12_areApart_2]
      simp (disch := omega) only [q_ckt, q_lt, q_cI, q_cJ, q_cV, q_cP, q_xI, q_xV, q_xP, q_xJ, g_gk, g_ga, g_gw, g_gp, g_gq, g_P, g_J, q_I_s, q_I_n, q_I_k, nI_add, pk_sub, pk_mul, nI_clamp, n_lt0, n_0lt, n_eq0, n_lt, n_le, n_eq, n_m1, n_m2, n_m9, n_12, n_19, n_10, n_01, n_1n1, n_0n1, n_1n0, n_0n0, n_dI, n_m1lt, q_inb, n_nar, n_nar0, n_nar1, n_bool, Bool.false_eq_true, Bool.true_eq_false, if_true, if_false, ↓reduceIte, Nat.reduceAdd, Nat.reduceMul, Nat.reduceSub, Nat.reduceLT, Nat.reduceLeDiff, Nat.reduceEqDiff, Nat.reduceMod, Nat.reduceDiv, q_R hp, e6, show ¬ x < k_na K by omega]
      rfl
    | succ r ih =>
      intro x hx
      have i1 := ih (x + 1) (by omega)
      have a1 : ir_I M 413 (173 + 2 * x) = K (173 + 2 * x) := h6 _ (by omega)
      have a2 : ir_I M 413 (173 + 2 * x + 1) = K (173 + 2 * x + 1) := h6 _ (by omega)
      rw [List.range'_succ, List.any_cons, L_X12_areApart_2]
      simp (disch := omega) only [q_ckt, q_lt, q_cI, q_cJ, q_cV, q_cP, q_xI, q_xV, q_xP, q_xJ, g_gk, g_ga, g_gw, g_gp, g_gq, g_P, g_J, q_I_s, q_I_n, q_I_k, nI_add, pk_sub, pk_mul, nI_clamp, n_lt0, n_0lt, n_eq0, n_lt, n_le, n_eq, n_m1, n_m2, n_m9, n_12, n_19, n_10, n_01, n_1n1, n_0n1, n_1n0, n_0n0, n_dI, n_m1lt, q_inb, n_nar, n_nar0, n_nar1, n_bool, Bool.false_eq_true, Bool.true_eq_false, if_true, if_false, ↓reduceIte, Nat.reduceAdd, Nat.reduceMul, Nat.reduceSub, Nat.reduceLT, Nat.reduceLeDiff, Nat.reduceEqDiff, Nat.reduceMod, Nat.reduceDiv, q_R hp, e6, show x < k_na K by omega, a1, a2, L_X12_areApart_55]
      generalize K (173 + 2 * x) = u
      generalize K (173 + 2 * x + 1) = w
      by_cases c1 : u = nI p
      · by_cases c2 : w = nI q
        · rw [if_pos c1, if_pos c2, decide_eq_true c1, decide_eq_true c2, Bool.true_and, Bool.true_or, Bool.true_or, if_pos rfl]
        · rw [if_pos c1, if_neg c2, decide_eq_true c1, decide_eq_false c2, Bool.true_and, Bool.false_or]
          by_cases c3 : u = nI q
          · by_cases c4 : w = nI p
            · rw [if_pos c3, if_pos c4, decide_eq_true c3, decide_eq_true c4, Bool.true_and, Bool.true_or, if_pos rfl]
            · rw [if_pos c3, if_neg c4, decide_eq_true c3, decide_eq_false c4, Bool.true_and, Bool.false_or]
              exact i1
          · rw [if_neg c3, decide_eq_false c3, Bool.false_and, Bool.false_or]
            exact i1
      · rw [if_neg c1, decide_eq_false c1, Bool.false_and, Bool.false_or]
        by_cases c3 : u = nI q
        · by_cases c4 : w = nI p
          · rw [if_pos c3, if_pos c4, decide_eq_true c3, decide_eq_true c4, Bool.true_and, Bool.true_or, if_pos rfl]
          · rw [if_pos c3, if_neg c4, decide_eq_true c3, decide_eq_false c4, Bool.true_and, Bool.false_or]
            exact i1
        · rw [if_neg c3, decide_eq_false c3, Bool.false_and, Bool.false_or]
          exact i1
  have := key (k_na K) 0 (by omega)
  rw [E_X12_areApart, this]
  unfold k_ap
  rw [List.range_eq_range']
theorem r_lf {r : List Nat} {ρ : Int32 × Option (Int32 × List Nat)} {M : ir_M} (hk : k_ok K) (hm : r.length = k_m K) (hw : k_rw K r) (h : r_on K least r M) (hf : r_of M (k_m K) ρ) : ∃ M', m_X12_goesOrders (d + 8) 412 (nI r.length) (nI 0) M = ir_oV M' ∧ q_fo M M' ∧ r_on K least r M' ∧ r_of M' (k_m K) (k_o1 K least ρ r) := by
  have hb := k_bds hk
  obtain ⟨h1, h2, h3, h4⟩ := h
  have hok := k_row_ok hk hm hw
  have r8 : ∀ i, i < r.length → r.getD i 0 < 8 := fun i hi => by have := hw.1 i hi; omega
  have rr : r_rl M (k_row K r) := ⟨h1, hok, fun z => by
    by_cases q : 10 ≤ z ∧ z < 10 + k_m K
    · have e := h3 (z - 10) (by omega)
      rw [show 10 + (z - 10) = z by omega] at e
      rw [e, show k_row K r z = nI (r.getD (z - 10) 0) from if_pos (by omega)]
    · rw [h2 z q, show k_row K r z = K z from if_neg (by omega)]⟩
  obtain ⟨M1, e1, q1⟩ := r_sumToday (d := d) rr
  have rr1 := r_rl_eq rr q1 (by decide)
  have nm : k_m (k_row K r) = k_m K := (k_rq_n (k_row_rq (K := K) (r := r) (by omega))).2.2.1
  obtain ⟨T, eT⟩ : ∃ T, T = k_tot (k_row K r) := ⟨_, rfl⟩
  rw [← eT] at e1
  have f1 : q_fo M M1 := q_fo_eq q1 (by decide)
  have hf1 : r_of M1 (k_m K) ρ := by
    unfold r_of at hf ⊢
    simp only [q_I_eq q1 (show 412 ∉ [418, 419, 420] by decide), q_I_eq q1 (show 422 ∉ [418, 419, 420] by decide)]
    exact hf
  obtain ⟨M2, eM2⟩ : ∃ N, N = ir_sI M1 412 27 (k_o1 K least ρ r).1 := ⟨_, rfl⟩
  have f2 : q_fo M1 M2 := by rw [eM2]; exact q_fo_4 (by decide)
  have p2 : q_PI M2 := by rw [eM2]; exact rr1.1
  have z28 : ir_I M1 412 28 = least := by rw [q_I_eq q1 (by decide)]; exact h4
  have z29 : ir_I M2 412 29 = ir_I M1 412 29 := by rw [eM2, q_I_k (by decide)]
  have z26 : ir_I M2 412 26 = ir_I M1 412 26 := by rw [eM2, q_I_k (by decide)]
  have go27 : ∀ X, (if ir_I M2 412 29 = 0 then v_X12_goesOrders_47 (d + 7) 412 T M2 else if ir_I M2 412 26 < T then v_X12_goesOrders_47 (d + 7) 412 T M2 else ir_oV M2) = X → m_X12_goesOrders (d + 8) 412 (nI r.length) (nI 0) M = X := fun X hX => by
    rw [← hX, E_X12_goesOrders]
    by_cases q : T < least
    · have e : (k_o1 K least ρ r).1 = ρ.1 + nI 0 := by
        unfold k_o1
        dsimp only
        rw [← eT, if_pos q, n_00, Int32.add_zero]
      simp (disch := omega) only [q_ckt, q_lt, q_cI, q_cJ, q_cV, q_cP, q_xI, q_xV, q_xP, q_xJ, g_gk, g_ga, g_gw, g_gp, g_gq, g_P, g_J, q_I_s, q_I_n, q_I_k, nI_add, pk_sub, pk_mul, nI_clamp, n_lt0, n_0lt, n_eq0, n_lt, n_le, n_eq, n_m1, n_m2, n_m9, n_12, n_19, n_10, n_01, n_1n1, n_0n1, n_1n0, n_0n0, n_dI, n_m1lt, q_inb, n_nar, n_nar0, n_nar1, n_bool, Bool.false_eq_true, Bool.true_eq_false, if_true, if_false, ↓reduceIte, Nat.reduceAdd, Nat.reduceMul, Nat.reduceSub, Nat.reduceLT, Nat.reduceLeDiff, Nat.reduceEqDiff, Nat.reduceMod, Nat.reduceDiv, q_R h1, e1, q_R rr1.1, z28, q, L_X12_goesOrders_27, hf1.1]
      rw [← e, ← eM2, z29, z26]
    · have e : (k_o1 K least ρ r).1 = ρ.1 + nI 1 := by
        unfold k_o1
        dsimp only
        rw [← eT, if_neg q]
      simp (disch := omega) only [q_ckt, q_lt, q_cI, q_cJ, q_cV, q_cP, q_xI, q_xV, q_xP, q_xJ, g_gk, g_ga, g_gw, g_gp, g_gq, g_P, g_J, q_I_s, q_I_n, q_I_k, nI_add, pk_sub, pk_mul, nI_clamp, n_lt0, n_0lt, n_eq0, n_lt, n_le, n_eq, n_m1, n_m2, n_m9, n_12, n_19, n_10, n_01, n_1n1, n_0n1, n_1n0, n_0n0, n_dI, n_m1lt, q_inb, n_nar, n_nar0, n_nar1, n_bool, Bool.false_eq_true, Bool.true_eq_false, if_true, if_false, ↓reduceIte, Nat.reduceAdd, Nat.reduceMul, Nat.reduceSub, Nat.reduceLT, Nat.reduceLeDiff, Nat.reduceEqDiff, Nat.reduceMod, Nat.reduceDiv, q_R h1, e1, q_R rr1.1, z28, q, L_X12_goesOrders_27, hf1.1]
      rw [← e, ← eM2, z29, z26]
  have on : ∀ N, q_eq [412, 422] M2 N → ir_I N 412 28 = least → r_on K least r N := fun N qN z => by
    refine ⟨q_PI_eq qN p2, fun z hz => ?_, fun i hi => ?_, z⟩
    · rw [q_I_eq qN (by decide), eM2, q_I_n (by decide), q_I_eq q1 (by decide)]; exact h2 z hz
    · rw [q_I_eq qN (by decide), eM2, q_I_n (by decide), q_I_eq q1 (by decide)]; exact h3 i hi
  have m28 : ir_I M2 412 28 = least := by rw [eM2, q_I_k (by decide)]; exact z28
  -- taken
  obtain ⟨N0, eN0⟩ : ∃ N, N = ir_sI (ir_sI M2 412 29 (nI 1)) 412 26 T := ⟨_, rfl⟩
  have q20 : q_eq [412, 422] M2 N0 := by rw [eN0]; exact (q_eq.sI (by decide)).tr (q_eq.sI (by decide))
  have rN0 : r_rl N0 (k_row K r) := by
    refine ⟨q_PI_eq q20 p2, hok, fun k => ?_⟩
    rw [q_I_eq q20 (by decide), eM2, q_I_n (by decide)]; exact rr1.2.2 k
  have L := q_up (σ := ir_M) (V := fun x t => v_X12_goesOrders_60 (d + 7) 412 (nI x) t) (N := k_m K) (I := fun x t => q_eq [422] N0 t ∧ ∀ i, i < x → ir_I t 422 i = nI (r.getD i 0)) (K := ir_oV) (by
    rintro x t hx ⟨hq, ht⟩
    have rt := r_rl_eq rN0 hq (by decide)
    have qd := r_qd (d := d + 6) rt
    rw [nm] at qd
    have wh := r_wh (d := d + 6) rt (i := x) (by omega)
    rw [k_row_q r8 (by omega)] at wh
    have := r8 x (by omega)
    refine ⟨ir_sI t 422 x (nI (r.getD x 0)), ⟨hq.tr (q_eq.sI (by decide)), fun i hi => ?_⟩, ?_⟩
    · rw [q_I_u]
      by_cases q : i = x
      · rw [if_pos q, q]
      · rw [if_neg q]; exact ht i (by omega)
    · rw [L_X12_goesOrders_60]
      simp (disch := omega) only [q_ckt, q_lt, q_cI, q_cJ, q_cV, q_cP, q_xI, q_xV, q_xP, q_xJ, g_gk, g_ga, g_gw, g_gp, g_gq, g_P, g_J, q_I_s, q_I_n, q_I_k, nI_add, pk_sub, pk_mul, nI_clamp, n_lt0, n_0lt, n_eq0, n_lt, n_le, n_eq, n_m1, n_m2, n_m9, n_12, n_19, n_10, n_01, n_1n1, n_0n1, n_1n0, n_0n0, n_dI, n_m1lt, q_inb, n_nar, n_nar0, n_nar1, n_bool, Bool.false_eq_true, Bool.true_eq_false, if_true, if_false, ↓reduceIte, Nat.reduceAdd, Nat.reduceMul, Nat.reduceSub, Nat.reduceLT, Nat.reduceLeDiff, Nat.reduceEqDiff, Nat.reduceMod, Nat.reduceDiv, q_R rt.1, qd, hx, wh]) (by
    rintro t ⟨hq, ht⟩
    have rt := r_rl_eq rN0 hq (by decide)
    have qd := r_qd (d := d + 6) rt
    rw [nm] at qd
    rw [L_X12_goesOrders_60]
    simp (disch := omega) only [q_ckt, q_lt, q_cI, q_cJ, q_cV, q_cP, q_xI, q_xV, q_xP, q_xJ, g_gk, g_ga, g_gw, g_gp, g_gq, g_P, g_J, q_I_s, q_I_n, q_I_k, nI_add, pk_sub, pk_mul, nI_clamp, n_lt0, n_0lt, n_eq0, n_lt, n_le, n_eq, n_m1, n_m2, n_m9, n_12, n_19, n_10, n_01, n_1n1, n_0n1, n_1n0, n_0n0, n_dI, n_m1lt, q_inb, n_nar, n_nar0, n_nar1, n_bool, Bool.false_eq_true, Bool.true_eq_false, if_true, if_false, ↓reduceIte, Nat.reduceAdd, Nat.reduceMul, Nat.reduceSub, Nat.reduceLT, Nat.reduceLeDiff, Nat.reduceEqDiff, Nat.reduceMod, Nat.reduceDiv, q_R rt.1, qd, Nat.lt_irrefl]) (i := 0) (t := N0) (by omega) ⟨q_eq.rf _ _, fun i hi => absurd hi (by omega)⟩
  obtain ⟨N, ⟨qN, aN⟩, eN⟩ := L
  have q2N : q_eq [412, 422] M2 N := q20.tr (qN.sub (by decide))
  have fN : q_fo M2 N := by
    have a : q_fo M2 N0 := by rw [eN0]; exact (q_fo_4 (by decide)).tr (q_fo_4 (by decide))
    exact a.tr (q_fo_eq qN (by decide))
  have take : v_X12_goesOrders_47 (d + 7) 412 T M2 = ir_oV N := by
    rw [L_X12_goesOrders_47]
    simp (disch := omega) only [q_ckt, q_lt, q_cI, q_cJ, q_cV, q_cP, q_xI, q_xV, q_xP, q_xJ, g_gk, g_ga, g_gw, g_gp, g_gq, g_P, g_J, q_I_s, q_I_n, q_I_k, nI_add, pk_sub, pk_mul, nI_clamp, n_lt0, n_0lt, n_eq0, n_lt, n_le, n_eq, n_m1, n_m2, n_m9, n_12, n_19, n_10, n_01, n_1n1, n_0n1, n_1n0, n_0n0, n_dI, n_m1lt, q_inb, n_nar, n_nar0, n_nar1, n_bool, Bool.false_eq_true, Bool.true_eq_false, if_true, if_false, ↓reduceIte, Nat.reduceAdd, Nat.reduceMul, Nat.reduceSub, Nat.reduceLT, Nat.reduceLeDiff, Nat.reduceEqDiff, Nat.reduceMod, Nat.reduceDiv, q_R p2, show ir_isB (nI 1) = true from rfl, Bool.and_self]
    rw [← eN0]
    exact eN
  have n28 : ir_I N 412 28 = least := by rw [q_I_eq qN (by decide), eN0, q_I_k (by decide), q_I_k (by decide)]; exact m28
  have ofN : (k_o1 K least ρ r).2 = some (T, r) → r_of N (k_m K) (k_o1 K least ρ r) := fun e => by
    refine ⟨?_, Or.inr ⟨T, r, e, ?_, ?_, aN⟩⟩
    · rw [q_I_eq qN (by decide), eN0, q_I_k (by decide), q_I_k (by decide), eM2, q_I_s]
    · rw [q_I_eq qN (by decide), eN0, q_I_k (by decide), q_I_s]
      rfl
    · rw [q_I_eq qN (by decide), eN0, q_I_s]
  rcases hf1.2 with ⟨a1, a2⟩ | ⟨f, x, a1, a2, a3, a4⟩
  · have eo : (k_o1 K least ρ r).2 = some (T, r) := by
      unfold k_o1 k_b1
      dsimp only
      rw [a1, eT]
    refine ⟨N, go27 _ ?_, (f1.tr f2).tr fN, on N q2N n28, ofN eo⟩
    rw [if_pos (by rw [eM2, q_I_k (by decide)]; exact a2)]
    exact take
  · have m1 : ir_I M2 412 29 = 1 := by rw [eM2, q_I_k (by decide)]; exact a2
    have m2 : ir_I M2 412 26 = f := by rw [eM2, q_I_k (by decide)]; exact a3
    by_cases q : f < T
    · have eo : (k_o1 K least ρ r).2 = some (T, r) := by
        unfold k_o1 k_b1
        dsimp only
        rw [a1]
        dsimp only
        rw [← eT, if_pos q]
      refine ⟨N, go27 _ ?_, (f1.tr f2).tr fN, on N q2N n28, ofN eo⟩
      rw [m1, m2, if_neg (by decide +kernel), if_pos q]
      exact take
    · have eo : (k_o1 K least ρ r).2 = some (f, x) := by
        unfold k_o1 k_b1
        dsimp only
        rw [a1]
        dsimp only
        rw [← eT, if_neg q]
      refine ⟨M2, go27 _ ?_, f1.tr f2, on M2 (q_eq.rf _ _) m28, by rw [eM2, q_I_s], Or.inr ⟨f, x, eo, m1, m2, fun i hi => by rw [eM2, q_I_n (by decide)]; exact a4 i hi⟩⟩
      rw [m1, m2, if_neg (by decide +kernel), if_neg q]
theorem r_gs (hwf : k_wf K) : ∀ (k : Nat) {r : List Nat} {R : Nat} {ρ : Int32 × Option (Int32 × List Nat)} {M : ir_M}, r.length + k = k_m K → k_rw K r → k_rb2 K r R → k_card R = k → r_on K least r M → r_of M (k_m K) ρ → ∃ M', m_X12_goesOrders (d + 8 + k) 412 (nI r.length) (nI R) M = ir_oV M' ∧ q_fo M M' ∧ r_on K least r M' ∧ r_of M' (k_m K) (k_og K least k r ρ)
  | 0, r, R, ρ, M, hm, hw, hR, hC, h, hf => by
    rw [(k_card_le R hR.1).2 hC]
    exact r_lf hwf.1 (by omega) hw h hf
  | k + 1, r, R, ρ, M, hm, hw, hR, hC, h, hf => by
    have hk := hwf.1
    have hb := k_bds hk
    have hlm : r.length < k_m K := by omega
    have hR0 : ¬ R = 0 := fun w => by
      rw [w] at hC
      exact absurd hC (by show ¬ k_card 0 = k + 1; rw [show k_card 0 = 0 by decide +kernel]; omega)
    have hR1 := hR.1
    have ed : d + 8 + (k + 1) = d + 8 + k + 1 := by omega
    have pe : ∀ t, r_on K least r t → m_X12_people (d + 8 + k) 412 t = ir_oI (nI (k_n K)) t := fun t ht => by
      have e2 : ir_I t 413 2 = nI (k_n K) := by rw [ht.2.1 2 (by omega)]; exact (k_use hk).2.1
      rw [show d + 8 + k = d + 7 + k + 1 by omega, E_X12_people]
      simp (disch := omega) only [q_ckt, q_lt, q_cI, q_cJ, q_cV, q_cP, q_xI, q_xV, q_xP, q_xJ, g_gk, g_ga, g_gw, g_gp, g_gq, g_P, g_J, q_I_s, q_I_n, q_I_k, nI_add, pk_sub, pk_mul, nI_clamp, n_lt0, n_0lt, n_eq0, n_lt, n_le, n_eq, n_m1, n_m2, n_m9, n_12, n_19, n_10, n_01, n_1n1, n_0n1, n_1n0, n_0n0, n_dI, n_m1lt, q_inb, n_nar, n_nar0, n_nar1, n_bool, Bool.false_eq_true, Bool.true_eq_false, if_true, if_false, ↓reduceIte, Nat.reduceAdd, Nat.reduceMul, Nat.reduceSub, Nat.reduceLT, Nat.reduceLeDiff, Nat.reduceEqDiff, Nat.reduceMod, Nat.reduceDiv, q_R ht.1, e2]
    have L := q_up (σ := ir_M) (V := fun x t => v_X12_goesOrders_91 (d + 8 + k) 412 (nI r.length) (nI R) (nI x) t) (N := k_n K) (I := fun x t => q_fo M t ∧ r_on K least r t ∧ r_of t (k_m K) ((List.range x).foldl (fun ρ p => if k_oc K r p = true then k_og K least k (r ++ [p]) ρ else ρ) ρ)) (K := ir_oV) (by
      rintro x t hx ⟨hq, hon, hft⟩
      have hh := r_has (M := t) (d := d + 7 + k) hR.1 (show x < 8 by omega)
      rw [show d + 7 + k + 1 = d + 8 + k by omega, hR.2] at hh
      have to129 : k_oc K r x = true → v_X12_goesOrders_91 (d + 8 + k) 412 (nI r.length) (nI R) (nI x) t = v_X12_goesOrders_129 (d + 8 + k) 412 (nI r.length) (nI R) (nI x) t := fun qc => by
        have qc2 := qc
        unfold k_oc at qc2
        rw [Bool.and_eq_true] at qc2
        rw [qc2.1, if_pos rfl] at hh
        by_cases q0 : 0 < r.length
        · have qa : k_ap K (r.getD (r.length - 1) 0) x = false := by
            have := qc2.2
            rw [decide_eq_true q0, Bool.true_and] at this
            simpa using this
          have ap := r_ap (d := d + 7 + k) (p := r.getD (r.length - 1) 0) (q := x) hon.1 hwf (fun z hz => hon.2.1 z (by omega))
          rw [qa, if_neg (by decide), show d + 7 + k + 1 = d + 8 + k by omega] at ap
          have wl := hon.2.2.1 (r.length - 1) (by omega)
          have wh : m_X12_who (d + 8 + k) 412 (nI (r.length - 1)) t = ir_oI (nI (r.getD (r.length - 1) 0)) t := by
            rw [show d + 8 + k = d + 7 + k + 1 by omega, E_X12_who]
            simp (disch := omega) only [q_ckt, q_lt, q_cI, q_cJ, q_cV, q_cP, q_xI, q_xV, q_xP, q_xJ, g_gk, g_ga, g_gw, g_gp, g_gq, g_P, g_J, q_I_s, q_I_n, q_I_k, nI_add, pk_sub, pk_mul, nI_clamp, n_lt0, n_0lt, n_eq0, n_lt, n_le, n_eq, n_m1, n_m2, n_m9, n_12, n_19, n_10, n_01, n_1n1, n_0n1, n_1n0, n_0n0, n_dI, n_m1lt, q_inb, n_nar, n_nar0, n_nar1, n_bool, Bool.false_eq_true, Bool.true_eq_false, if_true, if_false, ↓reduceIte, Nat.reduceAdd, Nat.reduceMul, Nat.reduceSub, Nat.reduceLT, Nat.reduceLeDiff, Nat.reduceEqDiff, Nat.reduceMod, Nat.reduceDiv, q_R hon.1, wl]
          rw [L_X12_goesOrders_91]
          simp (disch := omega) only [q_ckt, q_lt, q_cI, q_cJ, q_cV, q_cP, q_xI, q_xV, q_xP, q_xJ, g_gk, g_ga, g_gw, g_gp, g_gq, g_P, g_J, q_I_s, q_I_n, q_I_k, nI_add, pk_sub, pk_mul, nI_clamp, n_lt0, n_0lt, n_eq0, n_lt, n_le, n_eq, n_m1, n_m2, n_m9, n_12, n_19, n_10, n_01, n_1n1, n_0n1, n_1n0, n_0n0, n_dI, n_m1lt, q_inb, n_nar, n_nar0, n_nar1, n_bool, Bool.false_eq_true, Bool.true_eq_false, if_true, if_false, ↓reduceIte, Nat.reduceAdd, Nat.reduceMul, Nat.reduceSub, Nat.reduceLT, Nat.reduceLeDiff, Nat.reduceEqDiff, Nat.reduceMod, Nat.reduceDiv, q_R hon.1, pe t hon, hx, hh, q0, wh, ap]
        · rw [L_X12_goesOrders_91]
          simp (disch := omega) only [q_ckt, q_lt, q_cI, q_cJ, q_cV, q_cP, q_xI, q_xV, q_xP, q_xJ, g_gk, g_ga, g_gw, g_gp, g_gq, g_P, g_J, q_I_s, q_I_n, q_I_k, nI_add, pk_sub, pk_mul, nI_clamp, n_lt0, n_0lt, n_eq0, n_lt, n_le, n_eq, n_m1, n_m2, n_m9, n_12, n_19, n_10, n_01, n_1n1, n_0n1, n_1n0, n_0n0, n_dI, n_m1lt, q_inb, n_nar, n_nar0, n_nar1, n_bool, Bool.false_eq_true, Bool.true_eq_false, if_true, if_false, ↓reduceIte, Nat.reduceAdd, Nat.reduceMul, Nat.reduceSub, Nat.reduceLT, Nat.reduceLeDiff, Nat.reduceEqDiff, Nat.reduceMod, Nat.reduceDiv, q_R hon.1, pe t hon, hx, hh, q0]
      have toskip : ¬ k_oc K r x = true → v_X12_goesOrders_91 (d + 8 + k) 412 (nI r.length) (nI R) (nI x) t = v_X12_goesOrders_91 (d + 8 + k) 412 (nI r.length) (nI R) (nI (x + 1)) t := fun qc => by
        unfold k_oc at qc
        by_cases q1 : (k_mem K x && !(r.contains x)) = true
        · rw [q1, if_pos rfl] at hh
          rw [q1, Bool.true_and] at qc
          have q0 : 0 < r.length := by
            rcases Nat.eq_zero_or_pos r.length with z | z
            · rw [decide_eq_false (by omega)] at qc
              exact absurd rfl qc
            · exact z
          have qa : k_ap K (r.getD (r.length - 1) 0) x = true := by
            rw [decide_eq_true q0, Bool.true_and] at qc
            simpa using qc
          have ap := r_ap (d := d + 7 + k) (p := r.getD (r.length - 1) 0) (q := x) hon.1 hwf (fun z hz => hon.2.1 z (by omega))
          rw [qa, if_pos rfl, show d + 7 + k + 1 = d + 8 + k by omega] at ap
          have wl := hon.2.2.1 (r.length - 1) (by omega)
          have wh : m_X12_who (d + 8 + k) 412 (nI (r.length - 1)) t = ir_oI (nI (r.getD (r.length - 1) 0)) t := by
            rw [show d + 8 + k = d + 7 + k + 1 by omega, E_X12_who]
            simp (disch := omega) only [q_ckt, q_lt, q_cI, q_cJ, q_cV, q_cP, q_xI, q_xV, q_xP, q_xJ, g_gk, g_ga, g_gw, g_gp, g_gq, g_P, g_J, q_I_s, q_I_n, q_I_k, nI_add, pk_sub, pk_mul, nI_clamp, n_lt0, n_0lt, n_eq0, n_lt, n_le, n_eq, n_m1, n_m2, n_m9, n_12, n_19, n_10, n_01, n_1n1, n_0n1, n_1n0, n_0n0, n_dI, n_m1lt, q_inb, n_nar, n_nar0, n_nar1, n_bool, Bool.false_eq_true, Bool.true_eq_false, if_true, if_false, ↓reduceIte, Nat.reduceAdd, Nat.reduceMul, Nat.reduceSub, Nat.reduceLT, Nat.reduceLeDiff, Nat.reduceEqDiff, Nat.reduceMod, Nat.reduceDiv, q_R hon.1, wl]
          rw [L_X12_goesOrders_91]
          simp (disch := omega) only [q_ckt, q_lt, q_cI, q_cJ, q_cV, q_cP, q_xI, q_xV, q_xP, q_xJ, g_gk, g_ga, g_gw, g_gp, g_gq, g_P, g_J, q_I_s, q_I_n, q_I_k, nI_add, pk_sub, pk_mul, nI_clamp, n_lt0, n_0lt, n_eq0, n_lt, n_le, n_eq, n_m1, n_m2, n_m9, n_12, n_19, n_10, n_01, n_1n1, n_0n1, n_1n0, n_0n0, n_dI, n_m1lt, q_inb, n_nar, n_nar0, n_nar1, n_bool, Bool.false_eq_true, Bool.true_eq_false, if_true, if_false, ↓reduceIte, Nat.reduceAdd, Nat.reduceMul, Nat.reduceSub, Nat.reduceLT, Nat.reduceLeDiff, Nat.reduceEqDiff, Nat.reduceMod, Nat.reduceDiv, q_R hon.1, pe t hon, hx, hh, q0, wh, ap]
        · rw [Bool.eq_false_iff.mpr q1, if_neg (by decide)] at hh
          rw [L_X12_goesOrders_91]
          simp (disch := omega) only [q_ckt, q_lt, q_cI, q_cJ, q_cV, q_cP, q_xI, q_xV, q_xP, q_xJ, g_gk, g_ga, g_gw, g_gp, g_gq, g_P, g_J, q_I_s, q_I_n, q_I_k, nI_add, pk_sub, pk_mul, nI_clamp, n_lt0, n_0lt, n_eq0, n_lt, n_le, n_eq, n_m1, n_m2, n_m9, n_12, n_19, n_10, n_01, n_1n1, n_0n1, n_1n0, n_0n0, n_dI, n_m1lt, q_inb, n_nar, n_nar0, n_nar1, n_bool, Bool.false_eq_true, Bool.true_eq_false, if_true, if_false, ↓reduceIte, Nat.reduceAdd, Nat.reduceMul, Nat.reduceSub, Nat.reduceLT, Nat.reduceLeDiff, Nat.reduceEqDiff, Nat.reduceMod, Nat.reduceDiv, q_R hon.1, pe t hon, hx, hh]
      rw [k_foldl]
      by_cases qc : k_oc K r x = true
      · rw [if_pos qc, to129 qc]
        have mc : k_mem K x = true ∧ r.contains x = false := by
          unfold k_oc at qc
          simp only [Bool.and_eq_true, Bool.not_eq_true'] at qc
          exact qc.1
        have bx : R.testBit x = true := by rw [hR.2, mc.1, mc.2]; rfl
        obtain ⟨t1, et1⟩ : ∃ N, N = ir_sI t 413 (10 + r.length) (nI x) := ⟨_, rfl⟩
        have q1 : q_fo t t1 := by rw [et1]; exact q_fo_eq (S := [413]) (q_eq.sI (by decide)) (by decide)
        have p1 : q_PI t1 := by rw [et1]; exact hon.1
        have ln : (r ++ [x]).length = r.length + 1 := by rw [List.length_append]; rfl
        have on1 : r_on K least (r ++ [x]) t1 := by
          refine ⟨p1, fun z hz => ?_, fun i hi => ?_, ?_⟩
          · rw [et1, q_I_k (by omega)]; exact hon.2.1 z hz
          · rw [et1, q_I_u]
            by_cases q : i = r.length
            · rw [if_pos (by omega), q, k_gr]
            · rw [if_neg (by omega), k_gl (by omega)]; exact hon.2.2.1 i (by omega)
          · rw [et1, q_I_n (by decide)]; exact hon.2.2.2
        have of1 : r_of t1 (k_m K) ((List.range x).foldl (fun ρ p => if k_oc K r p = true then k_og K least k (r ++ [p]) ρ else ρ) ρ) := by
          unfold r_of at hft ⊢
          simp only [et1, q_I_n (show (412 : Nat) ≠ 413 by decide), q_I_n (show (422 : Nat) ≠ 413 by decide)]
          exact hft
        have cd := k_cd_d R hR.1 x (by omega) bx
        obtain ⟨t2, e2, q2, a2, b2⟩ := r_gs hwf k (by omega) (k_rw_s hw hx mc.2) (k_rb2_s hR) (by omega) on1 of1
        refine ⟨t2, ⟨(hq.tr q1).tr q2, ⟨a2.1, a2.2.1, fun i hi => by rw [a2.2.2.1 i (by omega), k_gl hi], a2.2.2.2⟩, b2⟩, ?_⟩
        rw [ln] at e2
        rw [L_X12_goesOrders_129]
        simp (disch := omega) only [q_ckt, q_lt, q_cI, q_cJ, q_cV, q_cP, q_xI, q_xV, q_xP, q_xJ, g_gk, g_ga, g_gw, g_gp, g_gq, g_P, g_J, q_I_s, q_I_n, q_I_k, nI_add, pk_sub, pk_mul, nI_clamp, n_lt0, n_0lt, n_eq0, n_lt, n_le, n_eq, n_m1, n_m2, n_m9, n_12, n_19, n_10, n_01, n_1n1, n_0n1, n_1n0, n_0n0, n_dI, n_m1lt, q_inb, n_nar, n_nar0, n_nar1, n_bool, Bool.false_eq_true, Bool.true_eq_false, if_true, if_false, ↓reduceIte, Nat.reduceAdd, Nat.reduceMul, Nat.reduceSub, Nat.reduceLT, Nat.reduceLeDiff, Nat.reduceEqDiff, Nat.reduceMod, Nat.reduceDiv, q_R hon.1]
        rw [← et1]
        simp (disch := omega) only [q_ckt, q_lt, q_cI, q_cJ, q_cV, q_cP, q_xI, q_xV, q_xP, q_xJ, g_gk, g_ga, g_gw, g_gp, g_gq, g_P, g_J, q_I_s, q_I_n, q_I_k, nI_add, pk_sub, pk_mul, nI_clamp, n_lt0, n_0lt, n_eq0, n_lt, n_le, n_eq, n_m1, n_m2, n_m9, n_12, n_19, n_10, n_01, n_1n1, n_0n1, n_1n0, n_0n0, n_dI, n_m1lt, q_inb, n_nar, n_nar0, n_nar1, n_bool, Bool.false_eq_true, Bool.true_eq_false, if_true, if_false, ↓reduceIte, Nat.reduceAdd, Nat.reduceMul, Nat.reduceSub, Nat.reduceLT, Nat.reduceLeDiff, Nat.reduceEqDiff, Nat.reduceMod, Nat.reduceDiv, q_R p1, n_bit, n_dif, e2]
      · rw [if_neg qc]
        exact ⟨t, ⟨hq, hon, hft⟩, toskip qc⟩) (by
      rintro t ⟨hq, hon, hft⟩
      rw [L_X12_goesOrders_91]
      simp (disch := omega) only [q_ckt, q_lt, q_cI, q_cJ, q_cV, q_cP, q_xI, q_xV, q_xP, q_xJ, g_gk, g_ga, g_gw, g_gp, g_gq, g_P, g_J, q_I_s, q_I_n, q_I_k, nI_add, pk_sub, pk_mul, nI_clamp, n_lt0, n_0lt, n_eq0, n_lt, n_le, n_eq, n_m1, n_m2, n_m9, n_12, n_19, n_10, n_01, n_1n1, n_0n1, n_1n0, n_0n0, n_dI, n_m1lt, q_inb, n_nar, n_nar0, n_nar1, n_bool, Bool.false_eq_true, Bool.true_eq_false, if_true, if_false, ↓reduceIte, Nat.reduceAdd, Nat.reduceMul, Nat.reduceSub, Nat.reduceLT, Nat.reduceLeDiff, Nat.reduceEqDiff, Nat.reduceMod, Nat.reduceDiv, q_R hon.1, pe t hon, Nat.lt_irrefl]) (i := 0) (t := M) (by omega) ⟨⟨q_eq.rf _ _, fun _ _ => rfl⟩, h, hf⟩
    obtain ⟨t, ⟨a, b, c⟩, ee⟩ := L
    refine ⟨t, ?_, a, b, c⟩
    rw [ed, E_X12_goesOrders]
    simp (disch := omega) only [q_ckt, q_lt, q_cI, q_cJ, q_cV, q_cP, q_xI, q_xV, q_xP, q_xJ, g_gk, g_ga, g_gw, g_gp, g_gq, g_P, g_J, q_I_s, q_I_n, q_I_k, nI_add, pk_sub, pk_mul, nI_clamp, n_lt0, n_0lt, n_eq0, n_lt, n_le, n_eq, n_m1, n_m2, n_m9, n_12, n_19, n_10, n_01, n_1n1, n_0n1, n_1n0, n_0n0, n_dI, n_m1lt, q_inb, n_nar, n_nar0, n_nar1, n_bool, Bool.false_eq_true, Bool.true_eq_false, if_true, if_false, ↓reduceIte, Nat.reduceAdd, Nat.reduceMul, Nat.reduceSub, Nat.reduceLT, Nat.reduceLeDiff, Nat.reduceEqDiff, Nat.reduceMod, Nat.reduceDiv, hR0]
    exact ee
theorem k_mb_cd (hk : k_ok K) : k_card (k_mb K) = k_m K := by
  have hb := k_bds hk
  have key : ∀ x, x ≤ k_m K → k_mbs K x < 256 ∧ k_card (k_mbs K x) = x := by
    intro x
    induction x with
    | zero => intro _; exact ⟨show 0 < 256 by decide, show k_card 0 = 0 by decide +kernel⟩
    | succ x ih =>
      intro hx
      obtain ⟨h1, h2⟩ := ih (by omega)
      have hq := k_qn hk (i := x) (by omega)
      have nb : (k_mbs K x).testBit (k_q K x) = false := by
        cases e : (k_mbs K x).testBit (k_q K x)
        · rfl
        · obtain ⟨i, hi, hi2⟩ := (k_mbs_bit x).mp e
          have := hk.2.2.2.2.2.1 i x (by omega) (by omega) hi2
          omega
      have e : k_mbs K (x + 1) = k_mbs K x ||| 2 ^ k_q K x := rfl
      rw [e]
      refine ⟨?_, by rw [k_cd_o _ h1 _ (by omega) nb, h2]⟩
      exact Nat.or_lt_two_pow (n := 8) h1 (n_p2 (by omega))
  exact (key (k_m K) (Nat.le_refl _)).2
theorem r_lo {M : ir_M} (h : r_rl M K) (hwf : k_wf K) : ∃ N, m_X12_laysOrders (d + 17) 412 least M = ir_oV N ∧ q_eq [421, 412, 418, 419, 420, 422] M N ∧ (∀ k, k < 26 → ir_I N 412 k = ir_I M 412 k) ∧ r_of N (k_m K) (k_og K least (k_m K) [] (nI 0, none)) := by
  have hk := h.2.1
  have hb := k_bds hk
  obtain ⟨N1, e1, q1, a1⟩ := r_aside (d := d + 15) h.1 (lv := 0) (by decide)
  have r1 := r_rl_eq h q1 (by decide)
  obtain ⟨N2, e2⟩ : ∃ N, N = ir_sI (ir_sI (ir_sI N1 412 27 (nI 0)) 412 28 least) 412 29 (nI 0) := ⟨_, rfl⟩
  have q2 : q_eq [412] N1 N2 := by rw [e2]; exact ((q_eq.sI (by decide)).tr (q_eq.sI (by decide))).tr (q_eq.sI (by decide))
  have r2 := r_rl_eq r1 q2 (by decide)
  have on2 : r_on K least [] N2 := ⟨r2.1, fun z _ => r2.2.2 z, fun i hi => absurd hi (by show ¬ i < 0; omega), by rw [e2, q_I_k (by decide), q_I_s]⟩
  have of2 : r_of N2 (k_m K) (nI 0, none) := ⟨by rw [e2, q_I_k (by decide), q_I_k (by decide), q_I_s], Or.inl ⟨rfl, by rw [e2, q_I_s]; rfl⟩⟩
  obtain ⟨N3, e3, q3, a3, b3⟩ := r_gs (d := d + 8 - k_m K) hwf (k_m K) (r := []) (R := k_mb K) (by show 0 + k_m K = k_m K; omega) ⟨fun i hi => absurd hi (by show ¬ i < 0; omega), fun i j hi => absurd hi (by show ¬ i < 0; omega)⟩ ⟨k_mb_lt hk, fun p => by rw [k_mb_bit hk]; show k_mem K p = (k_mem K p && !false); rw [Bool.not_false, Bool.and_true]⟩ (k_mb_cd hk) on2 of2
  rw [show d + 8 - k_m K + 8 + k_m K = d + 16 by omega, show ([] : List Nat).length = 0 from rfl] at e3
  have q13 : q_eq [413, 412, 418, 419, 420, 422] N1 N3 := (q2.sub (by decide)).tr (q3.1.sub (by decide))
  obtain ⟨N4, e4, q4, q4'⟩ := r_ab (d := d + 15) (lv := 0) h (by decide) q1 a1 q13 (by decide) (fun k hk' => a3.2.1 k (by omega))
  refine ⟨N4, ?_, q4, fun k hk' => ?_, ?_⟩
  · have mb := r_mb (d := d + 14) r2
    rw [E_X12_laysOrders]
    simp (disch := omega) only [q_ckt, q_lt, q_cI, q_cJ, q_cV, q_cP, q_xI, q_xV, q_xP, q_xJ, g_gk, g_ga, g_gw, g_gp, g_gq, g_P, g_J, q_I_s, q_I_n, q_I_k, nI_add, pk_sub, pk_mul, nI_clamp, n_lt0, n_0lt, n_eq0, n_lt, n_le, n_eq, n_m1, n_m2, n_m9, n_12, n_19, n_10, n_01, n_1n1, n_0n1, n_1n0, n_0n0, n_dI, n_m1lt, q_inb, n_nar, n_nar0, n_nar1, n_bool, Bool.false_eq_true, Bool.true_eq_false, if_true, if_false, ↓reduceIte, Nat.reduceAdd, Nat.reduceMul, Nat.reduceSub, Nat.reduceLT, Nat.reduceLeDiff, Nat.reduceEqDiff, Nat.reduceMod, Nat.reduceDiv, q_R h.1, e1, q_R r1.1, show ir_isB (nI 0) = true from rfl, Bool.and_self]
    rw [← e2]
    simp (disch := omega) only [q_ckt, q_lt, q_cI, q_cJ, q_cV, q_cP, q_xI, q_xV, q_xP, q_xJ, g_gk, g_ga, g_gw, g_gp, g_gq, g_P, g_J, q_I_s, q_I_n, q_I_k, nI_add, pk_sub, pk_mul, nI_clamp, n_lt0, n_0lt, n_eq0, n_lt, n_le, n_eq, n_m1, n_m2, n_m9, n_12, n_19, n_10, n_01, n_1n1, n_0n1, n_1n0, n_0n0, n_dI, n_m1lt, q_inb, n_nar, n_nar0, n_nar1, n_bool, Bool.false_eq_true, Bool.true_eq_false, if_true, if_false, ↓reduceIte, Nat.reduceAdd, Nat.reduceMul, Nat.reduceSub, Nat.reduceLT, Nat.reduceLeDiff, Nat.reduceEqDiff, Nat.reduceMod, Nat.reduceDiv, q_R r2.1, mb, e3, q_R a3.1, e4]
  · rw [q_I_eq q4' (by decide), q3.2 k hk', e2, q_I_k (by omega), q_I_k (by omega), q_I_k (by omega), q_I_eq q1 (by decide)]
  · unfold r_of at b3 ⊢
    simp only [q_I_eq q4' (show 412 ∉ [413] by decide), q_I_eq q4' (show 422 ∉ [413] by decide)]
    exact b3
theorem q_st_412 {S : List Nat} {M M' : ir_M} (hp : q_PI M) (he : q_eq S M M') (hS : ∀ a ∈ S, q_tmp a = true ∨ a = 412) (h4 : ∀ k, q_l2 412 k = true → ir_I M' 412 k = ir_I M 412 k) : q_st 0 M M' := by
  have ne : ∀ a, q_tmp a = false → a ≠ 412 → M'.1 a = M.1 a := fun a h1 h2 => he.1 a (fun q => by
    rcases hS a q with w | w
    · rw [w] at h1; exact nomatch h1
    · exact h2 w)
  have t1 : ∀ a, q_l1 a = true → q_tmp a = false := fun a ha => by
    cases e : q_tmp a
    · rfl
    · rw [(q_tmp_no e).1] at ha; exact nomatch ha
  have t2 : ∀ a k, q_l2 a k = true → q_tmp a = false := fun a k ha => by
    cases e : q_tmp a
    · rfl
    · rw [(q_tmp_no e).2.1 k] at ha; exact nomatch ha
  have t3 : ∀ a k, q_l3 a k = true → q_tmp a = false := fun a k ha => by
    cases e : q_tmp a
    · rfl
    · rw [(q_tmp_no e).2.2 k] at ha; exact nomatch ha
  refine ⟨q_go_2 hp he.2 (fun a ha => ne a ?_ (by omega)), fun a ha => ne a (t1 a ha) (fun w => by rw [w] at ha; exact nomatch ha), ⟨fun a k ha => ?_, fun a _ => by rw [he.2]⟩, fun a k ha => congrFun (ne a (t3 a k ha) (fun w => by rw [w] at ha; exact nomatch ha)) k⟩
  · cases e : q_tmp a
    · rfl
    · have := q_tmp_r e; omega
  · by_cases q : a = 412
    · rw [q] at ha ⊢; exact h4 k ha
    · exact congrFun (ne a (t2 a k ha) q) k
end OR
