/-! changes of the queue -/
theorem q_I_u {M : ir_M} {a k j : Nat} {v : Int32} : ir_I (ir_sI M a k v) a j = if j = k then v else ir_I M a j := by
  by_cases q : j = k
  · rw [if_pos q, q, q_I_s]
  · rw [if_neg q, q_I_k q]
theorem n_dec {x : Nat} (h : 0 < x) : nI x + (-1) = nI (x - 1) := by
  obtain ⟨y, rfl⟩ : ∃ y, x = y + 1 := ⟨x - 1, by omega⟩
  exact pk_m1 y
theorem k_tys_cg {K K' : Nat → Int32} (h : ∀ k, 717 ≤ k → K' k = K k) : (∀ i, k_sp K' i = k_sp K i) ∧ ∀ n, k_tys K' n = k_tys K n := by
  have e : ∀ i, k_sp K' i = k_sp K i := fun i => by unfold k_sp; rw [h _ (by omega)]
  refine ⟨e, fun n => ?_⟩
  induction n with
  | zero => rfl
  | succ n ih =>
    unfold k_tys
    rw [ih, e]
theorem k_wfL_cg {K K' : Nat → Int32} (h7 : K' 7 = K 7) (h : ∀ k, 717 ≤ k → K' k = K k) (hw : k_wfL K) : k_wfL K' := by
  obtain ⟨n, a1, a2, a3, a4, a5⟩ := hw
  obtain ⟨e1, e2⟩ := k_tys_cg h
  refine ⟨n, a1, h7.trans a2, fun i hi => ?_, fun i hi => ?_, ?_⟩
  · rw [h _ (by omega), e1]
    exact a3 i hi
  · rw [e2]
    exact a4 i hi
  · rw [e2]
    exact a5
theorem k_okT_cg {K K' : Nat → Int32} (h : ∀ k, k < 9 → k ≠ 8 → K' k = K k) (h2 : ∀ k, 717 ≤ k → K' k = K k) (hk : k_okT K) : k_okT K' := by
  have eg : k_g K' = k_g K := by unfold k_g; rw [h 1 (by decide) (by decide)]
  have en : k_n K' = k_n K := by unfold k_n; rw [h 2 (by decide) (by decide)]
  have ey : k_y K' = k_y K := by unfold k_y; rw [h 3 (by decide) (by decide)]
  obtain ⟨t1, t2, t3, t4, t5, t6, t7, t8, t9⟩ := hk
  unfold k_okT
  rw [eg, en, ey, h 1 (by decide) (by decide), h 2 (by decide) (by decide), h 3 (by decide) (by decide), h 5 (by decide) (by decide)]
  exact ⟨t1, t2, t3, t4, t5, t6, t7, t8, k_wfL_cg (h 7 (by decide) (by decide)) h2 t9⟩
/-- the same told, another queue -/
theorem k_okS_q {K K' : Nat → Int32} {m : Nat} {Q : Nat → Nat} (hk : k_ok K) (h : ∀ k, k < 53 → ¬ (9 ≤ k ∧ k < 18) → K' k = K k) (h9 : K' 9 = nI m) (hm : m ≤ k_n K) (hq : ∀ i, i < m → K' (10 + i) = nI (Q i)) (hn : ∀ i, i < m → Q i < k_n K) (hi : ∀ i j, i < m → j < m → Q i = Q j → i = j) : k_okS K' ∧ k_m K' = m ∧ ∀ i, i < m → k_q K' i = Q i := by
  have hb := k_bds hk
  have eg : k_g K' = k_g K := by unfold k_g; rw [h 1 (by decide) (by decide)]
  have en : k_n K' = k_n K := by unfold k_n; rw [h 2 (by decide) (by decide)]
  have ew : k_w K' = k_w K := by unfold k_w; rw [h 44 (by decide) (by decide)]
  have em : k_m K' = m := by unfold k_m; rw [h9, nI_clamp (by omega)]
  have eq : ∀ i, i < m → k_q K' i = Q i := fun i hi' => by unfold k_q; rw [hq i hi', nI_clamp (by have := hn i hi'; omega)]
  have ea : ∀ p, p < k_n K → k_a K' p = k_a K p := fun p hp => by unfold k_a; rw [h _ (by omega) (by omega)]
  obtain ⟨-, s1, s2, s3, s4, s5, s6, s7, s8, s9, s10, s11⟩ := hk
  refine ⟨⟨by rw [em, h9], by rw [em, en]; exact hm, fun i hi' => ?_, fun i hi' => ?_, fun i j hi1 hj1 e => ?_, fun p hp => ?_, fun p hp => ?_, ?_, ?_, by rw [ew]; exact s10, fun i hi' => ?_⟩, em, eq⟩
  · rw [em] at hi'
    rw [eq i hi', hq i hi']
  · rw [em] at hi'
    rw [eq i hi', en]
    exact hn i hi'
  · rw [em] at hi1 hj1
    rw [eq i hi1, eq j hj1] at e
    exact hi i j hi1 hj1 e
  · rw [en] at hp
    rw [ea p hp, h _ (by omega) (by omega)]
    exact s6 p hp
  · rw [en] at hp
    rw [ea p hp, eg]
    exact s7 p hp
  · rw [h 43 (by decide) (by decide)]
    exact s8
  · rw [ew, h 44 (by decide) (by decide)]
    exact s9
  · rw [ew] at hi'
    rw [h _ (by omega) (by omega)]
    unfold k_gd
    rw [eg]
    exact s11 i hi'
theorem c_st_q {M M' : ir_M} {s : Nat} {K K' : Nat → Int32} (hc : c_st M s K) (hbw : k_w K ≤ 8) (hbn : k_n K ≤ 8) (he : ∀ j, 2 ≤ j → j < 6 → M'.1 (s + j) = M.1 (s + j)) (h : ∀ k, k < 53 → ¬ (9 ≤ k ∧ k < 18) → K' k = K k) (h0 : ir_I M' s 0 = K' 9) (h1 : ∀ j, 1 ≤ j → j ≤ 3 → ir_I M' s j = ir_I M s j) (hq : ∀ i, i < k_m K' → ir_I M' (s + 1) i = K' (10 + i)) : c_st M' s K' := by
  have en : k_n K' = k_n K := by unfold k_n; rw [h 2 (by decide) (by decide)]
  have ew : k_w K' = k_w K := by unfold k_w; rw [h 44 (by decide) (by decide)]
  have f : ∀ j k, 2 ≤ j → j < 6 → ir_I M' (s + j) k = ir_I M (s + j) k := fun j k h1 h2 => congrFun (he j h1 h2) k
  obtain ⟨b0, b1, b2, b3, b4, b5, b6, b7, b8⟩ := hc
  refine ⟨h0, ?_, ?_, ?_, hq, fun p hp => ?_, fun p hp => ?_, fun p hp => ?_, fun i hi => ?_⟩
  · rw [h1 1 (by decide) (by decide), h 42 (by decide) (by decide)]
    exact b1
  · rw [h1 2 (by decide) (by decide), h 43 (by decide) (by decide)]
    exact b2
  · rw [h1 3 (by decide) (by decide), h 44 (by decide) (by decide)]
    exact b3
  · rw [en] at hp
    rw [f 2 _ (by decide) (by decide), h _ (by omega) (by omega)]
    exact b5 p hp
  · rw [en] at hp
    rw [f 3 _ (by decide) (by decide), h _ (by omega) (by omega)]
    exact b6 p hp
  · rw [en] at hp
    rw [f 4 _ (by decide) (by decide), h _ (by omega) (by omega)]
    exact b7 p hp
  · rw [ew] at hi
    rw [f 5 _ (by decide) (by decide), h _ (by omega) (by omega)]
    exact b8 i hi
def k_out (K : Nat → Int32) (i : Nat) : Nat → Int32 := fun k => if k = 9 then nI (k_m K - 1) else if 10 + i ≤ k ∧ k < 10 + (k_m K - 1) then K (k + 1) else if k = 10 + (k_m K - 1) then 0 else K k
def k_inn (K : Nat → Int32) (p i : Nat) : Nat → Int32 := fun k => if k = 9 then nI (k_m K + 1) else if k = 10 + i then nI p else if 10 + i < k ∧ k ≤ 10 + k_m K then K (k - 1) else K k
def k_mov (K : Nat → Int32) (j i : Nat) : Nat → Int32 := k_inn (k_out K j) (k_q K j) i
/-- who comes to stand at a place -/
def k_sh (j i x : Nat) : Nat := if x = i then j else if j ≤ x ∧ x < i then x + 1 else if i < x ∧ x ≤ j then x - 1 else x
theorem k_m_out {K : Nat → Int32} {i : Nat} (h : k_m K ≤ 8) : k_m (k_out K i) = k_m K - 1 := by
  show (nI (k_m K - 1)).toNatClampNeg = _
  exact nI_clamp (by omega)
theorem k_mov_o {K : Nat → Int32} (h : k_ok K) {j i k : Nat} (hj : j < k_m K) (hi : i < k_m K) (hk : ¬ (9 ≤ k ∧ k < 18)) : k_mov K j i k = K k := by
  have hb := k_bds h
  have em := k_m_out (i := j) (show k_m K ≤ 8 by omega)
  unfold k_mov k_inn
  rw [em, if_neg (by omega), if_neg (by omega), if_neg (by omega)]
  unfold k_out
  rw [if_neg (by omega), if_neg (by omega), if_neg (by omega)]
theorem k_mov_9 {K : Nat → Int32} (h : k_ok K) {j i : Nat} (hj : j < k_m K) : k_mov K j i 9 = nI (k_m K) := by
  have hb := k_bds h
  have em := k_m_out (i := j) (show k_m K ≤ 8 by omega)
  show nI (k_m (k_out K j) + 1) = _
  rw [em, show k_m K - 1 + 1 = k_m K by omega]
theorem k_mov_q {K : Nat → Int32} (h : k_ok K) {j i x : Nat} (hj : j < k_m K) (hi : i < k_m K) (hx : x < k_m K) : k_mov K j i (10 + x) = nI (k_q K (k_sh j i x)) := by
  have hb := k_bds h
  have em := k_m_out (i := j) (show k_m K ≤ 8 by omega)
  have hq := (k_use h).2.2.2.2.2.1
  unfold k_mov k_inn k_sh
  rw [em, if_neg (by omega)]
  by_cases q1 : x = i
  · rw [if_pos (by omega), if_pos q1]
  · rw [if_neg (by omega), if_neg q1]
    by_cases q2 : 10 + i < 10 + x ∧ 10 + x ≤ 10 + (k_m K - 1)
    · rw [if_pos q2]
      unfold k_out
      rw [if_neg (by omega)]
      by_cases q3 : 10 + j ≤ 10 + x - 1 ∧ 10 + x - 1 < 10 + (k_m K - 1)
      · rw [if_pos q3, if_neg (by omega), if_neg (by omega), show 10 + x - 1 + 1 = 10 + x by omega]
        exact hq x hx
      · rw [if_neg q3, if_neg (by omega), if_neg (by omega), if_pos (by omega), show 10 + x - 1 = 10 + (x - 1) by omega]
        exact hq _ (by omega)
    · rw [if_neg q2]
      unfold k_out
      rw [if_neg (by omega)]
      by_cases q3 : 10 + j ≤ 10 + x ∧ 10 + x < 10 + (k_m K - 1)
      · rw [if_pos q3, if_pos (by omega), show 10 + x + 1 = 10 + (x + 1) by omega]
        exact hq _ (by omega)
      · rw [if_neg q3, if_neg (by omega), if_neg (by omega), if_neg (by omega)]
        exact hq x hx
theorem k_sh_lt {j i x m : Nat} (hj : j < m) (hi : i < m) (hx : x < m) : k_sh j i x < m := by
  unfold k_sh
  repeat' split
  all_goals omega
theorem k_sh_inj {j i x y : Nat} (e : k_sh j i x = k_sh j i y) : x = y := by
  unfold k_sh at e
  repeat' split at e
  all_goals omega
theorem k_mov_ok {K : Nat → Int32} (h : k_ok K) {j i : Nat} (hj : j < k_m K) (hi : i < k_m K) : k_ok (k_mov K j i) ∧ k_m (k_mov K j i) = k_m K ∧ ∀ x, x < k_m K → k_q (k_mov K j i) x = k_q K (k_sh j i x) := by
  obtain ⟨a, b, c⟩ := k_okS_q (K' := k_mov K j i) (m := k_m K) (Q := fun x => k_q K (k_sh j i x)) h (fun k _ hk => k_mov_o h hj hi hk) (k_mov_9 h hj) (k_bds h).2.2.1 (fun x hx => k_mov_q h hj hi hx) (fun x hx => k_qn h (k_sh_lt hj hi hx)) (fun x y hx hy e => k_sh_inj (h.2.2.2.2.2.1 _ _ (k_sh_lt hj hi hx) (k_sh_lt hj hi hy) e))
  exact ⟨⟨k_okT_cg (fun k hk _ => k_mov_o h hj hi (by omega)) (fun k hk => k_mov_o h hj hi (by omega)) h.1, a⟩, b, c⟩
theorem k_out_o {K : Nat → Int32} (h : k_ok K) {j k : Nat} (hj : j < k_m K) (hk : ¬ (9 ≤ k ∧ k < 18)) : k_out K j k = K k := by
  have hb := k_bds h
  unfold k_out
  rw [if_neg (by omega), if_neg (by omega), if_neg (by omega)]
theorem k_out_q {K : Nat → Int32} (h : k_ok K) {j x : Nat} (hj : j < k_m K) (hx : x < k_m K - 1) : k_out K j (10 + x) = nI (k_q K (if x < j then x else x + 1)) := by
  have hq := (k_use h).2.2.2.2.2.1
  unfold k_out
  rw [if_neg (by omega)]
  by_cases q : x < j
  · rw [if_neg (by omega), if_neg (by omega), if_pos q]
    exact hq x (by omega)
  · rw [if_pos (by omega), if_neg q, show 10 + x + 1 = 10 + (x + 1) by omega]
    exact hq _ (by omega)
theorem k_out_ok {K : Nat → Int32} (h : k_ok K) {j : Nat} (hj : j < k_m K) : k_ok (k_out K j) ∧ k_m (k_out K j) = k_m K - 1 ∧ ∀ x, x < k_m K - 1 → k_q (k_out K j) x = k_q K (if x < j then x else x + 1) := by
  have hb := k_bds h
  obtain ⟨a, b, c⟩ := k_okS_q (K' := k_out K j) (m := k_m K - 1) (Q := fun x => k_q K (if x < j then x else x + 1)) h (fun k _ hk => k_out_o h hj hk) rfl (by omega) (fun x hx => k_out_q h hj hx) (fun x hx => k_qn h (by split <;> omega)) (fun x y hx hy e => by
    have := h.2.2.2.2.2.1 _ _ (show (if x < j then x else x + 1) < k_m K by split <;> omega) (show (if y < j then y else y + 1) < k_m K by split <;> omega) e
    split at this <;> split at this <;> omega)
  exact ⟨⟨k_okT_cg (fun k hk _ => k_out_o h hj (by omega)) (fun k hk => k_out_o h hj (by omega)) h.1, a⟩, b, c⟩
section OP
variable {M : ir_M} {K : Nat → Int32} {d s : Nat}
theorem r_goesOut (hp : q_PI M) (hK : ∀ k, ir_I M 413 k = K k) (h9 : K 9 = nI (k_m K)) (h8 : k_m K ≤ 8) {i : Nat} (hi : i < k_m K) : ∃ M', m_X12_goesOut (d + 2) 412 (nI i) M = ir_oV M' ∧ q_eq [413] M M' ∧ ∀ k, ir_I M' 413 k = k_out K i k := by
  rw [E_X12_goesOut]
  have L := q_up (σ := ir_M) (V := fun x t => v_X12_goesOut_2 (d + 1) 412 (nI x) t) (N := k_m K - 1) (I := fun x t => i ≤ x ∧ q_eq [413] M t ∧ ∀ k, ir_I t 413 k = if 10 + i ≤ k ∧ k < 10 + x then K (k + 1) else K k) (K := fun t => ir_oV (ir_sI (ir_sI t 413 9 (nI (k_m K - 1))) 413 (10 + (k_m K - 1)) (nI 0))) (by
    rintro x t hx ⟨hix, he, ht⟩
    have hpt := q_PI_eq he hp
    have e9 : ir_I t 413 9 = nI (k_m K) := by rw [ht, if_neg (by omega), h9]
    have ex : ir_I t 413 (10 + (x + 1)) = K (10 + x + 1) := by rw [ht, if_neg (by omega)]; rfl
    refine ⟨ir_sI t 413 (10 + x) (K (10 + x + 1)), ⟨by omega, he.tr (q_eq.sI (by decide)), fun k => ?_⟩, ?_⟩
    · rw [q_I_u, ht]
      by_cases q : k = 10 + x
      · rw [if_pos q, if_pos (by omega), q]
      · rw [if_neg q]
        by_cases q2 : 10 + i ≤ k ∧ k < 10 + x
        · rw [if_pos q2, if_pos (by omega)]
        · rw [if_neg q2, if_neg (by omega)]
    · rw [L_X12_goesOut_2]
      simp (disch := omega) only [q_ckt, q_lt, q_cI, q_cJ, q_cV, q_cP, q_xI, q_xV, q_xP, q_xJ, g_gk, g_ga, g_gw, g_gp, g_gq, g_P, g_J, q_I_s, q_I_n, q_I_k, nI_add, pk_sub, pk_mul, nI_clamp, n_lt0, n_0lt, n_eq0, n_lt, n_le, n_eq, n_m1, n_m2, n_m9, n_12, n_19, n_10, n_01, n_1n1, n_0n1, n_1n0, n_0n0, n_dI, n_m1lt, q_inb, n_nar, n_nar0, n_nar1, n_bool, Bool.false_eq_true, Bool.true_eq_false, if_true, if_false, ↓reduceIte, Nat.reduceAdd, Nat.reduceMul, Nat.reduceSub, Nat.reduceLT, Nat.reduceLeDiff, Nat.reduceEqDiff, Nat.reduceMod, Nat.reduceDiv, q_R hpt, E_X12_queued, E_X12_who, e9, hx, ex]) (by
    rintro t ⟨hix, he, ht⟩
    have hpt := q_PI_eq he hp
    have e9 : ir_I t 413 9 = nI (k_m K) := by rw [ht, if_neg (by omega), h9]
    rw [L_X12_goesOut_2]
    simp (disch := omega) only [q_ckt, q_lt, q_cI, q_cJ, q_cV, q_cP, q_xI, q_xV, q_xP, q_xJ, g_gk, g_ga, g_gw, g_gp, g_gq, g_P, g_J, q_I_s, q_I_n, q_I_k, nI_add, pk_sub, pk_mul, nI_clamp, n_lt0, n_0lt, n_eq0, n_lt, n_le, n_eq, n_m1, n_m2, n_m9, n_12, n_19, n_10, n_01, n_1n1, n_0n1, n_1n0, n_0n0, n_dI, n_m1lt, q_inb, n_nar, n_nar0, n_nar1, n_bool, Bool.false_eq_true, Bool.true_eq_false, if_true, if_false, ↓reduceIte, Nat.reduceAdd, Nat.reduceMul, Nat.reduceSub, Nat.reduceLT, Nat.reduceLeDiff, Nat.reduceEqDiff, Nat.reduceMod, Nat.reduceDiv, q_R hpt, E_X12_queued, e9, Nat.lt_irrefl]) (i := i) (t := M) (by omega) ⟨Nat.le_refl _, q_eq.rf _ _, fun k => by rw [if_neg (by omega)]; exact hK k⟩
  obtain ⟨t, ⟨-, he, ht⟩, e⟩ := L
  refine ⟨_, e, he.tr ((q_eq.sI (by decide)).tr (q_eq.sI (by decide))), fun k => ?_⟩
  rw [q_I_u, q_I_u, ht]
  unfold k_out
  by_cases q1 : k = 9
  · rw [if_neg (show ¬ k = 10 + (k_m K - 1) by omega), if_pos q1, if_pos q1]
  · by_cases q2 : 10 + i ≤ k ∧ k < 10 + (k_m K - 1)
    · rw [if_neg (show ¬ k = 10 + (k_m K - 1) by omega), if_neg q1, if_pos q2, if_neg q1, if_pos q2]
    · by_cases q3 : k = 10 + (k_m K - 1)
      · rw [if_pos q3, if_neg q1, if_neg q2, if_pos q3]
        rfl
      · rw [if_neg q3, if_neg q1, if_neg q2, if_neg q1, if_neg q2, if_neg q3]
theorem r_comesIn (hp : q_PI M) (hK : ∀ k, ir_I M 413 k = K k) (h9 : K 9 = nI (k_m K)) (h8 : k_m K ≤ 7) {p i : Nat} (hi : i ≤ k_m K) : ∃ M', m_X12_comesIn (d + 2) 412 (nI p) (nI i) M = ir_oV M' ∧ q_eq [413] M M' ∧ ∀ k, ir_I M' 413 k = k_inn K p i k := by
  rw [E_X12_comesIn]
  have L := q_up (σ := ir_M) (V := fun y t => v_X12_comesIn_5 (d + 1) 412 (nI p) (nI i) (nI (k_m K - y)) t) (N := k_m K - i) (I := fun y t => q_eq [413] M t ∧ ∀ k, ir_I t 413 k = if 10 + (k_m K - y) < k ∧ k ≤ 10 + k_m K then K (k - 1) else K k) (K := fun t => ir_oV (ir_sI (ir_sI t 413 (10 + i) (nI p)) 413 9 (nI (k_m K + 1)))) (by
    rintro y t hy ⟨he, ht⟩
    have hpt := q_PI_eq he hp
    have ex : ir_I t 413 (10 + (k_m K - (y + 1))) = K (10 + (k_m K - (y + 1))) := by rw [ht, if_neg (by omega)]
    refine ⟨ir_sI t 413 (10 + (k_m K - y)) (K (10 + (k_m K - y - 1))), ⟨he.tr (q_eq.sI (by decide)), fun k => ?_⟩, ?_⟩
    · rw [q_I_u, ht]
      by_cases q : k = 10 + (k_m K - y)
      · rw [if_pos q, if_pos (by omega), q, show 10 + (k_m K - y) - 1 = 10 + (k_m K - y - 1) by omega]
      · rw [if_neg q]
        by_cases q2 : 10 + (k_m K - y) < k ∧ k ≤ 10 + k_m K
        · rw [if_pos q2, if_pos (by omega)]
        · rw [if_neg q2, if_neg (by omega)]
    · rw [L_X12_comesIn_5]
      simp (disch := omega) only [q_ckt, q_lt, q_cI, q_cJ, q_cV, q_cP, q_xI, q_xV, q_xP, q_xJ, g_gk, g_ga, g_gw, g_gp, g_gq, g_P, g_J, q_I_s, q_I_n, q_I_k, nI_add, pk_sub, pk_mul, nI_clamp, n_lt0, n_0lt, n_eq0, n_lt, n_le, n_eq, n_m1, n_m2, n_m9, n_12, n_19, n_10, n_01, n_1n1, n_0n1, n_1n0, n_0n0, n_dI, n_m1lt, q_inb, n_nar, n_nar0, n_nar1, n_bool, Bool.false_eq_true, Bool.true_eq_false, if_true, if_false, ↓reduceIte, Nat.reduceAdd, Nat.reduceMul, Nat.reduceSub, Nat.reduceLT, Nat.reduceLeDiff, Nat.reduceEqDiff, Nat.reduceMod, Nat.reduceDiv, q_R hpt, E_X12_who, show i < k_m K - y by omega, ex, n_dec, Nat.sub_sub]) (by
    rintro t ⟨he, ht⟩
    have hpt := q_PI_eq he hp
    have e9 : ir_I t 413 9 = nI (k_m K) := by rw [ht, if_neg (by omega), h9]
    rw [L_X12_comesIn_5]
    simp (disch := omega) only [q_ckt, q_lt, q_cI, q_cJ, q_cV, q_cP, q_xI, q_xV, q_xP, q_xJ, g_gk, g_ga, g_gw, g_gp, g_gq, g_P, g_J, q_I_s, q_I_n, q_I_k, nI_add, pk_sub, pk_mul, nI_clamp, n_lt0, n_0lt, n_eq0, n_lt, n_le, n_eq, n_m1, n_m2, n_m9, n_12, n_19, n_10, n_01, n_1n1, n_0n1, n_1n0, n_0n0, n_dI, n_m1lt, q_inb, n_nar, n_nar0, n_nar1, n_bool, Bool.false_eq_true, Bool.true_eq_false, if_true, if_false, ↓reduceIte, Nat.reduceAdd, Nat.reduceMul, Nat.reduceSub, Nat.reduceLT, Nat.reduceLeDiff, Nat.reduceEqDiff, Nat.reduceMod, Nat.reduceDiv, q_R hpt, E_X12_queued, e9, show ¬ i < k_m K - (k_m K - i) by omega]) (i := 0) (t := M) (by omega) ⟨q_eq.rf _ _, fun k => by rw [if_neg (by omega)]; exact hK k⟩
  obtain ⟨t, ⟨he, ht⟩, e⟩ := L
  have e9 : ir_I M 413 9 = nI (k_m K) := (hK 9).trans h9
  refine ⟨ir_sI (ir_sI t 413 (10 + i) (nI p)) 413 9 (nI (k_m K + 1)), ?_, he.tr ((q_eq.sI (by decide)).tr (q_eq.sI (by decide))), fun k => ?_⟩
  · simp (disch := omega) only [q_ckt, q_lt, q_cI, q_cJ, q_cV, q_cP, q_xI, q_xV, q_xP, q_xJ, g_gk, g_ga, g_gw, g_gp, g_gq, g_P, g_J, q_I_s, q_I_n, q_I_k, nI_add, pk_sub, pk_mul, nI_clamp, n_lt0, n_0lt, n_eq0, n_lt, n_le, n_eq, n_m1, n_m2, n_m9, n_12, n_19, n_10, n_01, n_1n1, n_0n1, n_1n0, n_0n0, n_dI, n_m1lt, q_inb, n_nar, n_nar0, n_nar1, n_bool, Bool.false_eq_true, Bool.true_eq_false, if_true, if_false, ↓reduceIte, Nat.reduceAdd, Nat.reduceMul, Nat.reduceSub, Nat.reduceLT, Nat.reduceLeDiff, Nat.reduceEqDiff, Nat.reduceMod, Nat.reduceDiv, q_R hp, E_X12_queued, e9]
    exact e
  · rw [q_I_u, q_I_u, ht]
    unfold k_inn
    by_cases q1 : k = 9
    · rw [if_pos q1, if_pos q1]
    · rw [if_neg q1, if_neg q1]
      by_cases q2 : k = 10 + i
      · rw [if_pos q2, if_pos q2]
      · rw [if_neg q2, if_neg q2]
        by_cases q3 : 10 + i < k ∧ k ≤ 10 + k_m K
        · rw [if_pos q3, if_pos (by omega)]
        · rw [if_neg q3, if_neg (by omega)]
theorem r_moves (h : r_rl M K) {j i : Nat} (hj : j < k_m K) (hi : i < k_m K) : ∃ M', m_X12_moves (d + 3) 412 (nI (k_q K j)) (nI i) M = ir_oV M' ∧ q_eq [413] M M' ∧ ∀ k, ir_I M' 413 k = k_mov K j i k := by
  have hb := k_bds h.2.1
  have hqn := k_qn h.2.1 hj
  obtain ⟨M1, e1, h1, a1⟩ := r_goesOut (d := d) h.1 h.2.2 (k_use h.2.1).2.2.2.1 (by omega) hj
  have hp1 := q_PI_eq h1 h.1
  have em := k_m_out (i := j) (show k_m K ≤ 8 by omega)
  obtain ⟨M2, e2, h2, a2⟩ := r_comesIn (d := d) (p := k_q K j) (i := i) hp1 a1 (show k_out K j 9 = nI (k_m (k_out K j)) by rw [em]; rfl) (by omega) (by omega)
  refine ⟨M2, ?_, h1.tr h2, a2⟩
  rw [E_X12_moves]
  simp (disch := omega) only [q_ckt, q_lt, q_cI, q_cJ, q_cV, q_cP, q_xI, q_xV, q_xP, q_xJ, g_gk, g_ga, g_gw, g_gp, g_gq, g_P, g_J, q_I_s, q_I_n, q_I_k, nI_add, pk_sub, pk_mul, nI_clamp, n_lt0, n_0lt, n_eq0, n_lt, n_le, n_eq, n_m1, n_m2, n_m9, n_12, n_19, n_10, n_01, n_1n1, n_0n1, n_1n0, n_0n0, n_dI, n_m1lt, q_inb, n_nar, n_nar0, n_nar1, n_bool, Bool.false_eq_true, Bool.true_eq_false, if_true, if_false, ↓reduceIte, Nat.reduceAdd, Nat.reduceMul, Nat.reduceSub, Nat.reduceLT, Nat.reduceLeDiff, Nat.reduceEqDiff, Nat.reduceMod, Nat.reduceDiv, q_R h.1, r_placeOf h (show k_q K j < 2 ^ 31 by omega), k_pl_q h.2.1 hj, k_on, e1, q_R hp1, e2]
/-- the class's shift -/
theorem c_shift (h : c_rl M s K) {j i : Nat} (hj : j < k_m K) (hi : i < k_m K) : ∃ M', m_X8_shift (d + 1) s (nI j) (nI i) M = ir_oV M' ∧ q_eq [s + 1] M M' ∧ ∀ x, x < 8 → ir_I M' (s + 1) x = ir_I M (s + 1) (k_sh j i x) := by
  have hb := k_bds h.2.2.1
  have hqn := k_qn h.2.2.1 hj
  have hqj := (c_use h).2.2.2.2.2.2.2.2.2.1 j hj
  have L1 := q_up (σ := ir_M) (V := fun x t => v_X8_shift_35 d s (nI j) (nI i) (nI (k_q K j)) (nI x) t) (N := max i j) (I := fun x t => j ≤ x ∧ q_eq [s + 1] M t ∧ ∀ k, ir_I t (s + 1) k = if j ≤ k ∧ k < x then ir_I M (s + 1) (k + 1) else ir_I M (s + 1) k) (K := fun t => v_X8_shift_66 d s (nI i) (nI (k_q K j)) (nI j) t) (by
    rintro x t hx ⟨hjx, he, ht⟩
    have hpt := q_PI_eq he h.1
    have ex : ir_I t (s + 1) (x + 1) = ir_I M (s + 1) (x + 1) := by rw [ht, if_neg (by omega)]
    refine ⟨ir_sI t (s + 1) x (ir_I M (s + 1) (x + 1)), ⟨by omega, he.tr (q_eq.sI (List.mem_singleton.mpr rfl)), fun k => ?_⟩, ?_⟩
    · rw [q_I_u, ht]
      by_cases q : k = x
      · rw [if_pos q, if_pos (by omega), q]
      · rw [if_neg q]
        by_cases q2 : j ≤ k ∧ k < x
        · rw [if_pos q2, if_pos (by omega)]
        · rw [if_neg q2, if_neg (by omega)]
    · rw [L_X8_shift_35]
      simp (disch := omega) only [q_ckt, q_lt, q_cI, q_cJ, q_cV, q_cP, q_xI, q_xV, q_xP, q_xJ, g_gk, g_ga, g_gw, g_gp, g_gq, g_P, g_J, q_I_s, q_I_n, q_I_k, nI_add, pk_sub, pk_mul, nI_clamp, n_lt0, n_0lt, n_eq0, n_lt, n_le, n_eq, n_m1, n_m2, n_m9, n_12, n_19, n_10, n_01, n_1n1, n_0n1, n_1n0, n_0n0, n_dI, n_m1lt, q_inb, n_nar, n_nar0, n_nar1, n_bool, Bool.false_eq_true, Bool.true_eq_false, if_true, if_false, ↓reduceIte, Nat.reduceAdd, Nat.reduceMul, Nat.reduceSub, Nat.reduceLT, Nat.reduceLeDiff, Nat.reduceEqDiff, Nat.reduceMod, Nat.reduceDiv, q_S hpt h.2.1, show x < i by omega, ex]) (by
    rintro t ⟨hjx, he, ht⟩
    rw [L_X8_shift_35]
    simp (disch := omega) only [q_ckt, q_lt, q_cI, q_cJ, q_cV, q_cP, q_xI, q_xV, q_xP, q_xJ, g_gk, g_ga, g_gw, g_gp, g_gq, g_P, g_J, q_I_s, q_I_n, q_I_k, nI_add, pk_sub, pk_mul, nI_clamp, n_lt0, n_0lt, n_eq0, n_lt, n_le, n_eq, n_m1, n_m2, n_m9, n_12, n_19, n_10, n_01, n_1n1, n_0n1, n_1n0, n_0n0, n_dI, n_m1lt, q_inb, n_nar, n_nar0, n_nar1, n_bool, Bool.false_eq_true, Bool.true_eq_false, if_true, if_false, ↓reduceIte, Nat.reduceAdd, Nat.reduceMul, Nat.reduceSub, Nat.reduceLT, Nat.reduceLeDiff, Nat.reduceEqDiff, Nat.reduceMod, Nat.reduceDiv, show ¬ max i j < i by omega]) (i := j) (t := M) (by omega) ⟨Nat.le_refl _, q_eq.rf _ _, fun k => by rw [if_neg (by omega)]⟩
  obtain ⟨t1, ⟨-, he1, ht1⟩, e1⟩ := L1
  have L2 := q_up (σ := ir_M) (V := fun y t => v_X8_shift_66 d s (nI i) (nI (k_q K j)) (nI (j - y)) t) (N := j - i) (I := fun y t => q_eq [s + 1] M t ∧ ∀ k, ir_I t (s + 1) k = if j ≤ k ∧ k < max i j then ir_I M (s + 1) (k + 1) else if j - y < k ∧ k ≤ j then ir_I M (s + 1) (k - 1) else ir_I M (s + 1) k) (K := fun t => ir_oV (ir_sI t (s + 1) i (nI (k_q K j)))) (by
    rintro y t hy ⟨he, ht⟩
    have hpt := q_PI_eq he h.1
    have ex : ir_I t (s + 1) (j - (y + 1)) = ir_I M (s + 1) (j - (y + 1)) := by rw [ht, if_neg (by omega), if_neg (by omega)]
    refine ⟨ir_sI t (s + 1) (j - y) (ir_I M (s + 1) (j - y - 1)), ⟨he.tr (q_eq.sI (List.mem_singleton.mpr rfl)), fun k => ?_⟩, ?_⟩
    · rw [q_I_u, ht]
      by_cases q : k = j - y
      · rw [if_pos q, if_neg (by omega), if_pos (by omega), q]
      · rw [if_neg q]
        by_cases q2 : j ≤ k ∧ k < max i j
        · rw [if_pos q2, if_pos (by omega)]
        · rw [if_neg q2, if_neg q2]
          by_cases q3 : j - y < k ∧ k ≤ j
          · rw [if_pos q3, if_pos (by omega)]
          · rw [if_neg q3, if_neg (by omega)]
    · rw [L_X8_shift_66]
      simp (disch := omega) only [q_ckt, q_lt, q_cI, q_cJ, q_cV, q_cP, q_xI, q_xV, q_xP, q_xJ, g_gk, g_ga, g_gw, g_gp, g_gq, g_P, g_J, q_I_s, q_I_n, q_I_k, nI_add, pk_sub, pk_mul, nI_clamp, n_lt0, n_0lt, n_eq0, n_lt, n_le, n_eq, n_m1, n_m2, n_m9, n_12, n_19, n_10, n_01, n_1n1, n_0n1, n_1n0, n_0n0, n_dI, n_m1lt, q_inb, n_nar, n_nar0, n_nar1, n_bool, Bool.false_eq_true, Bool.true_eq_false, if_true, if_false, ↓reduceIte, Nat.reduceAdd, Nat.reduceMul, Nat.reduceSub, Nat.reduceLT, Nat.reduceLeDiff, Nat.reduceEqDiff, Nat.reduceMod, Nat.reduceDiv, q_S hpt h.2.1, show i < j - y by omega, ex, n_dec, Nat.sub_sub]) (by
    rintro t ⟨he, ht⟩
    have hpt := q_PI_eq he h.1
    rw [L_X8_shift_66]
    simp (disch := omega) only [q_ckt, q_lt, q_cI, q_cJ, q_cV, q_cP, q_xI, q_xV, q_xP, q_xJ, g_gk, g_ga, g_gw, g_gp, g_gq, g_P, g_J, q_I_s, q_I_n, q_I_k, nI_add, pk_sub, pk_mul, nI_clamp, n_lt0, n_0lt, n_eq0, n_lt, n_le, n_eq, n_m1, n_m2, n_m9, n_12, n_19, n_10, n_01, n_1n1, n_0n1, n_1n0, n_0n0, n_dI, n_m1lt, q_inb, n_nar, n_nar0, n_nar1, n_bool, Bool.false_eq_true, Bool.true_eq_false, if_true, if_false, ↓reduceIte, Nat.reduceAdd, Nat.reduceMul, Nat.reduceSub, Nat.reduceLT, Nat.reduceLeDiff, Nat.reduceEqDiff, Nat.reduceMod, Nat.reduceDiv, q_S hpt h.2.1, show ¬ i < j - (j - i) by omega]) (i := 0) (t := t1) (by omega) ⟨he1, fun k => by
      rw [ht1]
      by_cases q2 : j ≤ k ∧ k < max i j
      · rw [if_pos q2, if_pos q2]
      · rw [if_neg q2, if_neg q2, if_neg (by omega)]⟩
  obtain ⟨t2, ⟨he2, ht2⟩, e2⟩ := L2
  refine ⟨ir_sI t2 (s + 1) i (nI (k_q K j)), ?_, he2.tr (q_eq.sI (List.mem_singleton.mpr rfl)), fun x hx => ?_⟩
  · rw [E_X8_shift]
    simp (disch := omega) only [q_ckt, q_lt, q_cI, q_cJ, q_cV, q_cP, q_xI, q_xV, q_xP, q_xJ, g_gk, g_ga, g_gw, g_gp, g_gq, g_P, g_J, q_I_s, q_I_n, q_I_k, nI_add, pk_sub, pk_mul, nI_clamp, n_lt0, n_0lt, n_eq0, n_lt, n_le, n_eq, n_m1, n_m2, n_m9, n_12, n_19, n_10, n_01, n_1n1, n_0n1, n_1n0, n_0n0, n_dI, n_m1lt, q_inb, n_nar, n_nar0, n_nar1, n_bool, Bool.false_eq_true, Bool.true_eq_false, if_true, if_false, ↓reduceIte, Nat.reduceAdd, Nat.reduceMul, Nat.reduceSub, Nat.reduceLT, Nat.reduceLeDiff, Nat.reduceEqDiff, Nat.reduceMod, Nat.reduceDiv, q_S h.1 h.2.1, c_use h, hj, hi]
    exact e1.trans e2
  · rw [q_I_u, ht2]
    unfold k_sh
    by_cases q1 : x = i
    · rw [if_pos q1, if_pos q1, hqj]
    · rw [if_neg q1, if_neg q1]
      by_cases q2 : j ≤ x ∧ x < max i j
      · rw [if_pos q2, if_pos (show j ≤ x ∧ x < i by omega)]
      · rw [if_neg q2, if_neg (show ¬ (j ≤ x ∧ x < i) by omega)]
        by_cases q3 : j - (j - i) < x ∧ x ≤ j
        · rw [if_pos q3, if_pos (show i < x ∧ x ≤ j by omega)]
        · rw [if_neg q3, if_neg (show ¬ (i < x ∧ x ≤ j) by omega)]
end OP
